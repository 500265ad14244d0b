/-! ===== making objects and rows; objects under way (kind 100 and the class's) ===== -/
def hp_nw (α : hp_T) (h κ : Nat) : hp_T := (fun b => if b = h then κ else α.1 b, fun φ b => if b = h then 0 else α.2.1 φ b, fun φ b => if b = h then 0 else α.2.2.1 φ b, α.2.2.2.1, fun φ b => if b = h then none else α.2.2.2.2.1 φ b, fun ψ b i => if b = h then 0 else α.2.2.2.2.2.1 ψ b i, fun ψ b i => if b = h then 0 else α.2.2.2.2.2.2.1 ψ b i, fun ψ b i => if b = h then none else α.2.2.2.2.2.2.2 ψ b i)
def hp_dv (t : Nat) : Value := if t = 0 then .int 0 else if t = 2 then .long 0 else .null
theorem nw_v_ne {α : hp_T} {h κ b t φ : Nat} (hb : b ≠ h) : hp_v (hp_nw α h κ) b t φ = hp_v α b t φ := by
  simp [hp_v, hp_I, hp_J, hp_R, hp_N, hp_nw, hb]
theorem nw_ce_ne {dA : Nat → ClassId} {α : hp_T} {h κ b : Nat} (hb : b ≠ h) : ∀ ψ, hp_ce dA (hp_nw α h κ) ψ b = hp_ce dA α ψ b :=
  hp_ce_neE (fun t φ => nw_v_ne hb) (fun ψ => ⟨by funext i; simp [hp_E, hp_nw, hb], by funext i; simp [hp_L, hp_nw, hb], by funext i; simp [hp_Q, hp_nw, hb]⟩)
theorem nw_v {α : hp_T} {h κ t φ : Nat} (ht : t ≠ 1) : hp_v (hp_nw α h κ) h t φ = hp_dv t := by
  unfold hp_v hp_dv
  by_cases h0 : t = 0
  · simp [h0, hp_I, hp_nw]
  · by_cases h2 : t = 2
    · simp [h2, hp_J, hp_nw]
    · simp [h0, ht, h2, hp_N, hp_nw, va_rf]
theorem nw_fv {α : hp_T} {h κ : Nat} : ∀ (ts : List Nat) (ψ : Nat), (∀ t ∈ ts, t ≠ 1) → hp_fv (hp_nw α h κ) h ts ψ = ts.map hp_dv := by
  intro ts
  induction ts with
  | nil => intro ψ _; rfl
  | cons t ts ih =>
    intro ψ ht
    show _ :: _ = _ :: _
    rw [nw_v (ht t List.mem_cons_self), ih (ψ + 1) (fun q hq => ht q (List.mem_cons_of_mem _ hq))]
theorem tg_no1 {κ : Nat} (hκ : 1 ≤ κ) : ∀ t ∈ hp_tg (100 + κ), t ≠ 1 := by
  intro t ht
  unfold hp_tg at ht
  rw [if_neg (by omega)] at ht
  obtain ⟨q, -, rfl⟩ := List.mem_map.mp ht
  unfold hp_rw
  by_cases h : q = 1
  · rw [if_pos h]; decide
  · rw [if_neg h]; exact h
theorem hp_Rep.fresh {Γ : hp_G} {α : hp_T} {H : Heap} (h : hp_Rep Γ α H) : hp_K α H.size = 0 := by
  by_cases e : hp_K α H.size = 0
  · exact e
  · exact absurd (h.2.2 _ e).2.lt (Nat.lt_irrefl _)
theorem hp_Rep.nw {Γ : hp_G} {α : hp_T} {H H1 : Heap} {κ : Nat} (h : hp_Rep Γ α H) (z : H1.size = H.size + 1) (o : ∀ q : Nat, q < H.size → H1[q]? = H[q]?) (he : va_at (Γ.2.1, Γ.2.2.1) vwCl (H.size, hp_ce Γ.2.2.2.1 (hp_nw α H.size κ) κ H.size) H1) : hp_Rep Γ (hp_nw α H.size κ) H1 := by
  have h0 := h.1
  refine ⟨by omega, fun q hq => (o q (by omega)).trans (h.2.1 q hq), fun a ha => ?_⟩
  by_cases e : a = H.size
  · subst e
    have hk : hp_K (hp_nw α H.size κ) H.size = κ := by simp [hp_K, hp_nw]
    rw [hk]
    exact ⟨h.1, he⟩
  · have hk : hp_K (hp_nw α H.size κ) a = hp_K α a := by simp [hp_K, hp_nw, e]
    rw [hk] at ha ⊢
    obtain ⟨h1, h2⟩ := h.2.2 a ha
    refine ⟨h1, ?_⟩
    rw [nw_ce_ne e]
    exact h2.kept (o a h2.lt)
theorem hp_b_100 {κ : Nat} : hp_b (100 + κ) = κ := by unfold hp_b; rw [if_neg (by omega)]; omega
theorem va_S.grow {A : Nat → Prop} {H0 H H1 : Heap} {locs : List Loc} (h : va_S A H0 H locs) (z : H1.size = H.size + 1) (o : ∀ q : Nat, q < H.size → H1[q]? = H[q]?) : va_S A H0 H1 locs := by
  have := h.1
  exact ⟨by omega, fun x h1 h2 => (o x (by omega)).trans (h.2.1 x h1 h2), h.2.2⟩
theorem nw_cx {α : hp_T} {h κ n t : Nat} (ht : t < 3) (cA : ClassId) : vp_cell cA (n, hp_cx (hp_nw α h κ) κ h t) = arrV cA n (fun _ => .int 0) := by
  unfold hp_cx
  rw [if_pos ht, vp_cell_i]
  congr 1
  funext j
  simp [hp_E, hp_nw]
theorem nw_cl {α : hp_T} {h κ n : Nat} (cA : ClassId) : vp_cell cA (n, hp_cx (hp_nw α h κ) κ h 3) = arrV cA n (fun _ => .long 0) := by
  show arrV cA n (fun j => .long (hp_L (hp_nw α h κ) κ h j)) = _
  congr 1
  funext j
  simp [hp_L, hp_nw]
theorem nw_cq {α : hp_T} {h κ n t : Nat} (ht : 4 ≤ t) (cA : ClassId) : vp_cell cA (n, hp_cx (hp_nw α h κ) κ h t) = arrV cA n (fun _ => .null) := by
  unfold hp_cx
  rw [if_neg (by omega), if_neg (by omega), vp_cell_q]
  congr 1
  funext j
  simp [hp_Q, hp_nw, va_rf]
theorem hp_sQ_at {α : hp_T} {κ a j : Nat} {x : Option Nat} : hp_Q (hp_sQ α κ a j x) κ a = va_up (hp_Q α κ a) j x := by
  funext i
  by_cases h : i = j
  · subst h; simp [hp_Q, hp_sQ, hp_uq, va_up]
  · simp [hp_Q, hp_sQ, hp_uq, va_up, h]
theorem hp_sQ_ne {α : hp_T} {κ a j b κ' : Nat} {x : Option Nat} (h : b ≠ a) : hp_Q (hp_sQ α κ a j x) κ' b = hp_Q α κ' b := by
  funext i
  simp [hp_Q, hp_sQ, hp_uq, h]
theorem hp_sL_at {α : hp_T} {κ a j : Nat} {x : Int64} : hp_L (hp_sL α κ a j x) κ a = fun i => if i = j then x else hp_L α κ a i := by
  funext i
  by_cases h : i = j
  · subst h; simp [hp_L, hp_sL, hp_uq]
  · simp [hp_L, hp_sL, hp_uq, h]
theorem hp_sL_ne {α : hp_T} {κ a j b κ' : Nat} {x : Int64} (h : b ≠ a) : hp_L (hp_sL α κ a j x) κ' b = hp_L α κ' b := by
  funext i
  simp [hp_L, hp_sL, hp_uq, h]
section HPW
variable {p : Program} {l : Launch} {e : Env} {R : Room} {s : State} {m : MethodId} {args : Array Value} {below : List Frame} {meth : Method} {c : Code} {H : Heap} {locs : List Loc} {cells slots : Nat} {Q : State → Prop} {cc : ByteArray} {nL : Nat} {own : String} {Γ : hp_G} {α0 α α' : hp_T} {Iv : hp_T → hp_T → Prop} {pc pc' : Nat} {ls : Array Slot} {rest : List Value} {a κ k t index φ n d mc ms N : Nat} {v : Value} {i x : Int32}
theorem q_new (C : hp_C Γ p m c cc nL s args own) (B : hp_B Γ Iv s α0 α H locs) (hcl : Cond.classLink own index (hp_q κ).1 ∈ lw_u) (hit : Cond.instantiable (hp_q κ).1 (hp_q κ).2.2 ∈ lw_u) (hiz : Cond.initialized (hp_q κ).1 ∈ lw_u) (hq : vwCl[κ - 1]? = some (hp_q κ)) (hin : ∀ w ∈ u_ws (hp_q κ).1 (hp_q κ).2.1 (hp_q κ).2.2, w ∈ lw_u) (hty : ∀ j, j < (hp_q κ).2.2 → parseFieldDescriptor ((hp_q κ).2.1 j).2.2.1 = some (hp_ty κ j)) (hdf : ∀ j, j < (hp_q κ).2.2 → defaultValue (hp_ty κ j) = vp_V ((hp_tg (100 + κ)).map hp_dv) j) (hκ : 1 ≤ κ) (hic : hp_isC (100 + κ) = true) (hN : (hp_q κ).2.2 = N) (hR : R = hp_rm d mc ms) (hcc : cells + 1 ≤ mc) (hss : slots + N ≤ ms) (hdg : decode cc pc = .ok (.new index, 3)) (hpc : pc + 3 = pc') (hiv : ∀ h, hp_K α h = 0 → Iv α0 (hp_nw α h (100 + κ)))
    (kk : ∀ (β : hp_T) (h : Nat) (H1 : Heap), hp_K α h = 0 → β = hp_nw α h (100 + κ) → hp_B Γ Iv s α0 β H1 locs → W p l e R s m args below meth c H1 locs (cells + 1) (slots + N) Q (F0 m pc' ls (.ref h :: rest))) : W p l e R s m args below meth c H locs cells slots Q (F0 m pc ls rest) := by
  obtain ⟨⟨hx, hb, hml, hown, hts⟩, hK, -⟩ := C
  subst hpc; subst hN
  have hKn := hK.1 _ _ hq
  refine W.newcK hx hb hown (hts _ hcl) (hts _ hit) (hts _ hiz) rfl hdg (by rw [hR]; exact hcc) (by rw [hR]; exact hss) hKn.2.1 rfl fun H1 kC hkC e1 z1 o1 => ?_
  refine kk _ H.size H1 B.1.fresh rfl ⟨B.1.nw z1 o1 ?_, B.2.1.grow z1 o1, hiv _ B.1.fresh⟩
  rw [hp_ce_c hic, hp_b_100, nw_fv _ _ (tg_no1 hκ)]
  exact ⟨_, hq, (u_born (hp_ty κ) hts hin hKn hkC e1 hty).to hdf⟩
theorem q_newa {atype : ArrayType} {ty : FieldType} {dv : Value} (C : hp_C Γ p m c cc nL s args own) (B : hp_B Γ Iv s α0 α H locs) (hac : Cond.arrayClass (newarray.typeOf atype) ∈ lw_u) (hty : newarray.typeOf atype = ty) (hκ : 20 ≤ κ ∧ κ < 60) (har : hp_ar κ = (t, n)) (htt : (hp_tys Γ.2.2.2.1)[t]? = some (Γ.2.2.2.1 t, ty)) (hRA : ∀ (U : State) (cA : ClassId), va_RA U cA ty → U.vm.findClass ("[" ++ ty.toString) = some cA) (hdv : defaultValue ty = dv) (hcl : ∀ (h : Nat) (cA : ClassId), vp_cell cA (n, hp_cx (hp_nw α h κ) κ h t) = arrV cA n (fun _ => dv)) (hx0 : ¬ x < 0) (hxn : x.toNatClampNeg = n) (hby : n * componentBytes (newarray.typeOf atype) ≤ 536870912) (hR : R = hp_rm d mc ms) (hcc : cells + 1 ≤ mc) (hss : slots + n ≤ ms) (hdg : decode cc pc = .ok (.newarray atype, 2)) (hpc : pc + 2 = pc') (hiv : ∀ h, hp_K α h = 0 → Iv α0 (hp_nw α h κ))
    (kk : ∀ (β : hp_T) (h : Nat) (H1 : Heap), hp_K α h = 0 → β = hp_nw α h κ → hp_B Γ Iv s α0 β H1 locs → W p l e R s m args below meth c H1 locs (cells + 1) (slots + n) Q (F0 m pc' ls (.ref h :: rest))) : W p l e R s m args below meth c H locs cells slots Q (F0 m pc ls (.int x :: rest)) := by
  obtain ⟨⟨hx, hb, hml, hown, hts⟩, hK, -⟩ := C
  subst hpc; subst hty
  refine va_newaK (atype := atype) hx hb (hts _ hac) rfl hdg rfl hx0 hxn hby (by rw [hR]; exact hcc) (by rw [hR]; exact hss) rfl fun H1 cA e1 z1 o1 hAr hNm => ?_
  have hcA : cA = Γ.2.2.2.1 t := Option.some.inj (hNm.symm.trans (hRA _ _ (hK.2 t _ htt).2))
  subst hcA
  refine kk _ H.size H1 B.1.fresh rfl ⟨B.1.nw z1 o1 ?_, B.2.1.grow z1 o1, hiv _ B.1.fresh⟩
  rw [hp_ce_a hκ har]
  show H1[H.size]? = some (vp_cell _ _)
  rw [hcl, ← hdv]
  exact e1
/-- lastore -/
theorem q_las {x : Int64} {j : Nat} (C : hp_C Γ p m c cc nL s args own) (B : hp_B Γ Iv s α0 α H locs) (hk : hp_K α a = κ) (hκ : 20 ≤ κ ∧ κ < 60) (har : hp_ar κ = (3, n)) (hin : vp_in i n) (hj : i.toNatClampNeg = j) (hiv : Iv α0 (hp_sL α κ a j x)) (hdg : decode cc pc = .ok (.lastore, 1)) (hpc : pc + 1 = pc')
    (kk : ∀ (β : hp_T) (H1 : Heap) (locs1 : List Loc), β = hp_sL α κ a j x → hp_B Γ Iv s α0 β H1 locs1 → W p l e R s m args below meth c H1 locs1 cells slots Q (F0 m pc' ls rest)) : W p l e R s m args below meth c H locs cells slots Q (F0 m pc ls (.long x :: .int i :: .ref a :: rest)) := by
  subst hpc; subst hj
  obtain ⟨hbase, hat⟩ := B.ar hk hκ har
  refine W.last C.1.1 C.1.2.1 hat ((C.2.1.2 3 _ rfl).1 n (fun j => .long (hp_L α κ a j))) (fun q => by cases q) (by show ¬ (i < 0 ∨ (arrV _ _ _).slots.size ≤ _); rw [arrV_size]; exact hin) rfl rfl hdg fun H1 e z oq => ?_
  refine kk _ H1 _ rfl ⟨B.1.upd z oq (by rw [hk]; omega) ?_ rfl (fun b hb => hp_ce_neE (fun t φ => rfl) (fun κ' => ⟨rfl, hp_sL_ne hb, rfl⟩)), B.2.1.put z oq hbase, hiv⟩
  rw [hk, hp_ce_a hκ har]
  show H1[a]? = some (arrV _ n (fun q => .long (hp_L (hp_sL α κ a i.toNatClampNeg x) κ a q)))
  rw [hp_sL_at, e]
  show some ((arrV _ n (fun q => .long (hp_L α κ a q))).setSlot _ _) = _
  rw [arrV_store]
  congr 2
  funext q
  by_cases hq : q = i.toNatClampNeg
  · subst hq
    simp [updV]
  · simp [updV, hq]
/-- putfield of a final field, in a constructor -/
theorem q_putF (C : hp_C Γ p m c cc nL s args own) (B : hp_B Γ Iv s α0 α H locs) (hk : hp_K α a = κ) (hF : hp_F own index (hp_b κ) k) (hc : hp_isC κ = true) (ht : (hp_tg κ)[k]? = some t) (hfin : ((hp_q (hp_b κ)).2.1 k).2.2.2 = true) (hin2 : meth.name = "<init>") (hdecl : ((hp_q (hp_b κ)).2.1 k).1 = own) (hn : narrow (hp_ty (hp_b κ) k) v = v) (hfit : fits (hp_ty (hp_b κ) k) v = true)
    (hK' : hp_K α' = hp_K α) (hv : hp_v α' a t (50 * hp_b κ + k) = v) (hv' : ∀ t φ, φ ≠ 50 * hp_b κ + k → hp_v α' a t φ = hp_v α a t φ) (hb' : ∀ b, b ≠ a → ∀ κ, hp_ce Γ.2.2.2.1 α' κ b = hp_ce Γ.2.2.2.1 α κ b) (hiv : Iv α0 α')
    (hdg : decode cc pc = .ok (.putfield index, 3)) (hpc : pc + 3 = pc')
    (kk : ∀ (H1 : Heap) (locs1 : List Loc), hp_B Γ Iv s α0 α' H1 locs1 → W p l e R s m args below meth c H1 locs1 cells slots Q (F0 m pc' ls rest)) : W p l e R s m args below meth c H locs cells slots Q (F0 m pc ls (v :: .ref a :: rest)) := by
  obtain ⟨⟨hx, hb, hml, hown, hts⟩, hK, -⟩ := C
  obtain ⟨hq, hkN, hin, hty, hnm, hlk⟩ := hF
  obtain ⟨hbase, hat⟩ := B.at hk hc
  subst hpc
  have h0 : hp_K α a ≠ 0 := by rw [hk]; intro h; rw [h] at hc; cases hc
  have hap := va_apart (own := own) hts hin (hp_ty (hp_b κ)) hty hnm hK hq
  obtain ⟨r, h1, cell, q1, q2, q3, q4⟩ := hat
  have hr : r = hp_q (hp_b κ) := Option.some.inj (h1.symm.trans hq)
  subst hr
  obtain ⟨hS, hfc, kC, hkC, hkind⟩ := hK.1 _ _ hq
  obtain ⟨cf, kf, fi, f, hi, hsl⟩ := hS k hkN
  have hlay := hts _ (hin _ (u_in_lay hkN))
  unfold u_lay at hlay
  rw [if_pos hfin] at hlay
  have hst := (u_facts hfc hkC (u_lays hts hin hkN) hi).1
  have hcf : m.cls = cf := by
    obtain ⟨_, _, c', _, _, _, -, -, hf', -, -, -, hown2, -⟩ := Cond.laysFinal_spec hlay
    have e1 : c' = cf := by have := hi.symm.trans hf'; simp at this; exact this.1.symm
    rw [hdecl] at hown2
    rw [← e1]; exact Option.some.inj (hown.symm.trans hown2)
  have h6 := u_fits hfc hkC hkind (Or.inr hlay) hi (hty k hkN) hn hfit
  refine W.putFinK hx hb hown (hts _ hlk) hi hst hcf hin2 (by rw [q2]; exact h6) q1 q3 (by rw [hsl]; exact k2_hasslot (q4 k hkN)) rfl rfl hdg fun H' e1 e2 e3 => ?_
  rw [hsl] at e1 ⊢
  refine kk H' _ ⟨B.1.upd e2 e3 h0 ?_ hK' hb', B.2.1.put e2 e3 hbase, hiv⟩
  rw [hk, hp_ce_c hc]
  refine ⟨_, hq, t_OB.to (V := updV (vp_V (hp_fv α a (hp_tg κ) (50 * hp_b κ))) k v) ⟨_, e1, q2, q3, t_set q4 hap hkN v⟩ (fun j _ => ?_)⟩
  have hl : k < (hp_fv α a (hp_tg κ) (50 * hp_b κ)).length := by rw [hp_fv_len]; exact (List.getElem?_eq_some_iff.mp ht).1
  rw [vp_updV_set hl v j, hp_fv_set (hp_tg κ) k (50 * hp_b κ) ht hv hv']
theorem q_putnF {x φ : Nat} (C : hp_C Γ p m c cc nL s args own) (B : hp_B Γ Iv s α0 α H locs) (hk : hp_K α a = κ) (hF : hp_F own index (hp_b κ) k) (hc : hp_isC κ = true) (ht : (hp_tg κ)[k]? = some 3) (hfin : ((hp_q (hp_b κ)).2.1 k).2.2.2 = true) (hin2 : meth.name = "<init>") (hdecl : ((hp_q (hp_b κ)).2.1 k).1 = own) (hn : narrow (hp_ty (hp_b κ) k) (.ref x) = .ref x) (hfit : fits (hp_ty (hp_b κ) k) (.ref x) = true) (hφ : 50 * hp_b κ + k = φ) (hiv : Iv α0 (hp_sN α φ a (some x)))
    (hdg : decode cc pc = .ok (.putfield index, 3)) (hpc : pc + 3 = pc')
    (kk : ∀ (β : hp_T) (H1 : Heap) (locs1 : List Loc), β = hp_sN α φ a (some x) → hp_B Γ Iv s α0 β H1 locs1 → W p l e R s m args below meth c H1 locs1 cells slots Q (F0 m pc' ls rest)) : W p l e R s m args below meth c H locs cells slots Q (F0 m pc ls (.ref x :: .ref a :: rest)) := by
  subst hφ
  refine q_putF C B hk hF hc ht hfin hin2 hdecl hn hfit (α' := hp_sN α (50 * hp_b κ + k) a (some x)) rfl ?_ ?_ (fun b hb => hp_ce_ne (fun t φ => ?_) ⟨rfl, rfl, rfl⟩) hiv hdg hpc (fun H1 locs1 B1 => kk _ H1 locs1 rfl B1)
  · simp [hp_v, hp_N, hp_sN, hp_up, va_rf]
  · intro t φ h; simp [hp_v, hp_I, hp_R, hp_J, hp_N, hp_sN, hp_up, h]
  · simp [hp_v, hp_I, hp_R, hp_J, hp_N, hp_sN, hp_up, hb]
variable {bytes : ByteArray} {maxL d' mc' ms' : Nat} {st : List Value} {b : Nat} {y : MethodName} {As : List Value}
/-- a call of a constructor -/
theorem hp_runI {Qc : Array Value → State → Outcome → State → Prop} (C : hp_C Γ p m c cc nL s args own) (B : hp_B Γ Iv s α0 α H locs) (hM : Met l y (hp_ws y bytes maxL none) (hp_rm d' mc ms) (hp_Pc Γ α (.ref b :: As)) Qc mc ms (hp_A Γ)) (hB : hp_LB y bytes maxL none n) (hy : y.name = "<init>") (hI : Cond.instanceMethod y ∈ lw_u) (hL : hp_LK own index y) (hR : R = hp_rm d mc' ms') (hd : d' < d) (hlen : As.length = n) (hsz : ls.size = nL) (hst : st = As.reverse ++ .ref b :: rest) (hcat : (rest.map fun v => v.category).sum ≤ 8) (hdg : decode cc pc = .ok (.invokespecial index, 3)) (hf : cells + mc ≤ mc' ∧ slots + ms ≤ ms') :
    va_Run p l e R s m args below meth c H locs cells slots mc ms (F0 m pc ls st) rest (Qc (Value.ref b :: As).toArray) (hp_A Γ) := by
  obtain ⟨h1, h2, h3, h4⟩ := hB
  have hts := C.1.2.2.2.2
  have hp : PreS s H (hp_Pc Γ α (.ref b :: As)) (.ref b :: As) := ⟨hp_blind Γ α _, fun U hU hW => ⟨rfl, by rw [hU]; exact B.1, C.2.warm hW⟩⟩
  have hRR : (hp_rm d' mc ms).frames + 1 ≤ R.frames ∧ 8 + (maxL + 11) + (hp_rm d' mc ms).locals ≤ R.locals := by
    rw [hR]; show d' + 1 ≤ d ∧ 8 + (maxL + 11) + 45 * d' ≤ 45 * d; omega
  have hff : cells + mc ≤ R.cells ∧ slots + ms ≤ R.slots := by rw [hR]; exact hf
  rcases hL with hL | ⟨host, hL⟩
  · exact va_runI (As := As) (rest := rest) (n := n) C.1 hM ⟨callB_of n hts (hp_gs h1) rfl rfl rfl (hts _ h2) (hts _ hL) h4 hRR, hy, hts _ hI⟩ hp rfl hlen hsz hst (lv_room (m := m) (pc := pc) (ls := ls) (rest := st) hcat) hdg hff
  · exact va_runIN (As := As) (rest := rest) (n := n) C.1 hM ⟨va_cnB n hts (hp_gs h1) rfl rfl rfl (C.2.2.1 _ hL) (hts _ h2) h4 hRR, hy, hts _ hI⟩ hp rfl hlen hsz hst (lv_room (m := m) (pc := pc) (ls := ls) (rest := st) hcat) hdg hff
/-- Object's own constructor -/
theorem q_obj (C : hp_C Γ p m c cc nL s args own) (hlk : Cond.methodLink own index objectInit ∈ lw_u) (hsz : ls.size = nL) (hR : R = hp_rm d mc ms) (hd : 1 ≤ d) (hdg : decode cc pc = .ok (.invokespecial index, 3)) (hpc : pc + 3 = pc')
    (kk : W p l e R s m args below meth c H locs cells slots Q (F0 m pc' ls [])) : W p l e R s m args below meth c H locs cells slots Q (F0 m pc ls [.ref a]) := by
  obtain ⟨⟨hx, hb, hml, hown, hts⟩, -⟩ := C
  subst hpc
  exact W.objInit hx hb hown (hts _ hlk) (hts _ oi_in) (hts _ oi_cd) rfl (by rw [hml]; exact hsz) rfl hdg (by rw [hR]; exact hd) (by rw [hR]; show 2 * 0 + 0 + 12 ≤ 45 * d; omega) kk
end HPW
