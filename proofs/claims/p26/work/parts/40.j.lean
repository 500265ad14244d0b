section JN4_0
/-! ===== making objects and rows; objects under way (kind 100 and the class's) ===== -/
def hp_nw (α : hp_T) (h κ : Nat) : hp_T := (fun b => if b = h then κ else α.1 b, fun φ b => if b = h then 0 else α.2.1 φ b, fun φ b => if b = h then 0 else α.2.2.1 φ b, α.2.2.2.1, fun φ b => if b = h then none else α.2.2.2.2.1 φ b, fun ψ b i => if b = h then 0 else α.2.2.2.2.2.1 ψ b i, fun ψ b i => if b = h then 0 else α.2.2.2.2.2.2.1 ψ b i, fun ψ b i => if b = h then none else α.2.2.2.2.2.2.2 ψ b i)
def hp_dv (t : Nat) : Value := if t = 0 then .int 0 else if t = 2 then .long 0 else .null
theorem nw_v_ne {α : hp_T} {h κ b t φ : Nat} (hb : b ≠ h) : hp_v (hp_nw α h κ) b t φ = hp_v α b t φ := by
  simp [hp_v, hp_I, hp_J, hp_R, hp_N, hp_nw, hb]
theorem nw_ce_ne {dA : Nat → ClassId} {α : hp_T} {h κ b : Nat} (hb : b ≠ h) : ∀ ψ, hp_ce dA (hp_nw α h κ) ψ b = hp_ce dA α ψ b :=
  hp_ce_neE (fun t φ => nw_v_ne hb) (fun ψ => ⟨by funext i; simp [hp_E, hp_nw, hb], by funext i; simp [hp_L, hp_nw, hb], by funext i; simp [hp_Q, hp_nw, hb]⟩)
theorem nw_v {α : hp_T} {h κ t φ : Nat} (ht : t ≠ 1) : hp_v (hp_nw α h κ) h t φ = hp_dv t := by
  unfold hp_v hp_dv
  by_cases h0 : t = 0
  · simp [h0, hp_I, hp_nw]
  · by_cases h2 : t = 2
    · simp [h2, hp_J, hp_nw]
    · simp [h0, ht, h2, hp_N, hp_nw, va_rf]
theorem nw_fv {α : hp_T} {h κ : Nat} : ∀ (ts : List Nat) (ψ : Nat), (∀ t ∈ ts, t ≠ 1) → hp_fv (hp_nw α h κ) h ts ψ = ts.map hp_dv := by
  intro ts
  induction ts with
  | nil => intro ψ _; rfl
  | cons t ts ih =>
    intro ψ ht
    show _ :: _ = _ :: _
    rw [nw_v (ht t List.mem_cons_self), ih (ψ + 1) (fun q hq => ht q (List.mem_cons_of_mem _ hq))]
theorem tg_no1 {κ : Nat} (hκ : 1 ≤ κ) : ∀ t ∈ hp_tg (100 + κ), t ≠ 1 := by
  intro t ht
  unfold hp_tg at ht
  rw [if_neg (by omega)] at ht
  obtain ⟨q, -, rfl⟩ := List.mem_map.mp ht
  unfold hp_rw
  by_cases h : q = 1
  · rw [if_pos h]; decide
  · rw [if_neg h]; exact h
theorem hp_Rep.fresh {Γ : hp_G} {α : hp_T} {H : Heap} (h : hp_Rep Γ α H) : hp_K α H.size = 0 := by
  by_cases e : hp_K α H.size = 0
  · exact e
  · exact absurd (h.2.2 _ e).2.lt (Nat.lt_irrefl _)
theorem hp_Rep.nw {Γ : hp_G} {α : hp_T} {H H1 : Heap} {κ : Nat} (h : hp_Rep Γ α H) (z : H1.size = H.size + 1) (o : ∀ q : Nat, q < H.size → H1[q]? = H[q]?) (he : va_at (Γ.2.1, Γ.2.2.1) vwCl (H.size, hp_ce Γ.2.2.2.1 (hp_nw α H.size κ) κ H.size) H1) : hp_Rep Γ (hp_nw α H.size κ) H1 := by
  have h0 := h.1
  refine ⟨by omega, fun q hq => (o q (by omega)).trans (h.2.1 q hq), fun a ha => ?_⟩
  by_cases e : a = H.size
  · subst e
    have hk : hp_K (hp_nw α H.size κ) H.size = κ := by simp [hp_K, hp_nw]
    rw [hk]
    exact ⟨h.1, he⟩
  · have hk : hp_K (hp_nw α H.size κ) a = hp_K α a := by simp [hp_K, hp_nw, e]
    rw [hk] at ha ⊢
    obtain ⟨h1, h2⟩ := h.2.2 a ha
    refine ⟨h1, ?_⟩
    rw [nw_ce_ne e]
    exact h2.kept (o a h2.lt)
theorem hp_b_100 {κ : Nat} : hp_b (100 + κ) = κ := by unfold hp_b; rw [if_neg (by omega)]; omega
theorem va_S.grow {A : Nat → Prop} {H0 H H1 : Heap} {locs : List Loc} (h : va_S A H0 H locs) (z : H1.size = H.size + 1) (o : ∀ q : Nat, q < H.size → H1[q]? = H[q]?) : va_S A H0 H1 locs := by
  have := h.1
  exact ⟨by omega, fun x h1 h2 => (o x (by omega)).trans (h.2.1 x h1 h2), h.2.2⟩
theorem nw_cx {α : hp_T} {h κ n t : Nat} (ht : t < 3) (cA : ClassId) : vp_cell cA (n, hp_cx (hp_nw α h κ) κ h t) = arrV cA n (fun _ => .int 0) := by
  unfold hp_cx
  rw [if_pos ht, vp_cell_i]
  congr 1
  funext j
  simp [hp_E, hp_nw]
theorem nw_cl {α : hp_T} {h κ n : Nat} (cA : ClassId) : vp_cell cA (n, hp_cx (hp_nw α h κ) κ h 3) = arrV cA n (fun _ => .long 0) := by
  show arrV cA n (fun j => .long (hp_L (hp_nw α h κ) κ h j)) = _
  congr 1
  funext j
  simp [hp_L, hp_nw]
theorem nw_cq {α : hp_T} {h κ n t : Nat} (ht : 4 ≤ t) (cA : ClassId) : vp_cell cA (n, hp_cx (hp_nw α h κ) κ h t) = arrV cA n (fun _ => .null) := by
  unfold hp_cx
  rw [if_neg (by omega), if_neg (by omega), vp_cell_q]
  congr 1
  funext j
  simp [hp_Q, hp_nw, va_rf]
theorem hp_sQ_at {α : hp_T} {κ a j : Nat} {x : Option Nat} : hp_Q (hp_sQ α κ a j x) κ a = va_up (hp_Q α κ a) j x := by
  funext i
  by_cases h : i = j
  · subst h; simp [hp_Q, hp_sQ, hp_uq, va_up]
  · simp [hp_Q, hp_sQ, hp_uq, va_up, h]
theorem hp_sQ_ne {α : hp_T} {κ a j b κ' : Nat} {x : Option Nat} (h : b ≠ a) : hp_Q (hp_sQ α κ a j x) κ' b = hp_Q α κ' b := by
  funext i
  simp [hp_Q, hp_sQ, hp_uq, h]
theorem hp_sL_at {α : hp_T} {κ a j : Nat} {x : Int64} : hp_L (hp_sL α κ a j x) κ a = fun i => if i = j then x else hp_L α κ a i := by
  funext i
  by_cases h : i = j
  · subst h; simp [hp_L, hp_sL, hp_uq]
  · simp [hp_L, hp_sL, hp_uq, h]
theorem hp_sL_ne {α : hp_T} {κ a j b κ' : Nat} {x : Int64} (h : b ≠ a) : hp_L (hp_sL α κ a j x) κ' b = hp_L α κ' b := by
  funext i
  simp [hp_L, hp_sL, hp_uq, h]
section HPW
variable {p : Program} {l : Launch} {e : Env} {R : Room} {s : State} {m : MethodId} {args : Array Value} {below : List Frame} {meth : Method} {c : Code} {H : Heap} {locs : List Loc} {cells slots : Nat} {Q : State → Prop} {cc : ByteArray} {nL : Nat} {own : String} {Γ : hp_G} {α0 α α' : hp_T} {Iv : hp_T → hp_T → Prop} {pc pc' : Nat} {ls : Array Slot} {rest : List Value} {a κ k t index φ n d mc ms N : Nat} {v : Value} {i x : Int32}
theorem q_new (C : hp_C Γ p m c cc nL s args own) (B : hp_B Γ Iv s α0 α H locs) (hcl : Cond.classLink own index (hp_q κ).1 ∈ lw_u) (hit : Cond.instantiable (hp_q κ).1 (hp_q κ).2.2 ∈ lw_u) (hiz : Cond.initialized (hp_q κ).1 ∈ lw_u) (hq : vwCl[κ - 1]? = some (hp_q κ)) (hin : ∀ w ∈ u_ws (hp_q κ).1 (hp_q κ).2.1 (hp_q κ).2.2, w ∈ lw_u) (hty : ∀ j, j < (hp_q κ).2.2 → parseFieldDescriptor ((hp_q κ).2.1 j).2.2.1 = some (hp_ty κ j)) (hdf : ∀ j, j < (hp_q κ).2.2 → defaultValue (hp_ty κ j) = vp_V ((hp_tg (100 + κ)).map hp_dv) j) (hκ : 1 ≤ κ) (hic : hp_isC (100 + κ) = true) (hN : (hp_q κ).2.2 = N) (hR : R = hp_rm d mc ms) (hcc : cells + 1 ≤ mc) (hss : slots + N ≤ ms) (hdg : decode cc pc = .ok (.new index, 3)) (hpc : pc + 3 = pc') (hiv : ∀ h, hp_K α h = 0 → Iv α0 (hp_nw α h (100 + κ)))
    (kk : ∀ (β : hp_T) (h : Nat) (H1 : Heap), hp_K α h = 0 → β = hp_nw α h (100 + κ) → hp_B Γ Iv s α0 β H1 locs → W p l e R s m args below meth c H1 locs (cells + 1) (slots + N) Q (F0 m pc' ls (.ref h :: rest))) : W p l e R s m args below meth c H locs cells slots Q (F0 m pc ls rest) := by
  obtain ⟨⟨hx, hb, hml, hown, hts⟩, hK, -⟩ := C
  subst hpc; subst hN
  have hKn := hK.1 _ _ hq
  refine W.newcK hx hb hown (hts _ hcl) (hts _ hit) (hts _ hiz) rfl hdg (by rw [hR]; exact hcc) (by rw [hR]; exact hss) hKn.2.1 rfl fun H1 kC hkC e1 z1 o1 => ?_
  refine kk _ H.size H1 B.1.fresh rfl ⟨B.1.nw z1 o1 ?_, B.2.1.grow z1 o1, hiv _ B.1.fresh⟩
  rw [hp_ce_c hic, hp_b_100, nw_fv _ _ (tg_no1 hκ)]
  exact ⟨_, hq, (u_born (hp_ty κ) hts hin hKn hkC e1 hty).to hdf⟩
theorem q_newa {atype : ArrayType} {ty : FieldType} {dv : Value} (C : hp_C Γ p m c cc nL s args own) (B : hp_B Γ Iv s α0 α H locs) (hac : Cond.arrayClass (newarray.typeOf atype) ∈ lw_u) (hty : newarray.typeOf atype = ty) (hκ : 20 ≤ κ ∧ κ < 60) (har : hp_ar κ = (t, n)) (htt : (hp_tys Γ.2.2.2.1)[t]? = some (Γ.2.2.2.1 t, ty)) (hRA : ∀ (U : State) (cA : ClassId), va_RA U cA ty → U.vm.findClass ("[" ++ ty.toString) = some cA) (hdv : defaultValue ty = dv) (hcl : ∀ (h : Nat) (cA : ClassId), vp_cell cA (n, hp_cx (hp_nw α h κ) κ h t) = arrV cA n (fun _ => dv)) (hx0 : ¬ x < 0) (hxn : x.toNatClampNeg = n) (hby : n * componentBytes (newarray.typeOf atype) ≤ 536870912) (hR : R = hp_rm d mc ms) (hcc : cells + 1 ≤ mc) (hss : slots + n ≤ ms) (hdg : decode cc pc = .ok (.newarray atype, 2)) (hpc : pc + 2 = pc') (hiv : ∀ h, hp_K α h = 0 → Iv α0 (hp_nw α h κ))
    (kk : ∀ (β : hp_T) (h : Nat) (H1 : Heap), hp_K α h = 0 → β = hp_nw α h κ → hp_B Γ Iv s α0 β H1 locs → W p l e R s m args below meth c H1 locs (cells + 1) (slots + n) Q (F0 m pc' ls (.ref h :: rest))) : W p l e R s m args below meth c H locs cells slots Q (F0 m pc ls (.int x :: rest)) := by
  obtain ⟨⟨hx, hb, hml, hown, hts⟩, hK, -⟩ := C
  subst hpc; subst hty
  refine va_newaK (atype := atype) hx hb (hts _ hac) rfl hdg rfl hx0 hxn hby (by rw [hR]; exact hcc) (by rw [hR]; exact hss) rfl fun H1 cA e1 z1 o1 hAr hNm => ?_
  have hcA : cA = Γ.2.2.2.1 t := Option.some.inj (hNm.symm.trans (hRA _ _ (hK.2 t _ htt).2))
  subst hcA
  refine kk _ H.size H1 B.1.fresh rfl ⟨B.1.nw z1 o1 ?_, B.2.1.grow z1 o1, hiv _ B.1.fresh⟩
  rw [hp_ce_a hκ har]
  show H1[H.size]? = some (vp_cell _ _)
  rw [hcl, ← hdv]
  exact e1
/-- lastore -/
theorem q_las {x : Int64} {j : Nat} (C : hp_C Γ p m c cc nL s args own) (B : hp_B Γ Iv s α0 α H locs) (hk : hp_K α a = κ) (hκ : 20 ≤ κ ∧ κ < 60) (har : hp_ar κ = (3, n)) (hin : vp_in i n) (hj : i.toNatClampNeg = j) (hiv : Iv α0 (hp_sL α κ a j x)) (hdg : decode cc pc = .ok (.lastore, 1)) (hpc : pc + 1 = pc')
    (kk : ∀ (β : hp_T) (H1 : Heap) (locs1 : List Loc), β = hp_sL α κ a j x → hp_B Γ Iv s α0 β H1 locs1 → W p l e R s m args below meth c H1 locs1 cells slots Q (F0 m pc' ls rest)) : W p l e R s m args below meth c H locs cells slots Q (F0 m pc ls (.long x :: .int i :: .ref a :: rest)) := by
  subst hpc; subst hj
  obtain ⟨hbase, hat⟩ := B.ar hk hκ har
  refine W.last C.1.1 C.1.2.1 hat ((C.2.1.2 3 _ rfl).1 n (fun j => .long (hp_L α κ a j))) (fun q => by cases q) (by show ¬ (i < 0 ∨ (arrV _ _ _).slots.size ≤ _); rw [arrV_size]; exact hin) rfl rfl hdg fun H1 e z oq => ?_
  refine kk _ H1 _ rfl ⟨B.1.upd z oq (by rw [hk]; omega) ?_ rfl (fun b hb => hp_ce_neE (fun t φ => rfl) (fun κ' => ⟨rfl, hp_sL_ne hb, rfl⟩)), B.2.1.put z oq hbase, hiv⟩
  rw [hk, hp_ce_a hκ har]
  show H1[a]? = some (arrV _ n (fun q => .long (hp_L (hp_sL α κ a i.toNatClampNeg x) κ a q)))
  rw [hp_sL_at, e]
  show some ((arrV _ n (fun q => .long (hp_L α κ a q))).setSlot _ _) = _
  rw [arrV_store]
  congr 2
  funext q
  by_cases hq : q = i.toNatClampNeg
  · subst hq
    simp [updV]
  · simp [updV, hq]
/-- putfield of a final field, in a constructor -/
theorem q_putF (C : hp_C Γ p m c cc nL s args own) (B : hp_B Γ Iv s α0 α H locs) (hk : hp_K α a = κ) (hF : hp_F own index (hp_b κ) k) (hc : hp_isC κ = true) (ht : (hp_tg κ)[k]? = some t) (hfin : ((hp_q (hp_b κ)).2.1 k).2.2.2 = true) (hin2 : meth.name = "<init>") (hdecl : ((hp_q (hp_b κ)).2.1 k).1 = own) (hn : narrow (hp_ty (hp_b κ) k) v = v) (hfit : fits (hp_ty (hp_b κ) k) v = true)
    (hK' : hp_K α' = hp_K α) (hv : hp_v α' a t (50 * hp_b κ + k) = v) (hv' : ∀ t φ, φ ≠ 50 * hp_b κ + k → hp_v α' a t φ = hp_v α a t φ) (hb' : ∀ b, b ≠ a → ∀ κ, hp_ce Γ.2.2.2.1 α' κ b = hp_ce Γ.2.2.2.1 α κ b) (hiv : Iv α0 α')
    (hdg : decode cc pc = .ok (.putfield index, 3)) (hpc : pc + 3 = pc')
    (kk : ∀ (H1 : Heap) (locs1 : List Loc), hp_B Γ Iv s α0 α' H1 locs1 → W p l e R s m args below meth c H1 locs1 cells slots Q (F0 m pc' ls rest)) : W p l e R s m args below meth c H locs cells slots Q (F0 m pc ls (v :: .ref a :: rest)) := by
  obtain ⟨⟨hx, hb, hml, hown, hts⟩, hK, -⟩ := C
  obtain ⟨hq, hkN, hin, hty, hnm, hlk⟩ := hF
  obtain ⟨hbase, hat⟩ := B.at hk hc
  subst hpc
  have h0 : hp_K α a ≠ 0 := by rw [hk]; intro h; rw [h] at hc; cases hc
  have hap := va_apart (own := own) hts hin (hp_ty (hp_b κ)) hty hnm hK hq
  obtain ⟨r, h1, cell, q1, q2, q3, q4⟩ := hat
  have hr : r = hp_q (hp_b κ) := Option.some.inj (h1.symm.trans hq)
  subst hr
  obtain ⟨hS, hfc, kC, hkC, hkind⟩ := hK.1 _ _ hq
  obtain ⟨cf, kf, fi, f, hi, hsl⟩ := hS k hkN
  have hlay := hts _ (hin _ (u_in_lay hkN))
  unfold u_lay at hlay
  rw [if_pos hfin] at hlay
  have hst := (u_facts hfc hkC (u_lays hts hin hkN) hi).1
  have hcf : m.cls = cf := by
    obtain ⟨_, _, c', _, _, _, -, -, hf', -, -, -, hown2, -⟩ := Cond.laysFinal_spec hlay
    have e1 : c' = cf := by have := hi.symm.trans hf'; simp at this; exact this.1.symm
    rw [hdecl] at hown2
    rw [← e1]; exact Option.some.inj (hown.symm.trans hown2)
  have h6 := u_fits hfc hkC hkind (Or.inr hlay) hi (hty k hkN) hn hfit
  refine W.putFinK hx hb hown (hts _ hlk) hi hst hcf hin2 (by rw [q2]; exact h6) q1 q3 (by rw [hsl]; exact k2_hasslot (q4 k hkN)) rfl rfl hdg fun H' e1 e2 e3 => ?_
  rw [hsl] at e1 ⊢
  refine kk H' _ ⟨B.1.upd e2 e3 h0 ?_ hK' hb', B.2.1.put e2 e3 hbase, hiv⟩
  rw [hk, hp_ce_c hc]
  refine ⟨_, hq, t_OB.to (V := updV (vp_V (hp_fv α a (hp_tg κ) (50 * hp_b κ))) k v) ⟨_, e1, q2, q3, t_set q4 hap hkN v⟩ (fun j _ => ?_)⟩
  have hl : k < (hp_fv α a (hp_tg κ) (50 * hp_b κ)).length := by rw [hp_fv_len]; exact (List.getElem?_eq_some_iff.mp ht).1
  rw [vp_updV_set hl v j, hp_fv_set (hp_tg κ) k (50 * hp_b κ) ht hv hv']
theorem q_putnF {x φ : Nat} (C : hp_C Γ p m c cc nL s args own) (B : hp_B Γ Iv s α0 α H locs) (hk : hp_K α a = κ) (hF : hp_F own index (hp_b κ) k) (hc : hp_isC κ = true) (ht : (hp_tg κ)[k]? = some 3) (hfin : ((hp_q (hp_b κ)).2.1 k).2.2.2 = true) (hin2 : meth.name = "<init>") (hdecl : ((hp_q (hp_b κ)).2.1 k).1 = own) (hn : narrow (hp_ty (hp_b κ) k) (.ref x) = .ref x) (hfit : fits (hp_ty (hp_b κ) k) (.ref x) = true) (hφ : 50 * hp_b κ + k = φ) (hiv : Iv α0 (hp_sN α φ a (some x)))
    (hdg : decode cc pc = .ok (.putfield index, 3)) (hpc : pc + 3 = pc')
    (kk : ∀ (β : hp_T) (H1 : Heap) (locs1 : List Loc), β = hp_sN α φ a (some x) → hp_B Γ Iv s α0 β H1 locs1 → W p l e R s m args below meth c H1 locs1 cells slots Q (F0 m pc' ls rest)) : W p l e R s m args below meth c H locs cells slots Q (F0 m pc ls (.ref x :: .ref a :: rest)) := by
  subst hφ
  refine q_putF C B hk hF hc ht hfin hin2 hdecl hn hfit (α' := hp_sN α (50 * hp_b κ + k) a (some x)) rfl ?_ ?_ (fun b hb => hp_ce_ne (fun t φ => ?_) ⟨rfl, rfl, rfl⟩) hiv hdg hpc (fun H1 locs1 B1 => kk _ H1 locs1 rfl B1)
  · simp [hp_v, hp_N, hp_sN, hp_up, va_rf]
  · intro t φ h; simp [hp_v, hp_I, hp_R, hp_J, hp_N, hp_sN, hp_up, h]
  · simp [hp_v, hp_I, hp_R, hp_J, hp_N, hp_sN, hp_up, hb]
variable {bytes : ByteArray} {maxL d' mc' ms' : Nat} {st : List Value} {b : Nat} {y : MethodName} {As : List Value}
/-- a call of a constructor -/
theorem hp_runI {Qc : Array Value → State → Outcome → State → Prop} (C : hp_C Γ p m c cc nL s args own) (B : hp_B Γ Iv s α0 α H locs) (hM : Met l y (hp_ws y bytes maxL none) (hp_rm d' mc ms) (hp_Pc Γ α (.ref b :: As)) Qc mc ms (hp_A Γ)) (hB : hp_LB y bytes maxL none n) (hy : y.name = "<init>") (hI : Cond.instanceMethod y ∈ lw_u) (hL : hp_LK own index y) (hR : R = hp_rm d mc' ms') (hd : d' < d) (hlen : As.length = n) (hsz : ls.size = nL) (hst : st = As.reverse ++ .ref b :: rest) (hcat : (rest.map fun v => v.category).sum ≤ 8) (hdg : decode cc pc = .ok (.invokespecial index, 3)) (hf : cells + mc ≤ mc' ∧ slots + ms ≤ ms') :
    va_Run p l e R s m args below meth c H locs cells slots mc ms (F0 m pc ls st) rest (Qc (Value.ref b :: As).toArray) (hp_A Γ) := by
  obtain ⟨h1, h2, h3, h4⟩ := hB
  have hts := C.1.2.2.2.2
  have hp : PreS s H (hp_Pc Γ α (.ref b :: As)) (.ref b :: As) := ⟨hp_blind Γ α _, fun U hU hW => ⟨rfl, by rw [hU]; exact B.1, C.2.warm hW⟩⟩
  have hRR : (hp_rm d' mc ms).frames + 1 ≤ R.frames ∧ 8 + (maxL + 11) + (hp_rm d' mc ms).locals ≤ R.locals := by
    rw [hR]; show d' + 1 ≤ d ∧ 8 + (maxL + 11) + 45 * d' ≤ 45 * d; omega
  have hff : cells + mc ≤ R.cells ∧ slots + ms ≤ R.slots := by rw [hR]; exact hf
  rcases hL with hL | ⟨host, hL⟩
  · exact va_runI (As := As) (rest := rest) (n := n) C.1 hM ⟨callB_of n hts (hp_gs h1) rfl rfl rfl (hts _ h2) (hts _ hL) h4 hRR, hy, hts _ hI⟩ hp rfl hlen hsz hst (lv_room (m := m) (pc := pc) (ls := ls) (rest := st) hcat) hdg hff
  · exact va_runIN (As := As) (rest := rest) (n := n) C.1 hM ⟨va_cnB n hts (hp_gs h1) rfl rfl rfl (C.2.2.1 _ hL) (hts _ h2) h4 hRR, hy, hts _ hI⟩ hp rfl hlen hsz hst (lv_room (m := m) (pc := pc) (ls := ls) (rest := st) hcat) hdg hff
/-- Object's own constructor -/
theorem q_obj (C : hp_C Γ p m c cc nL s args own) (hlk : Cond.methodLink own index objectInit ∈ lw_u) (hsz : ls.size = nL) (hR : R = hp_rm d mc ms) (hd : 1 ≤ d) (hdg : decode cc pc = .ok (.invokespecial index, 3)) (hpc : pc + 3 = pc')
    (kk : W p l e R s m args below meth c H locs cells slots Q (F0 m pc' ls [])) : W p l e R s m args below meth c H locs cells slots Q (F0 m pc ls [.ref a]) := by
  obtain ⟨⟨hx, hb, hml, hown, hts⟩, -⟩ := C
  subst hpc
  exact W.objInit hx hb hown (hts _ hlk) (hts _ oi_in) (hts _ oi_cd) rfl (by rw [hml]; exact hsz) rfl hdg (by rw [hR]; exact hd) (by rw [hR]; show 2 * 0 + 0 + 12 ≤ 45 * d; omega) kk
end HPW
end JN4_0
section JN4_1
/-! ===== constructors: what grows, what an object under way has ===== -/
def sa (α β : hp_T) (b : Nat) : Prop := hp_K β b = hp_K α b ∧ (∀ φ, hp_I β φ b = hp_I α φ b) ∧ (∀ φ, hp_J β φ b = hp_J α φ b) ∧ (∀ φ, hp_R β φ b = hp_R α φ b) ∧ (∀ φ, hp_N β φ b = hp_N α φ b) ∧ (∀ κ j, hp_E β κ b j = hp_E α κ b j) ∧ (∀ κ j, hp_L β κ b j = hp_L α κ b j) ∧ (∀ κ j, hp_Q β κ b j = hp_Q α κ b j)
theorem sa_rf {α : hp_T} {b : Nat} : sa α α b := ⟨rfl, fun _ => rfl, fun _ => rfl, fun _ => rfl, fun _ => rfl, fun _ _ => rfl, fun _ _ => rfl, fun _ _ => rfl⟩
theorem sa_tr {α β γ : hp_T} {b : Nat} (h : sa α β b) (g : sa β γ b) : sa α γ b := by
  obtain ⟨h1, h2, h3, h4, h5, h6, h7, h8⟩ := h
  obtain ⟨g1, g2, g3, g4, g5, g6, g7, g8⟩ := g
  exact ⟨g1.trans h1, fun φ => (g2 φ).trans (h2 φ), fun φ => (g3 φ).trans (h3 φ), fun φ => (g4 φ).trans (h4 φ), fun φ => (g5 φ).trans (h5 φ), fun κ j => (g6 κ j).trans (h6 κ j), fun κ j => (g7 κ j).trans (h7 κ j), fun κ j => (g8 κ j).trans (h8 κ j)⟩
theorem lk_mem {φ v : Nat} : ∀ l : List (Nat × Nat), l.lookup φ = some v → (φ, v) ∈ l := by
  intro l
  induction l with
  | nil => intro h; cases h
  | cons q l ih =>
    intro h
    rw [List.lookup_cons] at h
    by_cases e : φ == q.1
    · rw [e] at h
      have e2 : φ = q.1 := by simpa using e
      have e3 : q.2 = v := by simpa using h
      rw [show q = (φ, v) by rw [e2, ← e3]]
      exact List.mem_cons_self
    · have e2 : (φ == q.1) = false := by simpa using e
      rw [e2] at h
      exact List.mem_cons_of_mem _ (ih h)
theorem gc_rk_mem {φ : Nat} (h : gc_rk φ ≠ 0) : (φ, gc_rk φ) ∈ gc_rt := by
  unfold gc_rk at h ⊢
  cases e : gc_rt.lookup φ with
  | none => rw [e] at h; exact absurd rfl h
  | some v => exact lk_mem gc_rt e
theorem gc_rt_ok : ∀ q ∈ gc_rt, q.1 / 50 ≤ 13 ∧ q.2 < 60 := by decide +kernel
theorem gc_t_lt {φ k : Nat} (h : gc_rk φ ≠ 0) (t : gc_t φ k) : k ≠ 0 ∧ k < 60 := by
  have := (gc_rt_ok _ (gc_rk_mem h)).2
  rcases t with t | t
  · rw [t]; exact ⟨h, this⟩
  · rw [t.2]; decide
theorem gc_q_lt {κ : Nat} : gc_qk κ < 60 := by
  unfold gc_qk
  split
  · decide
  · split
    · decide
    · split
      · decide
      · split <;> decide
theorem gc_q_20 {κ : Nat} (h : gc_qk κ ≠ 0) : 20 ≤ κ ∧ κ < 60 := by
  unfold gc_qk at h
  split at h
  · omega
  · split at h
    · omega
    · split at h
      · omega
      · split at h
        · omega
        · exact absurd rfl h
theorem gc_i0 (φ : Nat) : gc_i φ 0 := fun _ => by decide
theorem gc_nw {α : hp_T} {h κ : Nat} (g : GC α) (hh : hp_K α h = 0) (hκ : 20 ≤ κ) : GC (hp_nw α h κ) := by
  obtain ⟨g1, g2, g3, g4⟩ := g
  have hk : ∀ b, b ≠ h → hp_K (hp_nw α h κ) b = hp_K α b := fun b hb => by simp [hp_K, hp_nw, hb]
  have hkh : hp_K (hp_nw α h κ) h = κ := by simp [hp_K, hp_nw]
  refine ⟨fun φ a => ?_, fun φ a ha hr => ?_, fun a b ha hb => ?_, fun κ' a j b ha hq hb => ?_⟩
  · by_cases e : a = h
    · rw [show hp_I (hp_nw α h κ) φ a = 0 by simp [hp_I, hp_nw, e]]; exact gc_i0 φ
    · rw [show hp_I (hp_nw α h κ) φ a = hp_I α φ a by simp [hp_I, hp_nw, e]]; exact g1 φ a
  · have h13 := (gc_rt_ok _ (gc_rk_mem hr)).1
    by_cases e : a = h
    · rw [e, hkh] at ha
      simp only at h13
      omega
    · rw [hk a e] at ha
      have t := g2 φ a ha hr
      have hne : hp_R α φ a ≠ h := fun q => (gc_t_lt hr t).1 (by rw [q]; exact hh)
      show gc_t φ (hp_K (hp_nw α h κ) (hp_R α φ a))
      rw [hk _ hne]; exact t
  · by_cases e : a = h
    · rw [show hp_N (hp_nw α h κ) 618 a = none by simp [hp_N, hp_nw, e]] at hb; cases hb
    · rw [hk a e] at ha
      rw [show hp_N (hp_nw α h κ) 618 a = hp_N α 618 a by simp [hp_N, hp_nw, e]] at hb
      have t := g3 a b ha hb
      rw [hk b (fun q => by rw [q, hh] at t; cases t)]; exact t
  · by_cases e : a = h
    · rw [show hp_Q (hp_nw α h κ) κ' a j = none by simp [hp_Q, hp_nw, e]] at hb; cases hb
    · rw [hk a e] at ha
      rw [show hp_Q (hp_nw α h κ) κ' a j = hp_Q α κ' a j by simp [hp_Q, hp_nw, e]] at hb
      have t := g4 κ' a j b ha hq hb
      rw [hk b (fun q => by rw [q, hh] at t; exact hq t.symm)]; exact t
theorem gc_sI {α : hp_T} {φ a : Nat} {v : Int32} (g : GC α) (hv : gc_i φ v) : GC (hp_sI α φ a v) := by
  refine ⟨fun ψ b => ?_, g.2⟩
  by_cases e : ψ = φ ∧ b = a
  · obtain ⟨rfl, rfl⟩ := e
    rw [hp_I_at]; exact hv
  · rw [show hp_I (hp_sI α φ a v) ψ b = hp_I α ψ b by simp [hp_I, hp_sI, hp_up, e]]; exact g.1 ψ b
theorem gc_sN {α : hp_T} {φ a : Nat} {x : Option Nat} (g : GC α) (hk : hp_K α a ≠ 12) : GC (hp_sN α φ a x) := by
  refine ⟨g.1, g.2.1, fun b c hb hc => ?_, g.2.2.2⟩
  have e : ¬ (618 = φ ∧ b = a) := fun q => hk (by rw [← q.2]; exact hb)
  rw [show hp_N (hp_sN α φ a x) 618 b = hp_N α 618 b by simp [hp_N, hp_sN, hp_up, e]] at hc
  exact g.2.2.1 b c hb hc
theorem gc_sQ {α : hp_T} {κ a j w : Nat} (g : GC α) (hw : hp_K α w = gc_qk κ) : GC (hp_sQ α κ a j (some w)) := by
  refine ⟨g.1, g.2.1, g.2.2.1, fun κ' b i c hb hq hc => ?_⟩
  by_cases e : κ' = κ ∧ b = a ∧ i = j
  · obtain ⟨rfl, rfl, rfl⟩ := e
    rw [show hp_Q (hp_sQ α κ' b i (some w)) κ' b i = some w by simp [hp_Q, hp_sQ, hp_uq]] at hc
    cases hc
    exact hw
  · rw [show hp_Q (hp_sQ α κ a j (some w)) κ' b i = hp_Q α κ' b i by simp [hp_Q, hp_sQ, hp_uq, e]] at hc
    exact g.2.2.2 κ' b i c hb hq hc
/-- since α0 all that was there stays, but the object a0 -/
def gx (a0 : Nat) (α0 α : hp_T) : Prop := GC α ∧ ∀ b, b ≠ a0 → hp_K α0 b ≠ 0 → sa α0 α b
theorem gx_rf {a0 : Nat} {α : hp_T} (g : GC α) : gx a0 α α := ⟨g, fun _ _ _ => sa_rf⟩
theorem gx_st {a0 : Nat} {α0 α β : hp_T} (h : gx a0 α0 α) (g : GC β) (hs : ∀ b, b ≠ a0 → hp_K α0 b ≠ 0 → hp_K α b ≠ 0 → sa α β b) : gx a0 α0 β := ⟨g, fun b h1 h2 => by
  have h3 := h.2 b h1 h2
  exact sa_tr h3 (hs b h1 h2 (by rw [h3.1]; exact h2))⟩
theorem sa_nw {α : hp_T} {h κ b : Nat} (hb : b ≠ h) : sa α (hp_nw α h κ) b := by
  refine ⟨?_, fun φ => ?_, fun φ => ?_, fun φ => rfl, fun φ => ?_, fun κ j => ?_, fun κ j => ?_, fun κ j => ?_⟩ <;> simp [hp_K, hp_I, hp_J, hp_N, hp_E, hp_L, hp_Q, hp_nw, hb]
theorem sa_sI {α : hp_T} {φ a b : Nat} {v : Int32} (hb : b ≠ a) : sa α (hp_sI α φ a v) b := by
  refine ⟨rfl, fun ψ => ?_, fun φ => rfl, fun φ => rfl, fun φ => rfl, fun κ j => rfl, fun κ j => rfl, fun κ j => rfl⟩
  simp [hp_I, hp_sI, hp_up, hb]
theorem sa_sN {α : hp_T} {φ a b : Nat} {v : Option Nat} (hb : b ≠ a) : sa α (hp_sN α φ a v) b := by
  refine ⟨rfl, fun ψ => rfl, fun φ => rfl, fun φ => rfl, fun ψ => ?_, fun κ j => rfl, fun κ j => rfl, fun κ j => rfl⟩
  simp [hp_N, hp_sN, hp_up, hb]
theorem sa_sQ {α : hp_T} {κ a j b : Nat} {v : Option Nat} (hb : b ≠ a) : sa α (hp_sQ α κ a j v) b := by
  refine ⟨rfl, fun ψ => rfl, fun φ => rfl, fun φ => rfl, fun ψ => rfl, fun κ j => rfl, fun κ j => rfl, fun κ j => ?_⟩
  simp [hp_Q, hp_sQ, hp_uq, hb]
theorem sa_sL {α : hp_T} {κ a j b : Nat} {v : Int64} (hb : b ≠ a) : sa α (hp_sL α κ a j v) b := by
  refine ⟨rfl, fun ψ => rfl, fun φ => rfl, fun φ => rfl, fun ψ => rfl, fun κ j => rfl, fun κ j => ?_, fun κ j => rfl⟩
  simp [hp_L, hp_sL, hp_uq, hb]
/-- an object under way: the references that it has, the ints that were set -/
def co (α0 : hp_T) (a0 κ : Nat) (α : hp_T) (l : List Nat) (f : List (Nat × Int32)) : Prop := hp_K α a0 = 100 + κ ∧ (∀ φ ∈ l, ∃ x, hp_N α φ a0 = some x ∧ gc_t φ (hp_K α x) ∧ hp_K α x ≠ 0 ∧ hp_K α x < 60 ∧ hp_K α0 x = 0 ∧ (20 ≤ hp_K α x → ∀ j, hp_E α (hp_K α x) x j = 0)) ∧ (∀ q ∈ f, hp_I α q.1 a0 = q.2) ∧ ∀ φ, (∀ q ∈ f, q.1 ≠ φ) → hp_I α φ a0 = 0
section CO
variable {α0 α β : hp_T} {a0 κ : Nat} {l : List Nat} {f : List (Nat × Int32)} {h κ' b φ x j w : Nat} {v : Int32}
theorem co_0 (hk : hp_K α a0 = 100 + κ) (z : ∀ φ, hp_I α φ a0 = 0) : co α a0 κ α [] [] := ⟨hk, fun _ h => (by cases h), fun _ h => (by cases h), fun φ _ => z φ⟩
/-- a step that leaves the object and all complete ones as they are -/
theorem co_st (O : co α0 a0 κ α l f) (h0 : sa α β a0) (hx : ∀ x, hp_K α x ≠ 0 → hp_K α x < 60 → sa α β x) : co α0 a0 κ β l f := by
  obtain ⟨o1, o2, o3, o4⟩ := O
  refine ⟨by rw [h0.1]; exact o1, fun φ hφ => ?_, fun q hq => by rw [h0.2.1]; exact o3 q hq, fun φ hφ => by rw [h0.2.1]; exact o4 φ hφ⟩
  obtain ⟨x, x1, x2, x3, x4, x5, x6⟩ := o2 φ hφ
  have hs := hx x x3 x4
  refine ⟨x, by rw [h0.2.2.2.2.1]; exact x1, by rw [hs.1]; exact x2, by rw [hs.1]; exact x3, by rw [hs.1]; exact x4, x5, fun h j => ?_⟩
  rw [hs.1] at h
  rw [hs.1, hs.2.2.2.2.2.1]
  exact x6 h j
theorem co_nw (O : co α0 a0 κ α l f) (hh : hp_K α h = 0) : co α0 a0 κ (hp_nw α h κ') l f :=
  co_st O (sa_nw (fun e => by rw [← e, O.1] at hh; omega)) (fun x hx _ => sa_nw (fun e => hx (by rw [e]; exact hh)))
theorem co_call (O : co α0 a0 κ α l f) (g : gx b α β) (hb : a0 ≠ b) (hkb : 60 ≤ hp_K α b) : co α0 a0 κ β l f :=
  co_st O (g.2 a0 hb (by rw [O.1]; omega)) (fun x h1 h2 => g.2 x (fun e => by rw [e] at h2; omega) h1)
theorem co_sQ (O : co α0 a0 κ α l f) : co α0 a0 κ (hp_sQ α κ' b j (some w)) l f := O
theorem co_sL {y : Int64} (O : co α0 a0 κ α l f) : co α0 a0 κ (hp_sL α κ' b j y) l f := O
theorem co_sN (O : co α0 a0 κ α l f) (hx : gc_t φ (hp_K α x) ∧ hp_K α x ≠ 0 ∧ hp_K α x < 60 ∧ hp_K α0 x = 0 ∧ (20 ≤ hp_K α x → ∀ j, hp_E α (hp_K α x) x j = 0)) : co α0 a0 κ (hp_sN α φ a0 (some x)) (φ :: l) f := by
  refine ⟨O.1, fun ψ hψ => ?_, O.2.2.1, O.2.2.2⟩
  by_cases e : ψ = φ
  · subst e
    exact ⟨x, by simp [hp_N, hp_sN, hp_up], hx⟩
  · obtain ⟨y, y1, y2⟩ := O.2.1 ψ (by rcases List.mem_cons.mp hψ with q | q; exact absurd q e; exact q)
    exact ⟨y, by rw [show hp_N (hp_sN α φ a0 (some x)) ψ a0 = hp_N α ψ a0 by simp [hp_N, hp_sN, hp_up, e]]; exact y1, y2⟩
theorem co_s0 (O : co α0 a0 κ α l f) (hφ : φ ∉ l) : co α0 a0 κ (hp_sN α φ a0 none) l f := by
  refine ⟨O.1, fun ψ hψ => ?_, O.2.2.1, O.2.2.2⟩
  have e : ψ ≠ φ := fun q => hφ (q ▸ hψ)
  obtain ⟨y, y1, y2⟩ := O.2.1 ψ hψ
  exact ⟨y, by rw [show hp_N (hp_sN α φ a0 none) ψ a0 = hp_N α ψ a0 by simp [hp_N, hp_sN, hp_up, e]]; exact y1, y2⟩
theorem co_sI (O : co α0 a0 κ α l f) (hφ : ∀ q ∈ f, q.1 ≠ φ) : co α0 a0 κ (hp_sI α φ a0 v) l ((φ, v) :: f) := by
  refine ⟨O.1, O.2.1, fun q hq => ?_, fun ψ hψ => ?_⟩
  · rcases List.mem_cons.mp hq with e | e
    · rw [e]; exact hp_I_at
    · rw [hp_I_ne (hφ q e)]; exact O.2.2.1 q e
  · have e : ψ ≠ φ := fun q => hψ (φ, v) List.mem_cons_self q.symm
    rw [hp_I_ne e]
    exact O.2.2.2 ψ (fun q hq => hψ q (List.mem_cons_of_mem _ hq))
theorem gx_new (G : gx a0 α0 α) (O : co α0 a0 κ α l f) (hh : hp_K α h = 0) : hp_K α0 h = 0 ∧ a0 ≠ h := by
  have hne : a0 ≠ h := fun e => by rw [← e, O.1] at hh; omega
  refine ⟨?_, hne⟩
  by_cases e : hp_K α0 h = 0
  · exact e
  · exact absurd ((G.2 h (fun q => hne q.symm) e).1.symm.trans hh) e
theorem gx_nw (G : gx a0 α0 α) (hκ : 20 ≤ κ') (hh : hp_K α h = 0) : gx a0 α0 (hp_nw α h κ') :=
  gx_st G (gc_nw G.1 hh hκ) (fun b _ _ h3 => sa_nw (fun e => h3 (by rw [e]; exact hh)))
theorem gx_sI (G : gx a0 α0 α) (hv : gc_i φ v) : gx a0 α0 (hp_sI α φ a0 v) := gx_st G (gc_sI G.1 hv) (fun _ h1 _ _ => sa_sI h1)
theorem gx_sN {y : Option Nat} (G : gx a0 α0 α) (O : co α0 a0 κ α l f) : gx a0 α0 (hp_sN α φ a0 y) := gx_st G (gc_sN G.1 (by rw [O.1]; omega)) (fun _ h1 _ _ => sa_sN h1)
theorem gx_sQ (G : gx a0 α0 α) (hb : hp_K α0 b = 0) (hw : hp_K α w = gc_qk κ') : gx a0 α0 (hp_sQ α κ' b j (some w)) := gx_st G (gc_sQ G.1 hw) (fun _ _ h2 _ => sa_sQ (fun e => h2 (by rw [e]; exact hb)))
theorem gx_sL {y : Int64} (G : gx a0 α0 α) (hb : hp_K α0 b = 0) : gx a0 α0 (hp_sL α κ' b j y) := gx_st G G.1 (fun _ _ h2 _ => sa_sL (fun e => h2 (by rw [e]; exact hb)))
theorem gx_call (G : gx a0 α0 α) (g : gx b α β) (hb : hp_K α0 b = 0) : gx a0 α0 β := gx_st G g.1 (fun _ _ h2 h3 => g.2 _ (fun e => h2 (by rw [e]; exact hb)) h3)
/-- the object is complete: its kind is its class's -/
def hp_cv (α : hp_T) (a κ : Nat) : hp_T := (fun b => if b = a then κ else α.1 b, α.2.1, α.2.2.1, fun φ b => if b = a then (α.2.2.2.2.1 φ a).getD 0 else α.2.2.2.1 φ b, α.2.2.2.2)
theorem cv_fv {a : Nat} : ∀ (ts : List Nat) (ψ : Nat), (∀ k, ts[k]? = some 1 → hp_N α (ψ + k) a ≠ none) → hp_fv (hp_cv α a κ) a ts ψ = hp_fv α a (ts.map hp_rw) ψ := by
  intro ts
  induction ts with
  | nil => intro ψ _; rfl
  | cons t ts ih =>
    intro ψ ht
    show _ :: _ = _ :: _
    rw [ih (ψ + 1) (fun k hk => by rw [show ψ + 1 + k = ψ + (k + 1) by omega]; exact ht (k + 1) hk)]
    congr 1
    unfold hp_rw
    by_cases e : t = 1
    · subst e
      have h0 := ht 0 rfl
      cases hn : hp_N α ψ a with
      | none => exact absurd hn h0
      | some x =>
        have hr : hp_R (hp_cv α a κ) ψ a = x := by
          show (if a = a then (hp_N α ψ a).getD 0 else hp_R α ψ a) = x
          rw [if_pos rfl, hn]; rfl
        simp [hp_v, hr, hn, va_rf]
    · rw [if_neg e]
      simp [hp_v, e, hp_I, hp_J, hp_N, hp_cv]
theorem hp_Rep.cv {Γ : hp_G} {H : Heap} {a : Nat} (R : hp_Rep Γ α H) (hk : hp_K α a = 100 + κ) (hκ : 1 ≤ κ ∧ κ < 20) (hn : ∀ k, (hp_tg κ)[k]? = some 1 → hp_N α (50 * κ + k) a ≠ none) : hp_Rep Γ (hp_cv α a κ) H := by
  refine ⟨R.1, R.2.1, fun b hb => ?_⟩
  by_cases e : b = a
  · subst e
    have hkb : hp_K (hp_cv α b κ) b = κ := by simp [hp_K, hp_cv]
    rw [hkb]
    obtain ⟨r1, r2⟩ := R.2.2 b (by rw [hk]; omega)
    refine ⟨r1, ?_⟩
    rw [hk, hp_ce_c (by unfold hp_isC; simp; omega), hp_b_100] at r2
    have hc : hp_isC κ = true := by unfold hp_isC; simp; omega
    have hbk : hp_b κ = κ := by unfold hp_b; rw [if_pos (by omega)]
    have htg : hp_tg (100 + κ) = (hp_tg κ).map hp_rw := by
      unfold hp_tg
      rw [if_neg (by omega), if_pos (by omega), show 100 + κ - 101 = κ - 1 by omega]
    rw [hp_ce_c hc, hbk, cv_fv _ _ hn, ← htg]
    exact r2
  · have hkb : hp_K (hp_cv α a κ) b = hp_K α b := by simp [hp_K, hp_cv, e]
    rw [hkb] at hb ⊢
    obtain ⟨r1, r2⟩ := R.2.2 b hb
    refine ⟨r1, ?_⟩
    have hce := hp_ce_neE (dA := Γ.2.2.2.1) (α := α) (β := hp_cv α a κ) (b := b) (fun t φ => by simp [hp_v, hp_I, hp_J, hp_R, hp_N, hp_cv, e]) (fun κ' => ⟨rfl, rfl, rfl⟩) (hp_K α b)
    rw [hce]
    exact r2
theorem cv_k (hb : b ≠ a0) : hp_K (hp_cv α a0 κ) b = hp_K α b := by simp [hp_K, hp_cv, hb]
theorem gc_cv (g : GC α) (hk : hp_K α a0 = 100 + κ) (hκ : 1 ≤ κ ∧ κ < 20) (hn : ∀ φ, φ / 50 = κ → gc_rk φ ≠ 0 → ∃ x, hp_N α φ a0 = some x ∧ gc_t φ (hp_K α x)) (h3 : κ = 12 → hp_N α 618 a0 = none) : GC (hp_cv α a0 κ) := by
  obtain ⟨g1, g2, g3, g4⟩ := g
  have hk0 : hp_K (hp_cv α a0 κ) a0 = κ := by simp [hp_K, hp_cv]
  refine ⟨g1, fun φ a ha hr => ?_, fun a b ha hb => ?_, fun κ' a j b ha hq hb => ?_⟩
  · by_cases e : a = a0
    · subst e
      rw [hk0] at ha
      obtain ⟨x, x1, x2⟩ := hn φ ha.symm hr
      have hR : hp_R (hp_cv α a κ) φ a = x := by
        show (if a = a then (hp_N α φ a).getD 0 else hp_R α φ a) = x
        rw [if_pos rfl, x1]; rfl
      have hx := (gc_t_lt hr x2).2
      rw [hR, cv_k (fun q => by rw [q, hk] at hx; omega)]
      exact x2
    · rw [cv_k e] at ha
      have t := g2 φ a ha hr
      have hR : hp_R (hp_cv α a0 κ) φ a = hp_R α φ a := by simp [hp_R, hp_cv, e]
      have hx := (gc_t_lt hr t).2
      rw [hR, cv_k (fun q => by rw [q, hk] at hx; omega)]
      exact t
  · have hb' : hp_N α 618 a = some b := hb
    by_cases e : a = a0
    · subst e
      rw [hk0] at ha
      rw [h3 ha] at hb'; cases hb'
    · rw [cv_k e] at ha
      have t := g3 a b ha hb'
      rw [cv_k (fun q => by rw [q, hk] at t; omega)]; exact t
  · have hb' : hp_Q α κ' a j = some b := hb
    by_cases e : a = a0
    · subst e
      rw [hk0] at ha
      have := (gc_q_20 hq).1
      omega
    · rw [cv_k e] at ha
      have t := g4 κ' a j b ha hq hb'
      have := gc_q_lt (κ := κ')
      rw [cv_k (fun q => by rw [q, hk] at t; omega)]; exact t
theorem gx_cv (G : gx a0 α0 α) (g : GC (hp_cv α a0 κ)) : gx a0 α0 (hp_cv α a0 κ) := gx_st G g (fun b h1 _ _ => by
  refine ⟨cv_k h1, fun _ => rfl, fun _ => rfl, fun φ => ?_, fun _ => rfl, fun _ _ => rfl, fun _ _ => rfl, fun _ _ => rfl⟩
  simp [hp_R, hp_cv, h1])
/-- the references of a class -/
def gc_fl (κ : Nat) : List Nat := (gc_rt.filter (fun q => q.1 / 50 == κ)).map (fun q => q.1)
theorem co_done {Γ : hp_G} {H : Heap} {s : State} {locs : List Loc} (B : hp_B Γ (gx a0) s α0 α H locs) (O : co α0 a0 κ α l f) (hκ : 1 ≤ κ ∧ κ < 20) (hl : ∀ φ ∈ gc_fl κ, φ ∈ l) (ht : ∀ k, (hp_tg κ)[k]? = some 1 → 50 * κ + k ∈ l) (h3 : κ = 12 → hp_N α 618 a0 = none) : hp_B Γ (gx a0) s α0 (hp_cv α a0 κ) H locs ∧ hp_K (hp_cv α a0 κ) a0 = κ ∧ (∀ q ∈ f, hp_I (hp_cv α a0 κ) q.1 a0 = q.2) ∧ (∀ φ, (∀ q ∈ f, q.1 ≠ φ) → hp_I (hp_cv α a0 κ) φ a0 = 0) ∧ ∀ φ ∈ l, ∃ x, hp_R (hp_cv α a0 κ) φ a0 = x ∧ hp_N α φ a0 = some x ∧ hp_K (hp_cv α a0 κ) x = hp_K α x ∧ gc_t φ (hp_K α x) ∧ (20 ≤ hp_K α x → ∀ j, hp_E α (hp_K α x) x j = 0) := by
  have gC : GC (hp_cv α a0 κ) := gc_cv B.2.2.1 O.1 hκ (fun φ h1 h2 => by
    obtain ⟨x, x1, x2, -⟩ := O.2.1 φ (hl φ (List.mem_map.mpr ⟨(φ, gc_rk φ), List.mem_filter.mpr ⟨gc_rk_mem h2, by simpa using h1⟩, rfl⟩))
    exact ⟨x, x1, x2⟩) h3
  refine ⟨⟨B.1.cv O.1 hκ (fun k hk => ?_), B.2.1, gx_cv B.2.2 gC⟩, by simp [hp_K, hp_cv], O.2.2.1, O.2.2.2, fun φ hφ => ?_⟩
  · obtain ⟨x, x1, -⟩ := O.2.1 _ (ht k hk)
    rw [x1]; intro q; cases q
  · obtain ⟨x, x1, x2, x3, x4, x5, x6⟩ := O.2.1 φ hφ
    refine ⟨x, ?_, x1, cv_k (fun q => by rw [q, O.1] at x4; omega), x2, x6⟩
    show (if a0 = a0 then (hp_N α φ a0).getD 0 else hp_R α φ a0) = x
    rw [if_pos rfl, x1]; rfl
end CO
theorem nw_k {α : hp_T} {h κ : Nat} : hp_K (hp_nw α h κ) h = κ := by simp [hp_K, hp_nw]
theorem nw_i {α : hp_T} {h κ φ : Nat} : hp_I (hp_nw α h κ) φ h = 0 := by simp [hp_I, hp_nw]
theorem nw_e {α : hp_T} {h κ ψ j : Nat} : hp_E (hp_nw α h κ) ψ h j = 0 := by simp [hp_E, hp_nw]
theorem sN_at {α : hp_T} {φ a : Nat} {x : Option Nat} : hp_N (hp_sN α φ a x) φ a = x := by simp [hp_N, hp_sN, hp_up]
theorem co_fin {α0 α : hp_T} {a0 κ : Nat} {l : List Nat} {f : List (Nat × Int32)} {Γ : hp_G} {H : Heap} {s : State} {locs : List Loc} (B : hp_B Γ (gx a0) s α0 α H locs) (O : co α0 a0 κ α l f) (hκ : 1 ≤ κ ∧ κ < 20) (hl : ∀ φ ∈ gc_fl κ, φ ∈ l) (ht : ∀ k, k < (hp_tg κ).length → (hp_tg κ)[k]? = some 1 → 50 * κ + k ∈ l) (h3 : κ = 12 → hp_N α 618 a0 = none) : hp_B Γ (gx a0) s α0 (hp_cv α a0 κ) H locs ∧ hp_K (hp_cv α a0 κ) a0 = κ ∧ (∀ q ∈ f, hp_I (hp_cv α a0 κ) q.1 a0 = q.2) ∧ (∀ φ, (∀ q ∈ f, q.1 ≠ φ) → hp_I (hp_cv α a0 κ) φ a0 = 0) ∧ ∀ φ ∈ l, ∃ x, hp_R (hp_cv α a0 κ) φ a0 = x ∧ hp_N α φ a0 = some x ∧ hp_K (hp_cv α a0 κ) x = hp_K α x ∧ gc_t φ (hp_K α x) ∧ (20 ≤ hp_K α x → ∀ j, hp_E α (hp_K α x) x j = 0) := co_done B O hκ hl (fun k hk => ht k (List.getElem?_eq_some_iff.mp hk).1 hk) h3
end JN4_1
