/-! ===== constructors, to the letter: where each new thing lies ===== -/
theorem zzk {a b c k d e : Nat} (h : a = b + d) (z : b = c + k) (q : k + d = e) : a = c + e := by omega
section HPZ2
variable {p : Program} {l : Launch} {e : Env} {R : Room} {s : State} {m : MethodId} {args : Array Value} {below : List Frame} {meth : Method} {c : Code} {H : Heap} {locs : List Loc} {cells slots : Nat} {Q : State → Prop} {cc : ByteArray} {nL : Nat} {own : String} {Γ : hp_G} {α0 α α' : hp_T} {Iv : hp_T → hp_T → Prop} {pc pc' : Nat} {ls : Array Slot} {rest : List Value} {a κ k t index φ n d mc ms N : Nat} {v : Value} {i x : Int32}
theorem q_putZ (C : hp_C Γ p m c cc nL s args own) (B : hp_B Γ Iv s α0 α H locs) (hk : hp_K α a = κ) (hF : hp_F own index (hp_b κ) k) (hc : hp_isC κ = true) (ht : (hp_tg κ)[k]? = some t) (hfin : ((hp_q (hp_b κ)).2.1 k).2.2.2 = false) (hn : narrow (hp_ty (hp_b κ) k) v = v) (hfit : fits (hp_ty (hp_b κ) k) v = true)
    (hK' : hp_K α' = hp_K α) (hv : hp_v α' a t (50 * hp_b κ + k) = v) (hv' : ∀ t φ, φ ≠ 50 * hp_b κ + k → hp_v α' a t φ = hp_v α a t φ) (hb' : ∀ b, b ≠ a → ∀ κ, hp_ce Γ.2.2.2.1 α' κ b = hp_ce Γ.2.2.2.1 α κ b) (hiv : Iv α0 α')
    (hdg : decode cc pc = .ok (.putfield index, 3)) (hpc : pc + 3 = pc')
    (kk : ∀ (H1 : Heap) (locs1 : List Loc), H1.size = H.size → hp_B Γ Iv s α0 α' H1 locs1 → W p l e R s m args below meth c H1 locs1 cells slots Q (F0 m pc' ls rest)) : W p l e R s m args below meth c H locs cells slots Q (F0 m pc ls (v :: .ref a :: rest)) := by
  obtain ⟨⟨hx, hb, hml, hown, hts⟩, hK, -⟩ := C
  obtain ⟨hq, hkN, hin, hty, hnm, hlk⟩ := hF
  obtain ⟨hbase, hat⟩ := B.at hk hc
  subst hpc
  have h0 : hp_K α a ≠ 0 := by rw [hk]; intro h; rw [h] at hc; cases hc
  have hap := va_apart (own := own) hts hin (hp_ty (hp_b κ)) hty hnm hK hq
  obtain ⟨r, h1, cell, q1, q2, q3, q4⟩ := hat
  have hr : r = hp_q (hp_b κ) := Option.some.inj (h1.symm.trans hq)
  subst hr
  obtain ⟨hS, hfc, kC, hkC, hkind⟩ := hK.1 _ _ hq
  obtain ⟨cf, kf, fi, f, hi, hsl⟩ := hS k hkN
  have hlay := hts _ (hin _ (u_in_lay hkN))
  unfold u_lay at hlay
  rw [if_neg (by rw [hfin]; decide)] at hlay
  have hst := (u_facts hfc hkC (u_lays hts hin hkN) hi).1
  have h6 := u_store hfc hkC hkind hlay hi (hty k hkN) hn hfit
  refine W.putK hx hb (f := f) ⟨hown, hts _ hlk, ⟨_, _, _, hi⟩, hst⟩ (by rw [q2]; exact h6) q1 q3 (by rw [hsl]; exact k2_hasslot (q4 k hkN)) rfl rfl hdg fun H' e1 e2 e3 => ?_
  rw [hsl] at e1 ⊢
  refine kk H' _ e2 ⟨B.1.upd e2 e3 h0 ?_ hK' hb', B.2.1.put e2 e3 hbase, hiv⟩
  rw [hk, hp_ce_c hc]
  have hl : k < (hp_fv α a (hp_tg κ) (50 * hp_b κ)).length := by rw [hp_fv_len]; exact (List.getElem?_eq_some_iff.mp ht).1
  refine ⟨_, hq, t_OB.to (V := updV (vp_V (hp_fv α a (hp_tg κ) (50 * hp_b κ))) k v) ⟨_, e1, q2, q3, t_set q4 hap hkN v⟩ (fun j _ => ?_)⟩
  rw [vp_updV_set hl v j, hp_fv_set (hp_tg κ) k (50 * hp_b κ) ht hv hv']
theorem q_putiZ {x : Int32} {φ : Nat} (C : hp_C Γ p m c cc nL s args own) (B : hp_B Γ Iv s α0 α H locs) (hk : hp_K α a = κ) (hF : hp_F own index (hp_b κ) k) (hc : hp_isC κ = true) (ht : (hp_tg κ)[k]? = some 0) (hfin : ((hp_q (hp_b κ)).2.1 k).2.2.2 = false) (hn : narrow (hp_ty (hp_b κ) k) (.int x) = .int x) (hfit : fits (hp_ty (hp_b κ) k) (.int x) = true) (hφ : 50 * hp_b κ + k = φ) (hiv : Iv α0 (hp_sI α φ a x))
    (hdg : decode cc pc = .ok (.putfield index, 3)) (hpc : pc + 3 = pc')
    (kk : ∀ (β : hp_T) (H1 : Heap) (locs1 : List Loc), β = hp_sI α φ a x → H1.size = H.size → hp_B Γ Iv s α0 β H1 locs1 → W p l e R s m args below meth c H1 locs1 cells slots Q (F0 m pc' ls rest)) : W p l e R s m args below meth c H locs cells slots Q (F0 m pc ls (.int x :: .ref a :: rest)) := by
  subst hφ
  refine q_putZ C B hk hF hc ht hfin hn hfit (α' := hp_sI α (50 * hp_b κ + k) a x) rfl ?_ ?_ (fun b hb => hp_ce_ne (fun t φ => ?_) ⟨rfl, rfl, rfl⟩) hiv hdg hpc (fun H1 locs1 z1 B1 => kk _ H1 locs1 rfl z1 B1)
  · simp [hp_v, hp_I, hp_sI, hp_up]
  · intro t φ h; simp [hp_v, hp_I, hp_R, hp_J, hp_N, hp_sI, hp_up, h]
  · simp [hp_v, hp_I, hp_R, hp_J, hp_N, hp_sI, hp_up, hb]
theorem q_putnZ {x : Nat} {φ : Nat} (C : hp_C Γ p m c cc nL s args own) (B : hp_B Γ Iv s α0 α H locs) (hk : hp_K α a = κ) (hF : hp_F own index (hp_b κ) k) (hc : hp_isC κ = true) (ht : (hp_tg κ)[k]? = some 3) (hfin : ((hp_q (hp_b κ)).2.1 k).2.2.2 = false) (hn : narrow (hp_ty (hp_b κ) k) (.ref x) = .ref x) (hfit : fits (hp_ty (hp_b κ) k) (.ref x) = true) (hφ : 50 * hp_b κ + k = φ) (hiv : Iv α0 (hp_sN α φ a (some x)))
    (hdg : decode cc pc = .ok (.putfield index, 3)) (hpc : pc + 3 = pc')
    (kk : ∀ (β : hp_T) (H1 : Heap) (locs1 : List Loc), β = hp_sN α φ a (some x) → H1.size = H.size → hp_B Γ Iv s α0 β H1 locs1 → W p l e R s m args below meth c H1 locs1 cells slots Q (F0 m pc' ls rest)) : W p l e R s m args below meth c H locs cells slots Q (F0 m pc ls (.ref x :: .ref a :: rest)) := by
  subst hφ
  refine q_putZ C B hk hF hc ht hfin hn hfit (α' := hp_sN α (50 * hp_b κ + k) a (some x)) rfl ?_ ?_ (fun b hb => hp_ce_ne (fun t φ => ?_) ⟨rfl, rfl, rfl⟩) hiv hdg hpc (fun H1 locs1 z1 B1 => kk _ H1 locs1 rfl z1 B1)
  · simp [hp_v, hp_N, hp_sN, hp_up, va_rf]
  · intro t φ h; simp [hp_v, hp_I, hp_R, hp_J, hp_N, hp_sN, hp_up, h]
  · simp [hp_v, hp_I, hp_R, hp_J, hp_N, hp_sN, hp_up, hb]
theorem q_putFZ (C : hp_C Γ p m c cc nL s args own) (B : hp_B Γ Iv s α0 α H locs) (hk : hp_K α a = κ) (hF : hp_F own index (hp_b κ) k) (hc : hp_isC κ = true) (ht : (hp_tg κ)[k]? = some t) (hfin : ((hp_q (hp_b κ)).2.1 k).2.2.2 = true) (hin2 : meth.name = "<init>") (hdecl : ((hp_q (hp_b κ)).2.1 k).1 = own) (hn : narrow (hp_ty (hp_b κ) k) v = v) (hfit : fits (hp_ty (hp_b κ) k) v = true)
    (hK' : hp_K α' = hp_K α) (hv : hp_v α' a t (50 * hp_b κ + k) = v) (hv' : ∀ t φ, φ ≠ 50 * hp_b κ + k → hp_v α' a t φ = hp_v α a t φ) (hb' : ∀ b, b ≠ a → ∀ κ, hp_ce Γ.2.2.2.1 α' κ b = hp_ce Γ.2.2.2.1 α κ b) (hiv : Iv α0 α')
    (hdg : decode cc pc = .ok (.putfield index, 3)) (hpc : pc + 3 = pc')
    (kk : ∀ (H1 : Heap) (locs1 : List Loc), H1.size = H.size → hp_B Γ Iv s α0 α' H1 locs1 → W p l e R s m args below meth c H1 locs1 cells slots Q (F0 m pc' ls rest)) : W p l e R s m args below meth c H locs cells slots Q (F0 m pc ls (v :: .ref a :: rest)) := by
  obtain ⟨⟨hx, hb, hml, hown, hts⟩, hK, -⟩ := C
  obtain ⟨hq, hkN, hin, hty, hnm, hlk⟩ := hF
  obtain ⟨hbase, hat⟩ := B.at hk hc
  subst hpc
  have h0 : hp_K α a ≠ 0 := by rw [hk]; intro h; rw [h] at hc; cases hc
  have hap := va_apart (own := own) hts hin (hp_ty (hp_b κ)) hty hnm hK hq
  obtain ⟨r, h1, cell, q1, q2, q3, q4⟩ := hat
  have hr : r = hp_q (hp_b κ) := Option.some.inj (h1.symm.trans hq)
  subst hr
  obtain ⟨hS, hfc, kC, hkC, hkind⟩ := hK.1 _ _ hq
  obtain ⟨cf, kf, fi, f, hi, hsl⟩ := hS k hkN
  have hlay := hts _ (hin _ (u_in_lay hkN))
  unfold u_lay at hlay
  rw [if_pos hfin] at hlay
  have hst := (u_facts hfc hkC (u_lays hts hin hkN) hi).1
  have hcf : m.cls = cf := by
    obtain ⟨_, _, c', _, _, _, -, -, hf', -, -, -, hown2, -⟩ := Cond.laysFinal_spec hlay
    have e1 : c' = cf := by have := hi.symm.trans hf'; simp at this; exact this.1.symm
    rw [hdecl] at hown2
    rw [← e1]; exact Option.some.inj (hown.symm.trans hown2)
  have h6 := u_fits hfc hkC hkind (Or.inr hlay) hi (hty k hkN) hn hfit
  refine W.putFinK hx hb hown (hts _ hlk) hi hst hcf hin2 (by rw [q2]; exact h6) q1 q3 (by rw [hsl]; exact k2_hasslot (q4 k hkN)) rfl rfl hdg fun H' e1 e2 e3 => ?_
  rw [hsl] at e1 ⊢
  refine kk H' _ e2 ⟨B.1.upd e2 e3 h0 ?_ hK' hb', B.2.1.put e2 e3 hbase, hiv⟩
  rw [hk, hp_ce_c hc]
  refine ⟨_, hq, t_OB.to (V := updV (vp_V (hp_fv α a (hp_tg κ) (50 * hp_b κ))) k v) ⟨_, e1, q2, q3, t_set q4 hap hkN v⟩ (fun j _ => ?_)⟩
  have hl : k < (hp_fv α a (hp_tg κ) (50 * hp_b κ)).length := by rw [hp_fv_len]; exact (List.getElem?_eq_some_iff.mp ht).1
  rw [vp_updV_set hl v j, hp_fv_set (hp_tg κ) k (50 * hp_b κ) ht hv hv']
theorem q_putnFZ {x φ : Nat} (C : hp_C Γ p m c cc nL s args own) (B : hp_B Γ Iv s α0 α H locs) (hk : hp_K α a = κ) (hF : hp_F own index (hp_b κ) k) (hc : hp_isC κ = true) (ht : (hp_tg κ)[k]? = some 3) (hfin : ((hp_q (hp_b κ)).2.1 k).2.2.2 = true) (hin2 : meth.name = "<init>") (hdecl : ((hp_q (hp_b κ)).2.1 k).1 = own) (hn : narrow (hp_ty (hp_b κ) k) (.ref x) = .ref x) (hfit : fits (hp_ty (hp_b κ) k) (.ref x) = true) (hφ : 50 * hp_b κ + k = φ) (hiv : Iv α0 (hp_sN α φ a (some x)))
    (hdg : decode cc pc = .ok (.putfield index, 3)) (hpc : pc + 3 = pc')
    (kk : ∀ (β : hp_T) (H1 : Heap) (locs1 : List Loc), β = hp_sN α φ a (some x) → H1.size = H.size → hp_B Γ Iv s α0 β H1 locs1 → W p l e R s m args below meth c H1 locs1 cells slots Q (F0 m pc' ls rest)) : W p l e R s m args below meth c H locs cells slots Q (F0 m pc ls (.ref x :: .ref a :: rest)) := by
  subst hφ
  refine q_putFZ C B hk hF hc ht hfin hin2 hdecl hn hfit (α' := hp_sN α (50 * hp_b κ + k) a (some x)) rfl ?_ ?_ (fun b hb => hp_ce_ne (fun t φ => ?_) ⟨rfl, rfl, rfl⟩) hiv hdg hpc (fun H1 locs1 z1 B1 => kk _ H1 locs1 rfl z1 B1)
  · simp [hp_v, hp_N, hp_sN, hp_up, va_rf]
  · intro t φ h; simp [hp_v, hp_I, hp_R, hp_J, hp_N, hp_sN, hp_up, h]
  · simp [hp_v, hp_I, hp_R, hp_J, hp_N, hp_sN, hp_up, hb]
theorem q_put0Z {φ : Nat} (C : hp_C Γ p m c cc nL s args own) (B : hp_B Γ Iv s α0 α H locs) (hk : hp_K α a = κ) (hF : hp_F own index (hp_b κ) k) (hc : hp_isC κ = true) (ht : (hp_tg κ)[k]? = some 3) (hfin : ((hp_q (hp_b κ)).2.1 k).2.2.2 = false) (hn : narrow (hp_ty (hp_b κ) k) .null = .null) (hfit : fits (hp_ty (hp_b κ) k) .null = true) (hφ : 50 * hp_b κ + k = φ) (hiv : Iv α0 (hp_sN α φ a none))
    (hdg : decode cc pc = .ok (.putfield index, 3)) (hpc : pc + 3 = pc')
    (kk : ∀ (β : hp_T) (H1 : Heap) (locs1 : List Loc), β = hp_sN α φ a none → H1.size = H.size → hp_B Γ Iv s α0 β H1 locs1 → W p l e R s m args below meth c H1 locs1 cells slots Q (F0 m pc' ls rest)) : W p l e R s m args below meth c H locs cells slots Q (F0 m pc ls (.null :: .ref a :: rest)) := by
  subst hφ
  refine q_putZ C B hk hF hc ht hfin hn hfit (α' := hp_sN α (50 * hp_b κ + k) a none) rfl ?_ ?_ (fun b hb => hp_ce_ne (fun t φ => ?_) ⟨rfl, rfl, rfl⟩) hiv hdg hpc (fun H1 locs1 z1 B1 => kk _ H1 locs1 rfl z1 B1)
  · simp [hp_v, hp_N, hp_sN, hp_up, va_rf]
  · intro t φ h; simp [hp_v, hp_I, hp_R, hp_J, hp_N, hp_sN, hp_up, h]
  · simp [hp_v, hp_I, hp_R, hp_J, hp_N, hp_sN, hp_up, hb]
theorem q_aasZ {κv : Nat} {w : Nat} {j : Nat} {r : vw_C} (C : hp_C Γ p m c cc nL s args own) (B : hp_B Γ Iv s α0 α H locs) (hk : hp_K α a = κ) (hκ : 20 ≤ κ ∧ κ < 60) (har : hp_ar κ = (t, n)) (ht4 : 4 ≤ t) (hkv : hp_K α w = κv) (hcv : hp_isC κv = true) (hr : vwCl[hp_b κv - 1]? = some r) (htt : (hp_tys Γ.2.2.2.1)[t]? = some (Γ.2.2.2.1 t, .object r.1)) (hin : vp_in i n) (hj : i.toNatClampNeg = j) (hiv : Iv α0 (hp_sQ α κ a j (some w))) (hdg : decode cc pc = .ok (.aastore, 1)) (hpc : pc + 1 = pc')
    (kk : ∀ (β : hp_T) (H1 : Heap) (locs1 : List Loc), β = hp_sQ α κ a j (some w) → H1.size = H.size → hp_B Γ Iv s α0 β H1 locs1 → W p l e R s m args below meth c H1 locs1 cells slots Q (F0 m pc' ls rest)) : W p l e R s m args below meth c H locs cells slots Q (F0 m pc ls (.ref w :: .int i :: .ref a :: rest)) := by
  subst hpc; subst hj
  have hlt : i.toNatClampNeg < n := Nat.not_le.mp fun q => hin (Or.inr q)
  have h0 : ¬ i < 0 := fun q => hin (Or.inl q)
  obtain ⟨hbase, hat⟩ := B.ar hk hκ har
  have hcx : hp_cx α κ a t = .inr (.inr (.inr (.inr (hp_Q α κ a)))) := by unfold hp_cx; rw [if_neg (by omega), if_neg (by omega)]
  rw [hcx] at hat
  obtain ⟨r', hr', cellV, g1, g2, g3, -⟩ := (B.at hkv hcv).2
  have hcls := (C.2.1.1 _ r hr).2
  obtain ⟨kA, comp, k1, k2, k3, -⟩ := (C.2.1.2 t _ htt).2
  have hcomp : comp = Γ.2.1 (hp_b κv - 1) := Option.some.inj (k3.symm.trans hcls.1)
  subst hcomp
  obtain ⟨kC, hkC, -⟩ := hcls.2
  refine W.aast C.1.1 C.1.2.1 hat (fun q h => by cases h) (fun h => by cases h) k1 k2 rfl hkC ⟨h0, by show _ < (arrV _ _ _).slots.size; rw [arrV_size]; exact hlt⟩ g1 (fun q h => by rw [g3] at h; cases h) (by rw [g2]; exact hkC) (by rw [g2]; exact va_assign hcls) rfl rfl hdg fun H1 e z oq => ?_
  refine kk _ H1 _ rfl z ⟨B.1.upd z oq (by rw [hk]; omega) ?_ rfl (fun b hb => hp_ce_neE (fun t φ => rfl) (fun κ' => ⟨rfl, rfl, hp_sQ_ne hb⟩)), B.2.1.put z oq hbase, hiv⟩
  rw [hk, hp_ce_a hκ har]
  show H1[a]? = some (vp_cell _ _)
  rw [show hp_cx (hp_sQ α κ a i.toNatClampNeg (some w)) κ a t = .inr (.inr (.inr (.inr (hp_Q (hp_sQ α κ a i.toNatClampNeg (some w)) κ a)))) by unfold hp_cx; rw [if_neg (by omega), if_neg (by omega)], hp_sQ_at, e, vp_cell_q, vp_cell_q, arrV_store]
  congr 2
  funext q
  by_cases hq : q = i.toNatClampNeg
  · subst hq
    simp [updV, va_up, va_rf]
  · simp [updV, va_up, hq]
theorem q_newZ (C : hp_C Γ p m c cc nL s args own) (B : hp_B Γ Iv s α0 α H locs) (hcl : Cond.classLink own index (hp_q κ).1 ∈ lw_u) (hit : Cond.instantiable (hp_q κ).1 (hp_q κ).2.2 ∈ lw_u) (hiz : Cond.initialized (hp_q κ).1 ∈ lw_u) (hq : vwCl[κ - 1]? = some (hp_q κ)) (hin : ∀ w ∈ u_ws (hp_q κ).1 (hp_q κ).2.1 (hp_q κ).2.2, w ∈ lw_u) (hty : ∀ j, j < (hp_q κ).2.2 → parseFieldDescriptor ((hp_q κ).2.1 j).2.2.1 = some (hp_ty κ j)) (hdf : ∀ j, j < (hp_q κ).2.2 → defaultValue (hp_ty κ j) = vp_V ((hp_tg (100 + κ)).map hp_dv) j) (hκ : 1 ≤ κ) (hic : hp_isC (100 + κ) = true) (hN : (hp_q κ).2.2 = N) (hR : R = hp_rm d mc ms) (hcc : cells + 1 ≤ mc) (hss : slots + N ≤ ms) (hdg : decode cc pc = .ok (.new index, 3)) (hpc : pc + 3 = pc') (hiv : ∀ h, hp_K α h = 0 → Iv α0 (hp_nw α h (100 + κ)))
    (kk : ∀ (β : hp_T) (h : Nat) (H1 : Heap), hp_K α h = 0 → h = H.size → H1.size = H.size + 1 → β = hp_nw α h (100 + κ) → hp_B Γ Iv s α0 β H1 locs → W p l e R s m args below meth c H1 locs (cells + 1) (slots + N) Q (F0 m pc' ls (.ref h :: rest))) : W p l e R s m args below meth c H locs cells slots Q (F0 m pc ls rest) := by
  obtain ⟨⟨hx, hb, hml, hown, hts⟩, hK, -⟩ := C
  subst hpc; subst hN
  have hKn := hK.1 _ _ hq
  refine W.newcK hx hb hown (hts _ hcl) (hts _ hit) (hts _ hiz) rfl hdg (by rw [hR]; exact hcc) (by rw [hR]; exact hss) hKn.2.1 rfl fun H1 kC hkC e1 z1 o1 => ?_
  refine kk _ H.size H1 B.1.fresh rfl z1 rfl ⟨B.1.nw z1 o1 ?_, B.2.1.grow z1 o1, hiv _ B.1.fresh⟩
  rw [hp_ce_c hic, hp_b_100, nw_fv _ _ (tg_no1 hκ)]
  exact ⟨_, hq, (u_born (hp_ty κ) hts hin hKn hkC e1 hty).to hdf⟩
theorem q_newaZ {atype : ArrayType} {ty : FieldType} {dv : Value} (C : hp_C Γ p m c cc nL s args own) (B : hp_B Γ Iv s α0 α H locs) (hac : Cond.arrayClass (newarray.typeOf atype) ∈ lw_u) (hty : newarray.typeOf atype = ty) (hκ : 20 ≤ κ ∧ κ < 60) (har : hp_ar κ = (t, n)) (htt : (hp_tys Γ.2.2.2.1)[t]? = some (Γ.2.2.2.1 t, ty)) (hRA : ∀ (U : State) (cA : ClassId), va_RA U cA ty → U.vm.findClass ("[" ++ ty.toString) = some cA) (hdv : defaultValue ty = dv) (hcl : ∀ (h : Nat) (cA : ClassId), vp_cell cA (n, hp_cx (hp_nw α h κ) κ h t) = arrV cA n (fun _ => dv)) (hx0 : ¬ x < 0) (hxn : x.toNatClampNeg = n) (hby : n * componentBytes (newarray.typeOf atype) ≤ 536870912) (hR : R = hp_rm d mc ms) (hcc : cells + 1 ≤ mc) (hss : slots + n ≤ ms) (hdg : decode cc pc = .ok (.newarray atype, 2)) (hpc : pc + 2 = pc') (hiv : ∀ h, hp_K α h = 0 → Iv α0 (hp_nw α h κ))
    (kk : ∀ (β : hp_T) (h : Nat) (H1 : Heap), hp_K α h = 0 → h = H.size → H1.size = H.size + 1 → β = hp_nw α h κ → hp_B Γ Iv s α0 β H1 locs → W p l e R s m args below meth c H1 locs (cells + 1) (slots + n) Q (F0 m pc' ls (.ref h :: rest))) : W p l e R s m args below meth c H locs cells slots Q (F0 m pc ls (.int x :: rest)) := by
  obtain ⟨⟨hx, hb, hml, hown, hts⟩, hK, -⟩ := C
  subst hpc; subst hty
  refine va_newaK (atype := atype) hx hb (hts _ hac) rfl hdg rfl hx0 hxn hby (by rw [hR]; exact hcc) (by rw [hR]; exact hss) rfl fun H1 cA e1 z1 o1 hAr hNm => ?_
  have hcA : cA = Γ.2.2.2.1 t := Option.some.inj (hNm.symm.trans (hRA _ _ (hK.2 t _ htt).2))
  subst hcA
  refine kk _ H.size H1 B.1.fresh rfl z1 rfl ⟨B.1.nw z1 o1 ?_, B.2.1.grow z1 o1, hiv _ B.1.fresh⟩
  rw [hp_ce_a hκ har]
  show H1[H.size]? = some (vp_cell _ _)
  rw [hcl, ← hdv]
  exact e1
theorem q_anewZ {Cn : String} (C : hp_C Γ p m c cc nL s args own) (B : hp_B Γ Iv s α0 α H locs) (hcl : Cond.classLink own index Cn ∈ lw_u) (hao : Cond.arrayOver (.object Cn) ∈ hp_nest) (hκ : 20 ≤ κ ∧ κ < 60) (har : hp_ar κ = (t, n)) (ht4 : 4 ≤ t) (htt : (hp_tys Γ.2.2.2.1)[t]? = some (Γ.2.2.2.1 t, .object Cn)) (hx0 : ¬ x < 0) (hxn : x.toNatClampNeg = n) (hby : n * 4 ≤ 536870912) (hR : R = hp_rm d mc ms) (hcc : cells + 1 ≤ mc) (hss : slots + n ≤ ms) (hdg : decode cc pc = .ok (.anewarray index, 3)) (hpc : pc + 3 = pc') (hiv : ∀ h, hp_K α h = 0 → Iv α0 (hp_nw α h κ))
    (kk : ∀ (β : hp_T) (h : Nat) (H1 : Heap), hp_K α h = 0 → h = H.size → H1.size = H.size + 1 → β = hp_nw α h κ → hp_B Γ Iv s α0 β H1 locs → W p l e R s m args below meth c H1 locs (cells + 1) (slots + n) Q (F0 m pc' ls (.ref h :: rest))) : W p l e R s m args below meth c H locs cells slots Q (F0 m pc ls (.int x :: rest)) := by
  obtain ⟨⟨hx, hb, hml, hown, hts⟩, hK, hNe, -⟩ := C
  subst hpc; subst hxn
  refine W.anew hx hb hown (hts _ hcl) (va_AO.use (hNe _ hao)) rfl hdg rfl hx0 hby (by rw [hR]; exact hcc) (by rw [hR]; exact hss) fun cA kA comp f1 f2 f3 f4 => ?_
  obtain ⟨kA', comp', -, -, -, hNm⟩ := (hK.2 t _ htt).2
  have hcA : cA = Γ.2.2.2.1 t := Option.some.inj (f1.symm.trans hNm)
  subst hcA
  generalize hH1 : H.push ({ cls := Γ.2.2.2.1 t, slots := Array.replicate x.toNatClampNeg .null, vm := .none } : Cell) = H1
  have z1 : H1.size = H.size + 1 := by rw [← hH1, Array.size_push]
  have e1 : H1[H.size]? = some (arrV (Γ.2.2.2.1 t) x.toNatClampNeg (fun _ => .null)) := by rw [← hH1, Array.getElem?_push_size, ← arrV_new]
  have o1 : ∀ q : Nat, q < H.size → H1[q]? = H[q]? := fun q hq => by rw [← hH1, Array.getElem?_push, if_neg (Nat.ne_of_lt hq)]
  refine kk _ H.size H1 B.1.fresh rfl z1 rfl ⟨B.1.nw z1 o1 ?_, B.2.1.grow z1 o1, hiv _ B.1.fresh⟩
  rw [hp_ce_a hκ har]
  show H1[H.size]? = some (vp_cell _ _)
  rw [nw_cq ht4]
  exact e1
variable {bytes : ByteArray} {maxL d' mc' ms' : Nat} {st : List Value} {b : Nat} {y : MethodName} {As : List Value}
theorem hp_runIZ {Qc : Array Value → State → Outcome → State → Prop} (C : hp_C Γ p m c cc nL s args own) (B : hp_B Γ Iv s α0 α H locs) (hM : Met l y (hp_ws y bytes maxL none) (hp_rm d' mc ms) (hp_PcH Γ α H (.ref b :: As)) Qc mc ms (hp_A Γ)) (hB : hp_LB y bytes maxL none n) (hy : y.name = "<init>") (hI : Cond.instanceMethod y ∈ lw_u) (hL : hp_LK own index y) (hR : R = hp_rm d mc' ms') (hd : d' < d) (hlen : As.length = n) (hsz : ls.size = nL) (hst : st = As.reverse ++ .ref b :: rest) (hcat : (rest.map fun v => v.category).sum ≤ 8) (hdg : decode cc pc = .ok (.invokespecial index, 3)) (hf : cells + mc ≤ mc' ∧ slots + ms ≤ ms') :
    va_Run p l e R s m args below meth c H locs cells slots mc ms (F0 m pc ls st) rest (Qc (Value.ref b :: As).toArray) (hp_A Γ) := by
  obtain ⟨h1, h2, h3, h4⟩ := hB
  have hts := C.1.2.2.2.2
  have hp : PreS s H (hp_PcH Γ α H (.ref b :: As)) (.ref b :: As) := ⟨hp_blindH Γ α H _, fun U hU hW => ⟨rfl, hU, by rw [hU]; exact B.1, C.2.warm hW⟩⟩
  have hRR : (hp_rm d' mc ms).frames + 1 ≤ R.frames ∧ 8 + (maxL + 11) + (hp_rm d' mc ms).locals ≤ R.locals := by
    rw [hR]; show d' + 1 ≤ d ∧ 8 + (maxL + 11) + 45 * d' ≤ 45 * d; omega
  have hff : cells + mc ≤ R.cells ∧ slots + ms ≤ R.slots := by rw [hR]; exact hf
  rcases hL with hL | ⟨host, hL⟩
  · exact va_runI (As := As) (rest := rest) (n := n) C.1 hM ⟨callB_of n hts (hp_gs h1) rfl rfl rfl (hts _ h2) (hts _ hL) h4 hRR, hy, hts _ hI⟩ hp rfl hlen hsz hst (lv_room (m := m) (pc := pc) (ls := ls) (rest := st) hcat) hdg hff
  · exact va_runIN (As := As) (rest := rest) (n := n) C.1 hM ⟨va_cnB n hts (hp_gs h1) rfl rfl rfl (C.2.2.1 _ hL) (hts _ h2) h4 hRR, hy, hts _ hI⟩ hp rfl hlen hsz hst (lv_room (m := m) (pc := pc) (ls := ls) (rest := st) hcat) hdg hff
def hp_QZ (Γ : hp_G) (N : Nat) (post : hp_T → Prop) : Array Value → State → Outcome → State → Prop := va_Qv post (fun β t => hp_Rep Γ β t.heap ∧ t.heap.size = N) (hp_A Γ)
theorem q_cvZ {post : hp_T → Prop} {N : Nat} {aa : Array Value} (B : hp_B Γ Iv s α0 α H locs) (hr : va_Run p l e R s m args below meth c H locs cells slots mc ms (F0 m pc ls st) rest (hp_QZ Γ N post aa) (hp_A Γ)) (hi : ∀ β, post β → Iv α0 β) (hpc : pc + 3 = pc')
    (kk : ∀ (β : hp_T) (H1 : Heap) (locs1 : List Loc), H1.size = N → post β → hp_B Γ Iv s α0 β H1 locs1 → W p l e R s m args below meth c H1 locs1 (cells + mc) (slots + ms) Q (F0 m pc' ls rest)) : W p l e R s m args below meth c H locs cells slots Q (F0 m pc ls st) := by
  subst hpc
  exact va_callv hr B.2.1 (fun _ _ h => h) (fun _ h => h) (fun u t H1 locs1 ht _ hw hB _ _ hS => kk u H1 locs1 (by rw [← ht]; exact hB.2) hw ⟨by rw [← ht]; exact hB.1, hS, hi u hw⟩)
theorem q_vretZ {post : hp_T → Prop} {N : Nat} (C : hp_C Γ p m c cc nL s args own) (B : hp_B Γ Iv s α0 α H locs) (hN : H.size = N) (hr : meth.sig.returnType = none) (hl : meth.locks = false) (hp : post α) (hdg : decode cc pc = .ok (.return_, 1)) : W p l e R s m args below meth c H locs cells slots (MQ below (hp_QZ Γ N post) args s cells slots (hp_A Γ)) (F0 m pc ls []) :=
  W.vret C.1.1 C.1.2.1 hr (fun _ ht _ => ⟨⟨α, rfl, hp, by dsimp only; rw [ht]; exact ⟨B.1, hN⟩⟩, B.2.1.F ht⟩) B.2.1.2.2 hdg hl
end HPZ2
theorem hp_startZ {l : Launch} {Γ : hp_G} {α : hp_T} {Hs : Heap} {bytes : ByteArray} {maxL d mc ms : Nat} {ret : Option FieldType} {y : MethodName} {Qc : Array Value → State → Outcome → State → Prop} {av : List Value} (hy : plainName y.cls = true)
    (body : ∀ p e s m below meth c, hp_C Γ p m c bytes maxL s av.toArray y.cls → meth.sig.returnType = ret → meth.locks = false → hp_B Γ (fun _ _ => True) s α α s.heap [] → meth.name = y.name → s.heap = Hs →
      W p l e (hp_rm d mc ms) s m av.toArray below meth c s.heap [] 0 0 (MQ below Qc av.toArray s mc ms (hp_A Γ)) (entryFrame m av.toArray maxL)) : Met l y (hp_ws y bytes maxL ret) (hp_rm d mc ms) (hp_PcH Γ α Hs av) Qc mc ms (hp_A Γ) := by
  refine Met.ofW (cc := bytes) (maxL := maxL) (ret := ret) hy rfl ?_
  intro p e s m args below meth c s₁ B hml hv
  obtain ⟨rfl, hz, hR, hK⟩ := hv
  have hts := atoms_spec (ws := hp_ws y bytes maxL ret) B.pre
  exact body p e s m below meth c ⟨⟨B.exec, B.bytes, hml, findClass_of_methodNamed B.named, fun w hw => hts w (List.mem_cons_of_mem _ hw)⟩, hK⟩ B.returns B.notSynchronized ⟨hR, va_S.rf, trivial⟩ (name_of_methodNamed B.named B.method).1 hz
