/-! ===== texts: the JDK's own members over the literals ===== -/
theorem st_S {Γ : hp_G} {s : State} {α : hp_T} (hK : hp_KK Γ s) (hR : hp_Rep Γ α s.heap) : vk_S 21 hp_sn hp_sb Γ.2.2.2.2.1 Γ.2.2.2.2.2 (hp_A Γ) s s.heap := hK.2.2.2.1.kept (fun a ha _ => hR.2.1 a ha)
theorem st_Z {Γ : hp_G} {s : State} {α : hp_T} (hK : hp_KK Γ s) (hR : hp_Rep Γ α s.heap) : va_Z "java/lang/String" "COMPACT_STRINGS" "Z" (.int 1) (hp_A Γ) s s.heap := hK.2.2.2.2.1.kept (fun a ha _ => hR.2.1 a ha)
theorem st_Zq {Γ : hp_G} {s : State} {α : hp_T} (hK : hp_KK Γ s) (hR : hp_Rep Γ α s.heap) : va_Zq "jdk/internal/util/Preconditions" "SIOOBE_FORMATTER" "Ljava/util/function/BiFunction;" (hp_A Γ) s s.heap := hK.2.2.2.2.2.kept (fun a ha _ => hR.2.1 a ha)
def hp_len (i : Nat) : Int32 := Int32.ofNat (hp_sn.getD i 0)
def hp_ch (i j : Nat) : Int32 := (((hp_sb.getD i []).getD j 0 &&& 255).toUInt32 % 65536).toInt32
theorem st_sh : ∀ i, i < 21 → hp_len i >>> ((0 : Int32) &&& 31) = hp_len i := by decide +kernel
theorem st_len : ∀ i, i < 21 → (hp_len i).toInt = (hp_sn.getD i 0 : Int) ∧ hp_sn.getD i 0 ≤ 6 := by decide +kernel
theorem st_ch8 : ∀ i, i < 21 → ∀ j, j < 7 → narrow .char (.int (hp_ch i j)) = .int (hp_ch i j) := by decide +kernel
theorem st_ch {i : Nat} (hi : i < 21) {a : Int32} (h0 : 0 ≤ a.toInt) (h1 : a.toInt < (hp_len i).toInt) : narrow .char (.int (hp_ch i a.toNatClampNeg)) = .int (hp_ch i a.toNatClampNeg) := by
  have h2 := (st_len i hi).1
  have h3 := (st_len i hi).2
  have h4 := ic_clamp h0
  exact st_ch8 i hi _ (by omega)
section HPT
variable {p : Program} {l : Launch} {e : Env} {s : State} {m : MethodId} {args : Array Value} {below : List Frame} {meth : Method} {c : Code} {H : Heap} {locs : List Loc} {cells slots : Nat} {Q : State → Prop} {cc bytes : ByteArray} {nL maxL : Nat} {ret : Option FieldType} {own : String} {Γ : hp_G} {α0 α αs : hp_T} {Iv : hp_T → hp_T → Prop} {pc : Nat} {ls : Array Slot} {st rest : List Value} {i index n d d' mc ms mc' ms' : Nat} {y : MethodName} {As : List Value} {R : Room}
/-- a call of a text's own member -/
theorem hp_runT {Qc : Array Value → State → Outcome → State → Prop} (C : hp_C Γ p m c cc nL s args own) (hR0 : hp_Rep Γ αs s.heap) (B : hp_B Γ Iv s α0 α H locs) (hi : i < 21) (hM : Met l y (hp_ws y bytes maxL ret) (hp_rm d' mc ms) (hp_Pc Γ α (.ref (Γ.2.2.2.2.1 i) :: As)) Qc mc ms (hp_A Γ)) (hB : hp_LB y bytes maxL ret n) (v1 : Cond.instanceMethod y ∈ lw_u) (v2 : Cond.selects y.cls y y ∈ lw_u) (hyc : y.cls = "java/lang/String") (hL : hp_LK own index y) (hR : R = hp_rm d mc' ms') (hd : d' < d) (hlen : As.length = n) (hsz : ls.size = nL) (hst : st = As.reverse ++ .ref (Γ.2.2.2.2.1 i) :: rest) (hcat : (rest.map fun v => v.category).sum ≤ 8) (hdg : decode cc pc = .ok (.invokevirtual index, 3)) (hf : cells + mc ≤ mc' ∧ slots + ms ≤ ms') :
    va_Run p l e R s m args below meth c H locs cells slots mc ms (F0 m pc ls st) rest (Qc (Value.ref (Γ.2.2.2.2.1 i) :: As).toArray) (hp_A Γ) := by
  obtain ⟨h1, h2, h3, h4⟩ := hB
  have hts := C.1.2.2.2.2
  have hrecv : ∃ cellB : Cell, H[Γ.2.2.2.2.1 i]? = some cellB ∧ cellB.vm.isStatics = false ∧ s.vm.findClass y.cls = some cellB.cls := by
    rw [hyc]
    exact vk_recv (st_S C.2 hR0) hi B.2.1
  have hp : PreV s H y.cls (Γ.2.2.2.2.1 i) (hp_Pc Γ α (.ref (Γ.2.2.2.2.1 i) :: As)) As := ⟨hp_blind Γ α _, hrecv, fun U hU hW => ⟨rfl, by rw [hU]; exact B.1, C.2.warm hW⟩⟩
  have hRR : (hp_rm d' mc ms).frames + 1 ≤ R.frames ∧ 8 + (maxL + 11) + (hp_rm d' mc ms).locals ≤ R.locals := by
    rw [hR]; show d' + 1 ≤ d ∧ 8 + (maxL + 11) + 45 * d' ≤ 45 * d; omega
  have hff : cells + mc ≤ R.cells ∧ slots + ms ≤ R.slots := by rw [hR]; exact hf
  rcases hL with hL | ⟨host, hL⟩
  · exact va_runV (As := As) (rest := rest) (n := n) (C := y.cls) C.1 hM ⟨callB_of n hts (hp_gs h1) rfl rfl rfl (hts _ h2) (hts _ hL) h4 hRR, hts _ v1, hts _ v2⟩ hp rfl hlen hsz hst (lv_room (m := m) (pc := pc) (ls := ls) (rest := st) hcat) hdg hff
  · exact va_runVN (As := As) (rest := rest) (n := n) (C := y.cls) C.1 hM ⟨va_cnB n hts (hp_gs h1) rfl rfl rfl (C.2.2.1 _ hL) (hts _ h2) h4 hRR, hts _ v1, hts _ v2⟩ hp rfl hlen hsz hst (lv_room (m := m) (pc := pc) (ls := ls) (rest := st) hcat) hdg hff
theorem st_ldcw (hexec : p.tables.exec = Jvm.exec) (hb : c.code = cc) {tx : String} {q : Nat} (hown : s.vm.findClass own = some m.cls) (hZ : vk_R own index tx q s) (hdg : decode cc pc = .ok (.ldc_w index, 3))
    (k : W p l e R s m args below meth c H locs cells slots Q (F0 m (pc + 3) ls (.ref q :: rest))) : W p l e R s m args below meth c H locs cells slots Q (F0 m pc ls rest) := by
  intro T hT X
  obtain ⟨t, a1, b1⟩ := k T hT X
  refine ⟨t, ?_, b1⟩
  obtain ⟨k0, cf, i0, a', hk, hcf, hcp, -, hr, hev'⟩ := Cond.stringRef_spec hown hZ.1
  cases hZ.2.symm.trans hev'
  obtain ⟨k', hk', he⟩ := X.warmed.alike.2.2 _ _ hk
  have hr' : k'.resolved[index]? = some (some (.string q)) := by
    rcases X.warmed.entry hk hk' index with h | ⟨h, -⟩
    · rw [h]; exact hr
    · rw [hr] at h; cases h
  have hdg2 : decode c.code pc = .ok (.ldc_w index, 3) := by rw [hb]; exact hdg
  jvm_step X.here [hexec, hdg2, ldc_w.wp_string (e := e) (s := T) (f := F0 m pc ls rest) X.here.top hk' (by rw [he]; exact hcf) hcp hr']
  exact a1
end HPT
set_option maxRecDepth 100000 in
set_option maxHeartbeats 4000000 in
theorem t_J0_coder_7d493 (Γ : hp_G) (l : Launch) (α : hp_T) (i : Nat) (hi : i < 21) : Met l yJ0_coder_7d493 (hp_ws yJ0_coder_7d493 cJ0_coder_7d493 1 (some .byte)) (hp_rm 0 0 0) (hp_Pc Γ α [.ref (Γ.2.2.2.2.1 i)]) (hp_Qi Γ (fun r β => β = α ∧ r = 0)) 0 0 (hp_A Γ) := by
  refine hp_startF (by decide +kernel) ?_
  intro p e s m below meth c C hr hlk B hnm
  have C : hp_C Γ p m c cJ0_coder_7d493 1 s ([.ref (Γ.2.2.2.2.1 i)] : List Value).toArray RJ0 := C
  have hx := C.1.1
  have hb := C.1.2.1
  have hown := C.1.2.2.2.1
  have hts := C.1.2.2.2.2
  have hl := lv_entry ([.ref (Γ.2.2.2.2.1 i)]) (n := 1) (Nat.le_of_ble_eq_true rfl)
  rw [lg_entry_eq]
  generalize (lg_sl ([.ref (Γ.2.2.2.2.1 i)]) ++ List.replicate (1 - (lg_sl ([.ref (Γ.2.2.2.2.1 i)])).length) Slot.unset).toArray = ls at hl ⊢
  have hl : lv_has ls 1 [(0, .ref (Γ.2.2.2.2.1 i))] := hl
  refine va_gets hx hb (st_Z C.2 B.1) B.2.1 hown (hts _ fo_J0_38) (fun _ h => h) dJ0_coder_7d493_0 (hp_n (n := 3) rfl ?_)
  refine lv_if_eq (tgt := 13) hx hb dJ0_coder_7d493_3 (by decide) (fun q => absurd q (by decide)) (fun q => hp_n (n := 6) rfl ?_)
  refine lv_aload_n hx hb dJ0_coder_7d493_6 rfl (lv_at hl 0 rfl) (hp_n (n := 7) rfl ?_)
  refine vk_getf hx hb (((st_S C.2 B.1).1 i hi).2.1) B.2.1 hown (hts _ fo_J0_15) (fun _ h => h) dJ0_coder_7d493_7 (hp_n (n := 10) rfl ?_)
  refine lv_goto (tgt := 14) hx hb dJ0_coder_7d493_10 (by decide) ?_
  exact q_zret C B hr hlk rfl ⟨rfl, rfl⟩ dJ0_coder_7d493_14
set_option maxRecDepth 100000 in
set_option maxHeartbeats 4000000 in
theorem t_J0_isLatin1_aae02 (Γ : hp_G) (l : Launch) (α : hp_T) (i : Nat) (hi : i < 21) : Met l yJ0_isLatin1_aae02 (hp_ws yJ0_isLatin1_aae02 cJ0_isLatin1_aae02 1 (some .boolean)) (hp_rm 0 0 0) (hp_Pc Γ α [.ref (Γ.2.2.2.2.1 i)]) (hp_Qi Γ (fun r β => β = α ∧ r = 1)) 0 0 (hp_A Γ) := by
  refine hp_startF (by decide +kernel) ?_
  intro p e s m below meth c C hr hlk B hnm
  have C : hp_C Γ p m c cJ0_isLatin1_aae02 1 s ([.ref (Γ.2.2.2.2.1 i)] : List Value).toArray RJ0 := C
  have hx := C.1.1
  have hb := C.1.2.1
  have hown := C.1.2.2.2.1
  have hts := C.1.2.2.2.2
  have hl := lv_entry ([.ref (Γ.2.2.2.2.1 i)]) (n := 1) (Nat.le_of_ble_eq_true rfl)
  rw [lg_entry_eq]
  generalize (lg_sl ([.ref (Γ.2.2.2.2.1 i)]) ++ List.replicate (1 - (lg_sl ([.ref (Γ.2.2.2.2.1 i)])).length) Slot.unset).toArray = ls at hl ⊢
  have hl : lv_has ls 1 [(0, .ref (Γ.2.2.2.2.1 i))] := hl
  refine va_gets hx hb (st_Z C.2 B.1) B.2.1 hown (hts _ fo_J0_38) (fun _ h => h) dJ0_isLatin1_aae02_0 (hp_n (n := 3) rfl ?_)
  refine lv_if_eq (tgt := 17) hx hb dJ0_isLatin1_aae02_3 (by decide) (fun q => absurd q (by decide)) (fun q => hp_n (n := 6) rfl ?_)
  refine lv_aload_n hx hb dJ0_isLatin1_aae02_6 rfl (lv_at hl 0 rfl) (hp_n (n := 7) rfl ?_)
  refine vk_getf hx hb (((st_S C.2 B.1).1 i hi).2.1) B.2.1 hown (hts _ fo_J0_15) (fun _ h => h) dJ0_isLatin1_aae02_7 (hp_n (n := 10) rfl ?_)
  refine lv_if_ne (tgt := 17) hx hb dJ0_isLatin1_aae02_10 (by decide) (fun q => absurd rfl q) (fun q => hp_n (n := 13) rfl ?_)
  refine lv_iconst (v := 1) hx hb dJ0_isLatin1_aae02_13 (by decide) (hp_n (n := 14) rfl ?_)
  refine lv_goto (tgt := 18) hx hb dJ0_isLatin1_aae02_14 (by decide) ?_
  exact q_zret C B hr hlk rfl ⟨rfl, rfl⟩ dJ0_isLatin1_aae02_18
set_option maxRecDepth 100000 in
set_option maxHeartbeats 4000000 in
theorem t_J0_length_8abf5 (Γ : hp_G) (l : Launch) (α : hp_T) (i : Nat) (hi : i < 21) : Met l yJ0_length_8abf5 (hp_ws yJ0_length_8abf5 cJ0_length_8abf5 1 (some .int)) (hp_rm 1 0 0) (hp_Pc Γ α [.ref (Γ.2.2.2.2.1 i)]) (hp_Qi Γ (fun r β => β = α ∧ r = hp_len i)) 0 0 (hp_A Γ) := by
  refine hp_startF (by decide +kernel) ?_
  intro p e s m below meth c C hr hlk B hnm
  have C : hp_C Γ p m c cJ0_length_8abf5 1 s ([.ref (Γ.2.2.2.2.1 i)] : List Value).toArray RJ0 := C
  have hx := C.1.1
  have hb := C.1.2.1
  have hown := C.1.2.2.2.1
  have hts := C.1.2.2.2.2
  have hl := lv_entry ([.ref (Γ.2.2.2.2.1 i)]) (n := 1) (Nat.le_of_ble_eq_true rfl)
  rw [lg_entry_eq]
  generalize (lg_sl ([.ref (Γ.2.2.2.2.1 i)]) ++ List.replicate (1 - (lg_sl ([.ref (Γ.2.2.2.2.1 i)])).length) Slot.unset).toArray = ls at hl ⊢
  have hl : lv_has ls 1 [(0, .ref (Γ.2.2.2.2.1 i))] := hl
  have B0 := B
  refine lv_aload_n hx hb dJ0_length_8abf5_0 rfl (lv_at hl 0 rfl) (hp_n (n := 1) rfl ?_)
  refine vk_getf hx hb (((st_S C.2 B.1).1 i hi).2.2.1) B.2.1 hown (hts _ fo_J0_9) (fun _ h => h) dJ0_length_8abf5_1 (hp_n (n := 4) rfl ?_)
  refine va_tlen hx hb (((st_S C.2 B.1).1 i hi).2.2.2) B.2.1 (v := hp_len i) rfl dJ0_length_8abf5_4 (hp_n (n := 5) rfl ?_)
  refine lv_aload_n hx hb dJ0_length_8abf5_5 rfl (lv_at hl 0 rfl) (hp_n (n := 6) rfl ?_)
  refine q_ci (pc' := 9) B (hp_runT (i := i) (As := []) (rest := [.int (hp_len i)]) C B0.1 B hi (t_J0_coder_7d493 Γ l α i hi ) lb_J0_coder_7d493 li_J0_coder_7d493 sx_J0_coder_7d493 rfl lk_J0_335 rfl (by decide) rfl hl.1 rfl (Nat.le_of_ble_eq_true rfl) dJ0_length_8abf5_6 ⟨Nat.le_refl _, Nat.le_refl _⟩) (fun _ _ _ => trivial) rfl (fun r1 α1 H1 L1 p1 B1 => ?_)
  obtain ⟨rfl, rfl⟩ := p1
  refine lv_ishr hx hb dJ0_length_8abf5_9 (hp_n (n := 10) rfl ?_)
  rw [st_sh i hi]
  exact q_iret C B1 hr hlk ⟨rfl, rfl⟩ dJ0_length_8abf5_10
set_option maxRecDepth 100000 in
set_option maxHeartbeats 4000000 in
theorem t_J3_checkIndex_8e157 (Γ : hp_G) (l : Launch) (α : hp_T) (a0 a1 : Int32) (o : Option Nat) (h0 : 0 ≤ a0.toInt) (h1 : a0.toInt < a1.toInt) : Met l yJ3_checkIndex_8e157 (hp_ws yJ3_checkIndex_8e157 cJ3_checkIndex_8e157 3 (some .int)) (hp_rm 0 0 0) (hp_Pc Γ α [.int a0, .int a1, va_rf o]) (hp_Qi Γ (fun r β => β = α)) 0 0 (hp_A Γ) := by
  rcases o with _ | o
  ·
    refine hp_startF (by decide +kernel) ?_
    intro p e s m below meth c C hr hlk B hnm
    have C : hp_C Γ p m c cJ3_checkIndex_8e157 3 s ([.int a0, .int a1, .null] : List Value).toArray RJ3 := C
    have hx := C.1.1
    have hb := C.1.2.1
    have hown := C.1.2.2.2.1
    have hts := C.1.2.2.2.2
    have hl := lv_entry ([.int a0, .int a1, .null]) (n := 3) (Nat.le_of_ble_eq_true rfl)
    show W p l e (hp_rm 0 0 0) s m ([.int a0, .int a1, .null] : List Value).toArray below meth c s.heap [] 0 0 (MQ below (hp_Qi Γ (fun r β => β = α)) ([.int a0, .int a1, .null] : List Value).toArray s 0 0 (hp_A Γ)) (entryFrame m ([.int a0, .int a1, .null] : List Value).toArray 3)
    rw [lg_entry_eq]
    generalize (lg_sl ([.int a0, .int a1, .null]) ++ List.replicate (3 - (lg_sl ([.int a0, .int a1, .null])).length) Slot.unset).toArray = ls at hl ⊢
    have hl : lv_has ls 3 [(0, .int a0), (1, .int a1), (2, .null)] := hl
    refine lv_iload_n hx hb dJ3_checkIndex_8e157_0 rfl (lv_at hl 0 rfl) (hp_n (n := 1) rfl ?_)
    refine lv_if_lt (tgt := 9) hx hb dJ3_checkIndex_8e157_1 (by decide) (fun q => ?_) (fun q => hp_n (n := 4) rfl ?_)
    · have q := il_lt q
      have z : (0 : Int32).toInt = 0 := rfl
      omega
    refine lv_iload_n hx hb dJ3_checkIndex_8e157_4 rfl (lv_at hl 0 rfl) (hp_n (n := 5) rfl ?_)
    refine lv_iload_n hx hb dJ3_checkIndex_8e157_5 rfl (lv_at hl 1 rfl) (hp_n (n := 6) rfl ?_)
    refine lv_icmp_lt (tgt := 16) hx hb dJ3_checkIndex_8e157_6 (by decide) (fun q => ?_) (fun q => ?_)
    · refine lv_iload_n hx hb dJ3_checkIndex_8e157_16 rfl (lv_at hl 0 rfl) (hp_n (n := 17) rfl ?_)
      exact q_iret C B hr hlk rfl dJ3_checkIndex_8e157_17
    · have q := il_nlt q
      omega
  ·
    refine hp_startF (by decide +kernel) ?_
    intro p e s m below meth c C hr hlk B hnm
    have C : hp_C Γ p m c cJ3_checkIndex_8e157 3 s ([.int a0, .int a1, .ref o] : List Value).toArray RJ3 := C
    have hx := C.1.1
    have hb := C.1.2.1
    have hown := C.1.2.2.2.1
    have hts := C.1.2.2.2.2
    have hl := lv_entry ([.int a0, .int a1, .ref o]) (n := 3) (Nat.le_of_ble_eq_true rfl)
    show W p l e (hp_rm 0 0 0) s m ([.int a0, .int a1, .ref o] : List Value).toArray below meth c s.heap [] 0 0 (MQ below (hp_Qi Γ (fun r β => β = α)) ([.int a0, .int a1, .ref o] : List Value).toArray s 0 0 (hp_A Γ)) (entryFrame m ([.int a0, .int a1, .ref o] : List Value).toArray 3)
    rw [lg_entry_eq]
    generalize (lg_sl ([.int a0, .int a1, .ref o]) ++ List.replicate (3 - (lg_sl ([.int a0, .int a1, .ref o])).length) Slot.unset).toArray = ls at hl ⊢
    have hl : lv_has ls 3 [(0, .int a0), (1, .int a1), (2, .ref o)] := hl
    refine lv_iload_n hx hb dJ3_checkIndex_8e157_0 rfl (lv_at hl 0 rfl) (hp_n (n := 1) rfl ?_)
    refine lv_if_lt (tgt := 9) hx hb dJ3_checkIndex_8e157_1 (by decide) (fun q => ?_) (fun q => hp_n (n := 4) rfl ?_)
    · have q := il_lt q
      have z : (0 : Int32).toInt = 0 := rfl
      omega
    refine lv_iload_n hx hb dJ3_checkIndex_8e157_4 rfl (lv_at hl 0 rfl) (hp_n (n := 5) rfl ?_)
    refine lv_iload_n hx hb dJ3_checkIndex_8e157_5 rfl (lv_at hl 1 rfl) (hp_n (n := 6) rfl ?_)
    refine lv_icmp_lt (tgt := 16) hx hb dJ3_checkIndex_8e157_6 (by decide) (fun q => ?_) (fun q => ?_)
    · refine lv_iload_n hx hb dJ3_checkIndex_8e157_16 rfl (lv_at hl 0 rfl) (hp_n (n := 17) rfl ?_)
      exact q_iret C B hr hlk rfl dJ3_checkIndex_8e157_17
    · have q := il_nlt q
      omega
set_option maxRecDepth 100000 in
set_option maxHeartbeats 4000000 in
theorem t_J0_checkIndex_df160 (Γ : hp_G) (l : Launch) (α : hp_T) (a0 a1 : Int32) (h0 : 0 ≤ a0.toInt) (h1 : a0.toInt < a1.toInt) : Met l yJ0_checkIndex_df160 (hp_ws yJ0_checkIndex_df160 cJ0_checkIndex_df160 2 none) (hp_rm 1 0 0) (hp_Pc Γ α [.int a0, .int a1]) (hp_Qv Γ (fun β => β = α)) 0 0 (hp_A Γ) := by
  refine hp_startF (by decide +kernel) ?_
  intro p e s m below meth c C hr hlk B hnm
  have C : hp_C Γ p m c cJ0_checkIndex_df160 2 s ([.int a0, .int a1] : List Value).toArray RJ0 := C
  have hx := C.1.1
  have hb := C.1.2.1
  have hown := C.1.2.2.2.1
  have hts := C.1.2.2.2.2
  have hl := lv_entry ([.int a0, .int a1]) (n := 2) (Nat.le_of_ble_eq_true rfl)
  rw [lg_entry_eq]
  generalize (lg_sl ([.int a0, .int a1]) ++ List.replicate (2 - (lg_sl ([.int a0, .int a1])).length) Slot.unset).toArray = ls at hl ⊢
  have hl : lv_has ls 2 [(0, .int a0), (1, .int a1)] := hl
  refine lv_iload_n hx hb dJ0_checkIndex_df160_0 rfl (lv_at hl 0 rfl) (hp_n (n := 1) rfl ?_)
  refine lv_iload_n hx hb dJ0_checkIndex_df160_1 rfl (lv_at hl 1 rfl) (hp_n (n := 2) rfl ?_)
  rcases st_Zq C.2 B.1 with hz | ⟨t0, hz⟩
  · refine va_gets (v := .null) hx hb hz B.2.1 hown (hts _ fo_J0_1053) (fun _ h => h) dJ0_checkIndex_df160_2 (hp_n (n := 5) rfl ?_)
    refine q_ci (pc' := 8) B (hp_runS (As := [.int a0, .int a1, va_rf none]) (rest := []) C B (t_J3_checkIndex_8e157 Γ l α a0 a1 none h0 h1) lb_J3_checkIndex_8e157 ls_J3_checkIndex_8e157 lk_J0_1059 rfl (by decide) rfl hl.1 rfl (Nat.le_of_ble_eq_true rfl) dJ0_checkIndex_df160_5 ⟨Nat.le_refl _, Nat.le_refl _⟩) (fun _ _ _ => trivial) rfl (fun r1 α1 H1 L1 p1 B1 => ?_)
    obtain rfl := p1
    refine lv_pop hx hb dJ0_checkIndex_df160_8 rfl (hp_n (n := 9) rfl ?_)
    exact q_vret C B1 hr hlk rfl dJ0_checkIndex_df160_9
  · refine va_gets (v := .ref t0) hx hb hz B.2.1 hown (hts _ fo_J0_1053) (fun _ h => h) dJ0_checkIndex_df160_2 (hp_n (n := 5) rfl ?_)
    refine q_ci (pc' := 8) B (hp_runS (As := [.int a0, .int a1, va_rf (some t0)]) (rest := []) C B (t_J3_checkIndex_8e157 Γ l α a0 a1 (some t0) h0 h1) lb_J3_checkIndex_8e157 ls_J3_checkIndex_8e157 lk_J0_1059 rfl (by decide) rfl hl.1 rfl (Nat.le_of_ble_eq_true rfl) dJ0_checkIndex_df160_5 ⟨Nat.le_refl _, Nat.le_refl _⟩) (fun _ _ _ => trivial) rfl (fun r1 α1 H1 L1 p1 B1 => ?_)
    obtain rfl := p1
    refine lv_pop hx hb dJ0_checkIndex_df160_8 rfl (hp_n (n := 9) rfl ?_)
    exact q_vret C B1 hr hlk rfl dJ0_checkIndex_df160_9
set_option maxRecDepth 100000 in
set_option maxHeartbeats 4000000 in
theorem t_J1_charAt_3b067 (Γ : hp_G) (l : Launch) (α : hp_T) (i : Nat) (hi : i < 21) (a1 : Int32) (h0 : 0 ≤ a1.toInt) (h1 : a1.toInt < (hp_len i).toInt) : Met l yJ1_charAt_3b067 (hp_ws yJ1_charAt_3b067 cJ1_charAt_3b067 2 (some .char)) (hp_rm 2 0 0) (hp_Pc Γ α [.ref (Γ.2.2.2.2.2 i), .int a1]) (hp_Qi Γ (fun r β => β = α ∧ r = hp_ch i a1.toNatClampNeg)) 0 0 (hp_A Γ) := by
  refine hp_startF (by decide +kernel) ?_
  intro p e s m below meth c C hr hlk B hnm
  have C : hp_C Γ p m c cJ1_charAt_3b067 2 s ([.ref (Γ.2.2.2.2.2 i), .int a1] : List Value).toArray RJ1 := C
  have hx := C.1.1
  have hb := C.1.2.1
  have hown := C.1.2.2.2.1
  have hts := C.1.2.2.2.2
  have hl := lv_entry ([.ref (Γ.2.2.2.2.2 i), .int a1]) (n := 2) (Nat.le_of_ble_eq_true rfl)
  rw [lg_entry_eq]
  generalize (lg_sl ([.ref (Γ.2.2.2.2.2 i), .int a1]) ++ List.replicate (2 - (lg_sl ([.ref (Γ.2.2.2.2.2 i), .int a1])).length) Slot.unset).toArray = ls at hl ⊢
  have hl : lv_has ls 2 [(0, .ref (Γ.2.2.2.2.2 i)), (1, .int a1)] := hl
  have B0 := B
  have hlen := (st_len i hi).1
  refine lv_iload_n hx hb dJ1_charAt_3b067_0 rfl (lv_at hl 1 rfl) (hp_n (n := 1) rfl ?_)
  refine lv_aload_n hx hb dJ1_charAt_3b067_1 rfl (lv_at hl 0 rfl) (hp_n (n := 2) rfl ?_)
  refine va_tlen hx hb (((st_S C.2 B.1).1 i hi).2.2.2) B.2.1 (v := hp_len i) rfl dJ1_charAt_3b067_2 (hp_n (n := 3) rfl ?_)
  refine q_cv (pc' := 6) B (hp_runS (As := [.int a1, .int (hp_len i)]) (rest := []) C B (t_J0_checkIndex_df160 Γ l α a1 (hp_len i) h0 h1) lb_J0_checkIndex_df160 ls_J0_checkIndex_df160 lk_J1_9 rfl (by decide) rfl hl.1 rfl (Nat.le_of_ble_eq_true rfl) dJ1_charAt_3b067_3 ⟨Nat.le_refl _, Nat.le_refl _⟩) (fun _ _ => trivial) rfl (fun α1 H1 L1 p1 B1 => ?_)
  obtain rfl := p1
  refine lv_aload_n hx hb dJ1_charAt_3b067_6 rfl (lv_at hl 0 rfl) (hp_n (n := 7) rfl ?_)
  refine lv_iload_n hx hb dJ1_charAt_3b067_7 rfl (lv_at hl 1 rfl) (hp_n (n := 8) rfl ?_)
  refine va_tb hx hb (((st_S C.2 B0.1).1 i hi).2.2.2) B1.2.1 (vi_of h0 (by omega)) rfl dJ1_charAt_3b067_8 (hp_n (n := 9) rfl ?_)
  refine lv_sipush (v := 255) hx hb dJ1_charAt_3b067_9 (by decide) (hp_n (n := 12) rfl ?_)
  refine lv_iand hx hb dJ1_charAt_3b067_12 (hp_n (n := 13) rfl ?_)
  refine lv_i2c (v := hp_ch i a1.toNatClampNeg) hx hb dJ1_charAt_3b067_13 rfl (hp_n (n := 14) rfl ?_)
  exact q_zret C B1 hr hlk (st_ch hi h0 h1) ⟨rfl, rfl⟩ dJ1_charAt_3b067_14
set_option maxRecDepth 100000 in
set_option maxHeartbeats 4000000 in
theorem t_J0_charAt_5068e (Γ : hp_G) (l : Launch) (α : hp_T) (i : Nat) (hi : i < 21) (a1 : Int32) (h0 : 0 ≤ a1.toInt) (h1 : a1.toInt < (hp_len i).toInt) : Met l yJ0_charAt_5068e (hp_ws yJ0_charAt_5068e cJ0_charAt_5068e 2 (some .char)) (hp_rm 3 0 0) (hp_Pc Γ α [.ref (Γ.2.2.2.2.1 i), .int a1]) (hp_Qi Γ (fun r β => β = α ∧ r = hp_ch i a1.toNatClampNeg)) 0 0 (hp_A Γ) := by
  refine hp_startF (by decide +kernel) ?_
  intro p e s m below meth c C hr hlk B hnm
  have C : hp_C Γ p m c cJ0_charAt_5068e 2 s ([.ref (Γ.2.2.2.2.1 i), .int a1] : List Value).toArray RJ0 := C
  have hx := C.1.1
  have hb := C.1.2.1
  have hown := C.1.2.2.2.1
  have hts := C.1.2.2.2.2
  have hl := lv_entry ([.ref (Γ.2.2.2.2.1 i), .int a1]) (n := 2) (Nat.le_of_ble_eq_true rfl)
  rw [lg_entry_eq]
  generalize (lg_sl ([.ref (Γ.2.2.2.2.1 i), .int a1]) ++ List.replicate (2 - (lg_sl ([.ref (Γ.2.2.2.2.1 i), .int a1])).length) Slot.unset).toArray = ls at hl ⊢
  have hl : lv_has ls 2 [(0, .ref (Γ.2.2.2.2.1 i)), (1, .int a1)] := hl
  have B0 := B
  refine lv_aload_n hx hb dJ0_charAt_5068e_0 rfl (lv_at hl 0 rfl) (hp_n (n := 1) rfl ?_)
  refine q_ci (pc' := 4) B (hp_runT (i := i) (As := []) (rest := []) C B0.1 B hi (t_J0_isLatin1_aae02 Γ l α i hi ) lb_J0_isLatin1_aae02 li_J0_isLatin1_aae02 sx_J0_isLatin1_aae02 rfl lk_J0_492 rfl (by decide) rfl hl.1 rfl (Nat.le_of_ble_eq_true rfl) dJ0_charAt_5068e_1 ⟨Nat.le_refl _, Nat.le_refl _⟩) (fun _ _ _ => trivial) rfl (fun r1 α1 H1 L1 p1 B1 => ?_)
  obtain ⟨rfl, rfl⟩ := p1
  refine lv_if_eq (tgt := 16) hx hb dJ0_charAt_5068e_4 (by decide) (fun q => absurd q (by decide)) (fun q => hp_n (n := 7) rfl ?_)
  refine lv_aload_n hx hb dJ0_charAt_5068e_7 rfl (lv_at hl 0 rfl) (hp_n (n := 8) rfl ?_)
  refine vk_getf hx hb (((st_S C.2 B0.1).1 i hi).2.2.1) B1.2.1 hown (hts _ fo_J0_9) (fun _ h => h) dJ0_charAt_5068e_8 (hp_n (n := 11) rfl ?_)
  refine lv_iload_n hx hb dJ0_charAt_5068e_11 rfl (lv_at hl 1 rfl) (hp_n (n := 12) rfl ?_)
  refine q_ci (pc' := 15) B1 (hp_runS (As := [.ref (Γ.2.2.2.2.2 i), .int a1]) (rest := []) C B1 (t_J1_charAt_3b067 Γ l _ i hi a1 h0 h1) lb_J1_charAt_3b067 ls_J1_charAt_3b067 lk_J0_495 rfl (by decide) rfl hl.1 rfl (Nat.le_of_ble_eq_true rfl) dJ0_charAt_5068e_12 ⟨Nat.le_refl _, Nat.le_refl _⟩) (fun _ _ _ => trivial) rfl (fun r2 α2 H2 L2 p2 B2 => ?_)
  obtain ⟨rfl, rfl⟩ := p2
  exact q_zret C B2 hr hlk (st_ch hi h0 h1) ⟨rfl, rfl⟩ dJ0_charAt_5068e_15
theorem sr_X11_409 {Γ : hp_G} {s : State} (h : hp_KK Γ s) : vk_R RX11 409 "in " (Γ.2.2.2.2.1 15) s := h.2.2.1 (RX11, 409, "in ", 15) (by decide +kernel)
theorem sr_X11_418 {Γ : hp_G} {s : State} (h : hp_KK Γ s) : vk_R RX11 418 " of " (Γ.2.2.2.2.1 4) s := h.2.2.1 (RX11, 418, " of ", 4) (by decide +kernel)
theorem sr_X11_420 {Γ : hp_G} {s : State} (h : hp_KK Γ s) : vk_R RX11 420 " mark " (Γ.2.2.2.2.1 3) s := h.2.2.1 (RX11, 420, " mark ", 3) (by decide +kernel)
theorem sr_X11_422 {Γ : hp_G} {s : State} (h : hp_KK Γ s) : vk_R RX11 422 " head " (Γ.2.2.2.2.1 2) s := h.2.2.1 (RX11, 422, " head ", 2) (by decide +kernel)
theorem sr_X11_427 {Γ : hp_G} {s : State} (h : hp_KK Γ s) : vk_R RX11 427 "grow " (Γ.2.2.2.2.1 12) s := h.2.2.1 (RX11, 427, "grow ", 12) (by decide +kernel)
theorem sr_X11_429 {Γ : hp_G} {s : State} (h : hp_KK Γ s) : vk_R RX11 429 " to " (Γ.2.2.2.2.1 5) s := h.2.2.1 (RX11, 429, " to ", 5) (by decide +kernel)
theorem sr_X11_496 {Γ : hp_G} {s : State} (h : hp_KK Γ s) : vk_R RX11 496 " by" (Γ.2.2.2.2.1 1) s := h.2.2.1 (RX11, 496, " by", 1) (by decide +kernel)
theorem sr_X11_498 {Γ : hp_G} {s : State} (h : hp_KK Γ s) : vk_R RX11 498 " " (Γ.2.2.2.2.1 0) s := h.2.2.1 (RX11, 498, " ", 0) (by decide +kernel)
theorem sr_X11_500 {Γ : hp_G} {s : State} (h : hp_KK Γ s) : vk_R RX11 500 ";" (Γ.2.2.2.2.1 6) s := h.2.2.1 (RX11, 500, ";", 6) (by decide +kernel)
theorem sr_X3_107 {Γ : hp_G} {s : State} (h : hp_KK Γ s) : vk_R RX3 107 "freeze" (Γ.2.2.2.2.1 10) s := h.2.2.1 (RX3, 107, "freeze", 10) (by decide +kernel)
theorem sr_X3_112 {Γ : hp_G} {s : State} (h : hp_KK Γ s) : vk_R RX3 112 "show" (Γ.2.2.2.2.1 19) s := h.2.2.1 (RX3, 112, "show", 19) (by decide +kernel)
theorem sr_X3_127 {Γ : hp_G} {s : State} (h : hp_KK Γ s) : vk_R RX3 127 "in" (Γ.2.2.2.2.1 14) s := h.2.2.1 (RX3, 127, "in", 14) (by decide +kernel)
theorem sr_X3_129 {Γ : hp_G} {s : State} (h : hp_KK Γ s) : vk_R RX3 129 "grow" (Γ.2.2.2.2.1 11) s := h.2.2.1 (RX3, 129, "grow", 11) (by decide +kernel)
theorem sr_X3_156 {Γ : hp_G} {s : State} (h : hp_KK Γ s) : vk_R RX3 156 "of" (Γ.2.2.2.2.1 18) s := h.2.2.1 (RX3, 156, "of", 18) (by decide +kernel)
theorem sr_X3_161 {Γ : hp_G} {s : State} (h : hp_KK Γ s) : vk_R RX3 161 "mark" (Γ.2.2.2.2.1 16) s := h.2.2.1 (RX3, 161, "mark", 16) (by decide +kernel)
theorem sr_X3_166 {Γ : hp_G} {s : State} (h : hp_KK Γ s) : vk_R RX3 166 "head" (Γ.2.2.2.2.1 13) s := h.2.2.1 (RX3, 166, "head", 13) (by decide +kernel)
theorem sr_X3_186 {Γ : hp_G} {s : State} (h : hp_KK Γ s) : vk_R RX3 186 "by" (Γ.2.2.2.2.1 8) s := h.2.2.1 (RX3, 186, "by", 8) (by decide +kernel)
theorem sr_X3_69 {Γ : hp_G} {s : State} (h : hp_KK Γ s) : vk_R RX3 69 "mod" (Γ.2.2.2.2.1 17) s := h.2.2.1 (RX3, 69, "mod", 17) (by decide +kernel)
theorem sr_X3_86 {Γ : hp_G} {s : State} (h : hp_KK Γ s) : vk_R RX3 86 "add" (Γ.2.2.2.2.1 7) s := h.2.2.1 (RX3, 86, "add", 7) (by decide +kernel)
theorem sr_X3_92 {Γ : hp_G} {s : State} (h : hp_KK Γ s) : vk_R RX3 92 "to" (Γ.2.2.2.2.1 20) s := h.2.2.1 (RX3, 92, "to", 20) (by decide +kernel)
theorem sr_X3_97 {Γ : hp_G} {s : State} (h : hp_KK Γ s) : vk_R RX3 97 "fork" (Γ.2.2.2.2.1 9) s := h.2.2.1 (RX3, 97, "fork", 9) (by decide +kernel)
theorem sr_X12_447 {Γ : hp_G} {s : State} (h : hp_KK Γ s) : vk_R RX12 447 "in" (Γ.2.2.2.2.1 14) s := h.2.2.1 (RX12, 447, "in", 14) (by decide +kernel)
theorem sr_X12_453 {Γ : hp_G} {s : State} (h : hp_KK Γ s) : vk_R RX12 453 "of" (Γ.2.2.2.2.1 18) s := h.2.2.1 (RX12, 453, "of", 18) (by decide +kernel)
theorem sr_X12_455 {Γ : hp_G} {s : State} (h : hp_KK Γ s) : vk_R RX12 455 "mark" (Γ.2.2.2.2.1 16) s := h.2.2.1 (RX12, 455, "mark", 16) (by decide +kernel)
theorem sr_X12_457 {Γ : hp_G} {s : State} (h : hp_KK Γ s) : vk_R RX12 457 "head" (Γ.2.2.2.2.1 13) s := h.2.2.1 (RX12, 457, "head", 13) (by decide +kernel)
theorem sr_X12_462 {Γ : hp_G} {s : State} (h : hp_KK Γ s) : vk_R RX12 462 "grow" (Γ.2.2.2.2.1 11) s := h.2.2.1 (RX12, 462, "grow", 11) (by decide +kernel)
theorem sr_X12_464 {Γ : hp_G} {s : State} (h : hp_KK Γ s) : vk_R RX12 464 "to" (Γ.2.2.2.2.1 20) s := h.2.2.1 (RX12, 464, "to", 20) (by decide +kernel)
