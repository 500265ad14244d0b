set_option maxRecDepth 100000 in
set_option maxHeartbeats 4000000 in
theorem l_loop {p : Program} {l : Launch} {e : Env} {s : State} {m : MethodId} {below : List Frame} {meth : Method} {c : Code} {Γ : hp_G} {b Ln x y : Nat} {xs : Nat → Int32} {ρ : Nat → Nat} (C : hp_C Γ p m c cL_law 4 s #[Value.ref b] RL) (hX : va_X b Ln xs s s.heap) (hbl : b < s.heap.size) (hbA : ¬ hp_A Γ b) (hLn : Ln ≤ 3072) (hAs : ∀ q, hp_A Γ q → s.heap.size ≤ q) (hr : meth.sig.returnType = ret) (hlk : meth.locks = false) : ∀ (nq : Nat) (α : hp_T) (σ : ms_T) (H : Heap) (L : List Loc) (cells slots : Nat) (hli : li Γ s x y ρ α σ H L cells slots) (i : Int32) (hi : 0 ≤ i.toInt) (hiL : i.toInt ≤ (Ln : Int) + 6) (hmu : ((Ln : Int) + 6 - i.toInt).toNat = nq) (ls : Array Slot) (hl : lv_has ls 4 [(0, .ref b), (1, .ref x), (2, .ref y), (3, .int i)]), W p l e room_1 s m #[Value.ref b] below meth c H L cells slots (lw_Z below #[Value.ref b] s) (F0 m 18 ls []) := by
  intro nq
  induction nq using Nat.strongRecOn with
  | ind nq ih =>
  intro α σ H L cells slots hli i hi hiL hmu ls hl
  have hx := C.1.1
  have hb := C.1.2.1
  have hcs : cells ≤ 986 ∧ slots ≤ 148568 := by rcases hli.2.2.2.2.2.2 with ⟨-, h1, h2⟩ | ⟨-, h1, h2⟩ <;> omega
  have hB := hli.1
  have l6 : (6 : Int32).toInt = 6 := by decide
  have lN : (Int32.ofNat Ln).toInt = (Ln : Int) := by rw [Int32.toInt_ofNat_of_lt (by omega)]
  have lN6 : (Int32.ofNat Ln - 6).toInt = (Ln : Int) - 6 := by rw [ii_sub (by omega) (by omega), lN, l6]
  refine lv_iload_n hx hb dL_law_18 rfl (lv_at hl 3 rfl) (hp_n (n := 19) rfl ?_)
  refine lv_aload_n hx hb dL_law_19 rfl (lv_at hl 0 rfl) (hp_n (n := 20) rfl ?_)
  refine va_slen hx hb hX hbl hbA hB.2.1 dL_law_20 (hp_n (n := 21) rfl ?_)
  refine lv_bipush (v := 6) hx hb dL_law_21 (by decide) (hp_n (n := 23) rfl ?_)
  refine lv_isub hx hb dL_law_23 (hp_n (n := 24) rfl ?_)
  refine lv_icmp_gt (tgt := 2397) hx hb dL_law_24 (by decide) (fun cq => ?_) (fun cq => hp_n (n := 27) rfl ?_)
  · refine lv_iconst (v := 1) hx hb dL_law_2397 (by decide) (hp_n (n := 2398) rfl ?_)
    refine va_forget (fun q hq => by have := hB.2.1.2.2 q hq; exact hAs _ this) ?_
    refine W.widen (k := 600000) (n := 7302250) (by omega) (by omega) ?_
    exact lw_ret hx hb hr hlk dL_law_2398
  have cq := il_nlt cq
  rw [lN6] at cq
  have kk : ∀ (α : hp_T) (σ : ms_T) (H : Heap) (L : List Loc) (cells slots : Nat), li Γ s x y ρ α σ H L cells slots → W p l e room_1 s m #[Value.ref b] below meth c H L cells slots (lw_Z below #[Value.ref b] s) (F0 m 2391 ls []) := by
    intro α σ H L cells slots h2
    obtain ⟨v, ev⟩ : ∃ v : Int32, v = i + 6 := ⟨_, rfl⟩
    have qv : v.toInt = i.toInt + 6 := by rw [ev, ii_add (by omega) (by omega), l6]
    refine lv_iinc (v := v) (lv' := [(3, .int v), (0, .ref b), (1, .ref x), (2, .ref y)]) hx hb dL_law_2391 hl (k := 3) rfl (by rw [ev]; rfl) (by decide) rfl (fun ls hl => hp_n (n := 2394) rfl ?_)
    refine lv_goto (tgt := 18) hx hb dL_law_2394 (by decide) ?_
    exact ih _ (by omega) α σ H L cells slots h2 v (by omega) (by omega) rfl ls (lv_sub hl [1, 2, 3, 0] rfl)
  refine lv_aload_n hx hb dL_law_27 rfl (lv_at hl 0 rfl) (hp_n (n := 28) rfl ?_)
  refine lv_iload_n hx hb dL_law_28 rfl (lv_at hl 3 rfl) (hp_n (n := 29) rfl ?_)
  refine va_sld hx hb hX hbl hbA hB.2.1 (vi_of hi (by omega)) dL_law_29 (hp_n (n := 30) rfl ?_)
  refine lv_bipush (v := 63) hx hb dL_law_30 (by decide) (hp_n (n := 32) rfl ?_)
  refine lv_iand hx hb dL_law_32 (hp_n (n := 33) rfl (lv_topi (fun z ez => ?_)))
  by_cases c0 : z = 0
  · refine lv_tableIn (off := 251) (tgt := 284) hx hb dL_law_33 (by rw [c0]; decide) (by rw [c0]; decide) (by rw [c0]; rfl) (by decide) ?_
    exact lc_0 C hX hbl hbA hLn hli i hi (by omega) ls hl kk
  by_cases c1 : z = 1
  · refine lv_tableIn (off := 264) (tgt := 297) hx hb dL_law_33 (by rw [c1]; decide) (by rw [c1]; decide) (by rw [c1]; rfl) (by decide) ?_
    exact lc_1 C hX hbl hbA hLn hli i hi (by omega) ls hl kk
  by_cases c2 : z = 2
  · refine lv_tableIn (off := 327) (tgt := 360) hx hb dL_law_33 (by rw [c2]; decide) (by rw [c2]; decide) (by rw [c2]; rfl) (by decide) ?_
    exact lc_2 C hX hbl hbA hLn hli i hi (by omega) ls hl kk
  by_cases c3 : z = 3
  · refine lv_tableIn (off := 350) (tgt := 383) hx hb dL_law_33 (by rw [c3]; decide) (by rw [c3]; decide) (by rw [c3]; rfl) (by decide) ?_
    exact lc_3 C hX hbl hbA hLn hli i hi (by omega) ls hl kk
  by_cases c4 : z = 4
  · refine lv_tableIn (off := 373) (tgt := 406) hx hb dL_law_33 (by rw [c4]; decide) (by rw [c4]; decide) (by rw [c4]; rfl) (by decide) ?_
    exact lc_4 C hX hbl hbA hLn hli i hi (by omega) ls hl kk
  by_cases c5 : z = 5
  · refine lv_tableIn (off := 396) (tgt := 429) hx hb dL_law_33 (by rw [c5]; decide) (by rw [c5]; decide) (by rw [c5]; rfl) (by decide) ?_
    exact lc_5 C hX hbl hbA hLn hli i hi (by omega) ls hl kk
  by_cases c6 : z = 6
  · refine lv_tableIn (off := 419) (tgt := 452) hx hb dL_law_33 (by rw [c6]; decide) (by rw [c6]; decide) (by rw [c6]; rfl) (by decide) ?_
    exact lc_6 C hX hbl hbA hLn hli i hi (by omega) ls hl kk
  by_cases c7 : z = 7
  · refine lv_tableIn (off := 452) (tgt := 485) hx hb dL_law_33 (by rw [c7]; decide) (by rw [c7]; decide) (by rw [c7]; rfl) (by decide) ?_
    exact lc_7 C hX hbl hbA hLn hli i hi (by omega) ls hl kk
  by_cases c8 : z = 8
  · refine lv_tableIn (off := 475) (tgt := 508) hx hb dL_law_33 (by rw [c8]; decide) (by rw [c8]; decide) (by rw [c8]; rfl) (by decide) ?_
    exact lc_8 C hX hbl hbA hLn hli i hi (by omega) ls hl kk
  by_cases c9 : z = 9
  · refine lv_tableIn (off := 498) (tgt := 531) hx hb dL_law_33 (by rw [c9]; decide) (by rw [c9]; decide) (by rw [c9]; rfl) (by decide) ?_
    exact lc_9 C hX hbl hbA hLn hli i hi (by omega) ls hl kk
  by_cases c10 : z = 10
  · refine lv_tableIn (off := 541) (tgt := 574) hx hb dL_law_33 (by rw [c10]; decide) (by rw [c10]; decide) (by rw [c10]; rfl) (by decide) ?_
    exact lc_10 C hX hbl hbA hLn hli i hi (by omega) ls hl kk
  by_cases c11 : z = 11
  · refine lv_tableIn (off := 574) (tgt := 607) hx hb dL_law_33 (by rw [c11]; decide) (by rw [c11]; decide) (by rw [c11]; rfl) (by decide) ?_
    exact lc_11 C hX hbl hbA hLn hli i hi (by omega) ls hl kk
  by_cases c12 : z = 12
  · refine lv_tableIn (off := 607) (tgt := 640) hx hb dL_law_33 (by rw [c12]; decide) (by rw [c12]; decide) (by rw [c12]; rfl) (by decide) ?_
    exact lc_12 C hX hbl hbA hLn hli i hi (by omega) ls hl kk
  by_cases c13 : z = 13
  · refine lv_tableIn (off := 620) (tgt := 653) hx hb dL_law_33 (by rw [c13]; decide) (by rw [c13]; decide) (by rw [c13]; rfl) (by decide) ?_
    exact lc_13 C hX hbl hbA hLn hli i hi (by omega) ls hl kk
  by_cases c14 : z = 14
  · refine lv_tableIn (off := 653) (tgt := 686) hx hb dL_law_33 (by rw [c14]; decide) (by rw [c14]; decide) (by rw [c14]; rfl) (by decide) ?_
    exact lc_14 C hX hbl hbA hLn hli i hi (by omega) ls hl kk
  by_cases c15 : z = 15
  · refine lv_tableIn (off := 686) (tgt := 719) hx hb dL_law_33 (by rw [c15]; decide) (by rw [c15]; decide) (by rw [c15]; rfl) (by decide) ?_
    exact lc_15 C hX hbl hbA hLn hli i hi (by omega) ls hl kk
  by_cases c16 : z = 16
  · refine lv_tableIn (off := 709) (tgt := 742) hx hb dL_law_33 (by rw [c16]; decide) (by rw [c16]; decide) (by rw [c16]; rfl) (by decide) ?_
    exact lc_16 C hX hbl hbA hLn hli i hi (by omega) ls hl kk
  by_cases c17 : z = 17
  · refine lv_tableIn (off := 742) (tgt := 775) hx hb dL_law_33 (by rw [c17]; decide) (by rw [c17]; decide) (by rw [c17]; rfl) (by decide) ?_
    exact lc_17 C hX hbl hbA hLn hli i hi (by omega) ls hl kk
  by_cases c18 : z = 18
  · refine lv_tableIn (off := 765) (tgt := 798) hx hb dL_law_33 (by rw [c18]; decide) (by rw [c18]; decide) (by rw [c18]; rfl) (by decide) ?_
    exact lc_18 C hX hbl hbA hLn hli i hi (by omega) ls hl kk
  by_cases c19 : z = 19
  · refine lv_tableIn (off := 808) (tgt := 841) hx hb dL_law_33 (by rw [c19]; decide) (by rw [c19]; decide) (by rw [c19]; rfl) (by decide) ?_
    exact lc_19 C hX hbl hbA hLn hli i hi (by omega) ls hl kk
  by_cases c20 : z = 20
  · refine lv_tableIn (off := 851) (tgt := 884) hx hb dL_law_33 (by rw [c20]; decide) (by rw [c20]; decide) (by rw [c20]; rfl) (by decide) ?_
    exact lc_20 C hX hbl hbA hLn hli i hi (by omega) ls hl kk
  by_cases c21 : z = 21
  · refine lv_tableIn (off := 904) (tgt := 937) hx hb dL_law_33 (by rw [c21]; decide) (by rw [c21]; decide) (by rw [c21]; rfl) (by decide) ?_
    exact lc_21 C hX hbl hbA hLn hli i hi (by omega) ls hl kk
  by_cases c22 : z = 22
  · refine lv_tableIn (off := 927) (tgt := 960) hx hb dL_law_33 (by rw [c22]; decide) (by rw [c22]; decide) (by rw [c22]; rfl) (by decide) ?_
    exact lc_22 C hX hbl hbA hLn hli i hi (by omega) ls hl kk
  by_cases c23 : z = 23
  · refine lv_tableIn (off := 960) (tgt := 993) hx hb dL_law_33 (by rw [c23]; decide) (by rw [c23]; decide) (by rw [c23]; rfl) (by decide) ?_
    exact lc_23 C hX hbl hbA hLn hli i hi (by omega) ls hl kk
  by_cases c24 : z = 24
  · refine lv_tableIn (off := 983) (tgt := 1016) hx hb dL_law_33 (by rw [c24]; decide) (by rw [c24]; decide) (by rw [c24]; rfl) (by decide) ?_
    exact lc_24 C hX hbl hbA hLn hli i hi (by omega) ls hl kk
  by_cases c25 : z = 25
  · refine lv_tableIn (off := 1006) (tgt := 1039) hx hb dL_law_33 (by rw [c25]; decide) (by rw [c25]; decide) (by rw [c25]; rfl) (by decide) ?_
    exact lc_25 C hX hbl hbA hLn hli i hi (by omega) ls hl kk
  by_cases c26 : z = 26
  · refine lv_tableIn (off := 1049) (tgt := 1082) hx hb dL_law_33 (by rw [c26]; decide) (by rw [c26]; decide) (by rw [c26]; rfl) (by decide) ?_
    exact lc_26 C hX hbl hbA hLn hli i hi (by omega) ls hl kk
  by_cases c27 : z = 27
  · refine lv_tableIn (off := 1092) (tgt := 1125) hx hb dL_law_33 (by rw [c27]; decide) (by rw [c27]; decide) (by rw [c27]; rfl) (by decide) ?_
    exact lc_27 C hX hbl hbA hLn hli i hi (by omega) ls hl kk
  by_cases c28 : z = 28
  · refine lv_tableIn (off := 1135) (tgt := 1168) hx hb dL_law_33 (by rw [c28]; decide) (by rw [c28]; decide) (by rw [c28]; rfl) (by decide) ?_
    exact lc_28 C hX hbl hbA hLn hli i hi (by omega) ls hl kk
  by_cases c29 : z = 29
  · refine lv_tableIn (off := 1168) (tgt := 1201) hx hb dL_law_33 (by rw [c29]; decide) (by rw [c29]; decide) (by rw [c29]; rfl) (by decide) ?_
    exact lc_29 C hX hbl hbA hLn hli i hi (by omega) ls hl kk
  by_cases c30 : z = 30
  · refine lv_tableIn (off := 1201) (tgt := 1234) hx hb dL_law_33 (by rw [c30]; decide) (by rw [c30]; decide) (by rw [c30]; rfl) (by decide) ?_
    exact lc_30 C hX hbl hbA hLn hli i hi (by omega) ls hl kk
  by_cases c31 : z = 31
  · refine lv_tableIn (off := 1254) (tgt := 1287) hx hb dL_law_33 (by rw [c31]; decide) (by rw [c31]; decide) (by rw [c31]; rfl) (by decide) ?_
    exact lc_31 C hX hbl hbA hLn hli i hi (by omega) ls hl kk
  by_cases c32 : z = 32
  · refine lv_tableIn (off := 1307) (tgt := 1340) hx hb dL_law_33 (by rw [c32]; decide) (by rw [c32]; decide) (by rw [c32]; rfl) (by decide) ?_
    exact lc_32 C hX hbl hbA hLn hli i hi (by omega) ls hl kk
  by_cases c33 : z = 33
  · refine lv_tableIn (off := 1350) (tgt := 1383) hx hb dL_law_33 (by rw [c33]; decide) (by rw [c33]; decide) (by rw [c33]; rfl) (by decide) ?_
    exact lc_33 C hX hbl hbA hLn hli i hi (by omega) ls hl kk
  by_cases c34 : z = 34
  · refine lv_tableIn (off := 1363) (tgt := 1396) hx hb dL_law_33 (by rw [c34]; decide) (by rw [c34]; decide) (by rw [c34]; rfl) (by decide) ?_
    exact lc_34 C hX hbl hbA hLn hli i hi (by omega) ls hl kk
  by_cases c35 : z = 35
  · refine lv_tableIn (off := 1396) (tgt := 1429) hx hb dL_law_33 (by rw [c35]; decide) (by rw [c35]; decide) (by rw [c35]; rfl) (by decide) ?_
    exact lc_35 C hX hbl hbA hLn hli i hi (by omega) ls hl kk
  by_cases c36 : z = 36
  · refine lv_tableIn (off := 1429) (tgt := 1462) hx hb dL_law_33 (by rw [c36]; decide) (by rw [c36]; decide) (by rw [c36]; rfl) (by decide) ?_
    exact lc_36 C hX hbl hbA hLn hli i hi (by omega) ls hl kk
  by_cases c37 : z = 37
  · refine lv_tableIn (off := 1462) (tgt := 1495) hx hb dL_law_33 (by rw [c37]; decide) (by rw [c37]; decide) (by rw [c37]; rfl) (by decide) ?_
    exact lc_37 C hX hbl hbA hLn hli i hi (by omega) ls hl kk
  by_cases c38 : z = 38
  · refine lv_tableIn (off := 1495) (tgt := 1528) hx hb dL_law_33 (by rw [c38]; decide) (by rw [c38]; decide) (by rw [c38]; rfl) (by decide) ?_
    exact lc_38 C hX hbl hbA hLn hli i hi (by omega) ls hl kk
  by_cases c39 : z = 39
  · refine lv_tableIn (off := 1548) (tgt := 1581) hx hb dL_law_33 (by rw [c39]; decide) (by rw [c39]; decide) (by rw [c39]; rfl) (by decide) ?_
    exact lc_39 C hX hbl hbA hLn hli i hi (by omega) ls hl kk
  by_cases c40 : z = 40
  · refine lv_tableIn (off := 1581) (tgt := 1614) hx hb dL_law_33 (by rw [c40]; decide) (by rw [c40]; decide) (by rw [c40]; rfl) (by decide) ?_
    exact lc_40 C hX hbl hbA hLn hli i hi (by omega) ls hl kk
  by_cases c41 : z = 41
  · refine lv_tableIn (off := 1614) (tgt := 1647) hx hb dL_law_33 (by rw [c41]; decide) (by rw [c41]; decide) (by rw [c41]; rfl) (by decide) ?_
    exact lc_41 C hX hbl hbA hLn hli i hi (by omega) ls hl kk
  by_cases c42 : z = 42
  · refine lv_tableIn (off := 1657) (tgt := 1690) hx hb dL_law_33 (by rw [c42]; decide) (by rw [c42]; decide) (by rw [c42]; rfl) (by decide) ?_
    exact lc_42 C hX hbl hbA hLn hli i hi (by omega) ls hl kk
  by_cases c43 : z = 43
  · refine lv_tableIn (off := 1690) (tgt := 1723) hx hb dL_law_33 (by rw [c43]; decide) (by rw [c43]; decide) (by rw [c43]; rfl) (by decide) ?_
    exact lc_43 C hX hbl hbA hLn hli i hi (by omega) ls hl kk
  by_cases c44 : z = 44
  · refine lv_tableIn (off := 1743) (tgt := 1776) hx hb dL_law_33 (by rw [c44]; decide) (by rw [c44]; decide) (by rw [c44]; rfl) (by decide) ?_
    exact lc_44 C hX hbl hbA hLn hli i hi (by omega) ls hl kk
  by_cases c45 : z = 45
  · refine lv_tableIn (off := 1806) (tgt := 1839) hx hb dL_law_33 (by rw [c45]; decide) (by rw [c45]; decide) (by rw [c45]; rfl) (by decide) ?_
    exact lc_45 C hX hbl hbA hLn hli i hi (by omega) ls hl kk
  by_cases c46 : z = 46
  · refine lv_tableIn (off := 1869) (tgt := 1902) hx hb dL_law_33 (by rw [c46]; decide) (by rw [c46]; decide) (by rw [c46]; rfl) (by decide) ?_
    exact lc_46 C hX hbl hbA hLn hli i hi (by omega) ls hl kk
  by_cases c47 : z = 47
  · refine lv_tableIn (off := 1922) (tgt := 1955) hx hb dL_law_33 (by rw [c47]; decide) (by rw [c47]; decide) (by rw [c47]; rfl) (by decide) ?_
    exact lc_47 C hX hbl hbA hLn hli i hi (by omega) ls hl kk
  by_cases c48 : z = 48
  · refine lv_tableIn (off := 1975) (tgt := 2008) hx hb dL_law_33 (by rw [c48]; decide) (by rw [c48]; decide) (by rw [c48]; rfl) (by decide) ?_
    exact lc_48 C hX hbl hbA hLn hli i hi (by omega) ls hl kk
  by_cases c49 : z = 49
  · refine lv_tableIn (off := 2028) (tgt := 2061) hx hb dL_law_33 (by rw [c49]; decide) (by rw [c49]; decide) (by rw [c49]; rfl) (by decide) ?_
    exact lc_49 C hX hbl hbA hLn hli i hi (by omega) ls hl kk
  by_cases c50 : z = 50
  · refine lv_tableIn (off := 2071) (tgt := 2104) hx hb dL_law_33 (by rw [c50]; decide) (by rw [c50]; decide) (by rw [c50]; rfl) (by decide) ?_
    exact lc_50 C hX hbl hbA hLn hli i hi (by omega) ls hl kk
  by_cases c51 : z = 51
  · refine lv_tableIn (off := 2094) (tgt := 2127) hx hb dL_law_33 (by rw [c51]; decide) (by rw [c51]; decide) (by rw [c51]; rfl) (by decide) ?_
    exact lc_51 C hX hbl hbA hLn hli i hi (by omega) ls hl kk
  by_cases c52 : z = 52
  · refine lv_tableIn (off := 2127) (tgt := 2160) hx hb dL_law_33 (by rw [c52]; decide) (by rw [c52]; decide) (by rw [c52]; rfl) (by decide) ?_
    exact lc_52 C hX hbl hbA hLn hli i hi (by omega) ls hl kk
  by_cases c53 : z = 53
  · refine lv_tableIn (off := 2150) (tgt := 2183) hx hb dL_law_33 (by rw [c53]; decide) (by rw [c53]; decide) (by rw [c53]; rfl) (by decide) ?_
    exact lc_53 C hX hbl hbA hLn hli i hi (by omega) ls hl kk
  by_cases c54 : z = 54
  · refine lv_tableIn (off := 2193) (tgt := 2226) hx hb dL_law_33 (by rw [c54]; decide) (by rw [c54]; decide) (by rw [c54]; rfl) (by decide) ?_
    exact lc_54 C hX hbl hbA hLn hli i hi (by omega) ls hl kk
  by_cases c55 : z = 55
  · refine lv_tableIn (off := 2236) (tgt := 2269) hx hb dL_law_33 (by rw [c55]; decide) (by rw [c55]; decide) (by rw [c55]; rfl) (by decide) ?_
    exact lc_55 C hX hbl hbA hLn hli i hi (by omega) ls hl kk
  by_cases c56 : z = 56
  · refine lv_tableIn (off := 2259) (tgt := 2292) hx hb dL_law_33 (by rw [c56]; decide) (by rw [c56]; decide) (by rw [c56]; rfl) (by decide) ?_
    exact lc_56 C hX hbl hbA hLn hli i hi (by omega) ls hl kk
  by_cases c57 : z = 57
  · refine lv_tableIn (off := 2292) (tgt := 2325) hx hb dL_law_33 (by rw [c57]; decide) (by rw [c57]; decide) (by rw [c57]; rfl) (by decide) ?_
    exact lc_57 C hX hbl hbA hLn hli i hi (by omega) ls hl kk
  by_cases c58 : z = 58
  · refine lv_tableIn (off := 2325) (tgt := 2358) hx hb dL_law_33 (by rw [c58]; decide) (by rw [c58]; decide) (by rw [c58]; rfl) (by decide) ?_
    exact lc_58 C hX hbl hbA hLn hli i hi (by omega) ls hl kk
  have zr : ∀ k : Int, 0 ≤ k → k ≤ 58 → ¬ z.toInt = k := by
    intro k h0 h1 hk
    have hz : z = Int32.ofInt k := by rw [← hk]; exact (Int32.ofInt_toInt z).symm
    have : k = 0 ∨ k = 1 ∨ k = 2 ∨ k = 3 ∨ k = 4 ∨ k = 5 ∨ k = 6 ∨ k = 7 ∨ k = 8 ∨ k = 9 ∨ k = 10 ∨ k = 11 ∨ k = 12 ∨ k = 13 ∨ k = 14 ∨ k = 15 ∨ k = 16 ∨ k = 17 ∨ k = 18 ∨ k = 19 ∨ k = 20 ∨ k = 21 ∨ k = 22 ∨ k = 23 ∨ k = 24 ∨ k = 25 ∨ k = 26 ∨ k = 27 ∨ k = 28 ∨ k = 29 ∨ k = 30 ∨ k = 31 ∨ k = 32 ∨ k = 33 ∨ k = 34 ∨ k = 35 ∨ k = 36 ∨ k = 37 ∨ k = 38 ∨ k = 39 ∨ k = 40 ∨ k = 41 ∨ k = 42 ∨ k = 43 ∨ k = 44 ∨ k = 45 ∨ k = 46 ∨ k = 47 ∨ k = 48 ∨ k = 49 ∨ k = 50 ∨ k = 51 ∨ k = 52 ∨ k = 53 ∨ k = 54 ∨ k = 55 ∨ k = 56 ∨ k = 57 ∨ k = 58 := by omega
    rcases this with rfl | rfl | rfl | rfl | rfl | rfl | rfl | rfl | rfl | rfl | rfl | rfl | rfl | rfl | rfl | rfl | rfl | rfl | rfl | rfl | rfl | rfl | rfl | rfl | rfl | rfl | rfl | rfl | rfl | rfl | rfl | rfl | rfl | rfl | rfl | rfl | rfl | rfl | rfl | rfl | rfl | rfl | rfl | rfl | rfl | rfl | rfl | rfl | rfl | rfl | rfl | rfl | rfl | rfl | rfl | rfl | rfl | rfl | rfl
    · exact c0 hz
    · exact c1 hz
    · exact c2 hz
    · exact c3 hz
    · exact c4 hz
    · exact c5 hz
    · exact c6 hz
    · exact c7 hz
    · exact c8 hz
    · exact c9 hz
    · exact c10 hz
    · exact c11 hz
    · exact c12 hz
    · exact c13 hz
    · exact c14 hz
    · exact c15 hz
    · exact c16 hz
    · exact c17 hz
    · exact c18 hz
    · exact c19 hz
    · exact c20 hz
    · exact c21 hz
    · exact c22 hz
    · exact c23 hz
    · exact c24 hz
    · exact c25 hz
    · exact c26 hz
    · exact c27 hz
    · exact c28 hz
    · exact c29 hz
    · exact c30 hz
    · exact c31 hz
    · exact c32 hz
    · exact c33 hz
    · exact c34 hz
    · exact c35 hz
    · exact c36 hz
    · exact c37 hz
    · exact c38 hz
    · exact c39 hz
    · exact c40 hz
    · exact c41 hz
    · exact c42 hz
    · exact c43 hz
    · exact c44 hz
    · exact c45 hz
    · exact c46 hz
    · exact c47 hz
    · exact c48 hz
    · exact c49 hz
    · exact c50 hz
    · exact c51 hz
    · exact c52 hz
    · exact c53 hz
    · exact c54 hz
    · exact c55 hz
    · exact c56 hz
    · exact c57 hz
    · exact c58 hz
  refine lv_tableOut (tgt := 2391) hx hb dL_law_33 (by by_cases h : z.toInt < 0; exact Or.inl h; by_cases h2 : 58 < z.toInt; exact Or.inr h2; exact absurd rfl (zr z.toInt (by omega) (by omega))) (by decide) ?_
  exact kk _ _ _ _ _ _ hli
