section JN14_0
set_option maxRecDepth 100000 in
set_option maxHeartbeats 4000000 in
theorem l_loop {p : Program} {l : Launch} {e : Env} {s : State} {m : MethodId} {below : List Frame} {meth : Method} {c : Code} {Γ : hp_G} {b Ln x y : Nat} {xs : Nat → Int32} {ρ : Nat → Nat} (C : hp_C Γ p m c cL_law 4 s #[Value.ref b] RL) (hX : va_X b Ln xs s s.heap) (hbl : b < s.heap.size) (hbA : ¬ hp_A Γ b) (hLn : Ln ≤ 3072) (hAs : ∀ q, hp_A Γ q → s.heap.size ≤ q) (hr : meth.sig.returnType = ret) (hlk : meth.locks = false) : ∀ (nq : Nat) (α : hp_T) (σ : ms_T) (H : Heap) (L : List Loc) (cells slots : Nat) (hli : li Γ s x y ρ α σ H L cells slots) (i : Int32) (hi : 0 ≤ i.toInt) (hiL : i.toInt ≤ (Ln : Int) + 6) (hmu : ((Ln : Int) + 6 - i.toInt).toNat = nq) (ls : Array Slot) (hl : lv_has ls 4 [(0, .ref b), (1, .ref x), (2, .ref y), (3, .int i)]), W p l e room_1 s m #[Value.ref b] below meth c H L cells slots (lw_Z below #[Value.ref b] s) (F0 m 18 ls []) := by
  intro nq
  induction nq using Nat.strongRecOn with
  | ind nq ih =>
  intro α σ H L cells slots hli i hi hiL hmu ls hl
  have hx := C.1.1
  have hb := C.1.2.1
  have hcs : cells ≤ 986 ∧ slots ≤ 148568 := by rcases hli.2.2.2.2.2.2 with ⟨-, h1, h2⟩ | ⟨-, h1, h2⟩ <;> omega
  have hB := hli.1
  have l6 : (6 : Int32).toInt = 6 := by decide
  have lN : (Int32.ofNat Ln).toInt = (Ln : Int) := by rw [Int32.toInt_ofNat_of_lt (by omega)]
  have lN6 : (Int32.ofNat Ln - 6).toInt = (Ln : Int) - 6 := by rw [ii_sub (by omega) (by omega), lN, l6]
  refine lv_iload_n hx hb dL_law_18 rfl (lv_at hl 3 rfl) (hp_n (n := 19) rfl ?_)
  refine lv_aload_n hx hb dL_law_19 rfl (lv_at hl 0 rfl) (hp_n (n := 20) rfl ?_)
  refine va_slen hx hb hX hbl hbA hB.2.1 dL_law_20 (hp_n (n := 21) rfl ?_)
  refine lv_bipush (v := 6) hx hb dL_law_21 (by decide) (hp_n (n := 23) rfl ?_)
  refine lv_isub hx hb dL_law_23 (hp_n (n := 24) rfl ?_)
  refine lv_icmp_gt (tgt := 2397) hx hb dL_law_24 (by decide) (fun cq => ?_) (fun cq => hp_n (n := 27) rfl ?_)
  · refine lv_iconst (v := 1) hx hb dL_law_2397 (by decide) (hp_n (n := 2398) rfl ?_)
    refine va_forget (fun q hq => by have := hB.2.1.2.2 q hq; exact hAs _ this) ?_
    refine W.widen (k := 600000) (n := 7302250) (by omega) (by omega) ?_
    exact lw_ret hx hb hr hlk dL_law_2398
  have cq := il_nlt cq
  rw [lN6] at cq
  have kk : ∀ (α : hp_T) (σ : ms_T) (H : Heap) (L : List Loc) (cells slots : Nat), li Γ s x y ρ α σ H L cells slots → W p l e room_1 s m #[Value.ref b] below meth c H L cells slots (lw_Z below #[Value.ref b] s) (F0 m 2391 ls []) := by
    intro α σ H L cells slots h2
    obtain ⟨v, ev⟩ : ∃ v : Int32, v = i + 6 := ⟨_, rfl⟩
    have qv : v.toInt = i.toInt + 6 := by rw [ev, ii_add (by omega) (by omega), l6]
    refine lv_iinc (v := v) (lv' := [(3, .int v), (0, .ref b), (1, .ref x), (2, .ref y)]) hx hb dL_law_2391 hl (k := 3) rfl (by rw [ev]; rfl) (by decide) rfl (fun ls hl => hp_n (n := 2394) rfl ?_)
    refine lv_goto (tgt := 18) hx hb dL_law_2394 (by decide) ?_
    exact ih _ (by omega) α σ H L cells slots h2 v (by omega) (by omega) rfl ls (lv_sub hl [1, 2, 3, 0] rfl)
  refine lv_aload_n hx hb dL_law_27 rfl (lv_at hl 0 rfl) (hp_n (n := 28) rfl ?_)
  refine lv_iload_n hx hb dL_law_28 rfl (lv_at hl 3 rfl) (hp_n (n := 29) rfl ?_)
  refine va_sld hx hb hX hbl hbA hB.2.1 (vi_of hi (by omega)) dL_law_29 (hp_n (n := 30) rfl ?_)
  refine lv_bipush (v := 63) hx hb dL_law_30 (by decide) (hp_n (n := 32) rfl ?_)
  refine lv_iand hx hb dL_law_32 (hp_n (n := 33) rfl (lv_topi (fun z ez => ?_)))
  by_cases c0 : z = 0
  · refine lv_tableIn (off := 251) (tgt := 284) hx hb dL_law_33 (by rw [c0]; decide) (by rw [c0]; decide) (by rw [c0]; rfl) (by decide) ?_
    exact lc_0 C hX hbl hbA hLn hli i hi (by omega) ls hl kk
  by_cases c1 : z = 1
  · refine lv_tableIn (off := 264) (tgt := 297) hx hb dL_law_33 (by rw [c1]; decide) (by rw [c1]; decide) (by rw [c1]; rfl) (by decide) ?_
    exact lc_1 C hX hbl hbA hLn hli i hi (by omega) ls hl kk
  by_cases c2 : z = 2
  · refine lv_tableIn (off := 327) (tgt := 360) hx hb dL_law_33 (by rw [c2]; decide) (by rw [c2]; decide) (by rw [c2]; rfl) (by decide) ?_
    exact lc_2 C hX hbl hbA hLn hli i hi (by omega) ls hl kk
  by_cases c3 : z = 3
  · refine lv_tableIn (off := 350) (tgt := 383) hx hb dL_law_33 (by rw [c3]; decide) (by rw [c3]; decide) (by rw [c3]; rfl) (by decide) ?_
    exact lc_3 C hX hbl hbA hLn hli i hi (by omega) ls hl kk
  by_cases c4 : z = 4
  · refine lv_tableIn (off := 373) (tgt := 406) hx hb dL_law_33 (by rw [c4]; decide) (by rw [c4]; decide) (by rw [c4]; rfl) (by decide) ?_
    exact lc_4 C hX hbl hbA hLn hli i hi (by omega) ls hl kk
  by_cases c5 : z = 5
  · refine lv_tableIn (off := 396) (tgt := 429) hx hb dL_law_33 (by rw [c5]; decide) (by rw [c5]; decide) (by rw [c5]; rfl) (by decide) ?_
    exact lc_5 C hX hbl hbA hLn hli i hi (by omega) ls hl kk
  by_cases c6 : z = 6
  · refine lv_tableIn (off := 419) (tgt := 452) hx hb dL_law_33 (by rw [c6]; decide) (by rw [c6]; decide) (by rw [c6]; rfl) (by decide) ?_
    exact lc_6 C hX hbl hbA hLn hli i hi (by omega) ls hl kk
  by_cases c7 : z = 7
  · refine lv_tableIn (off := 452) (tgt := 485) hx hb dL_law_33 (by rw [c7]; decide) (by rw [c7]; decide) (by rw [c7]; rfl) (by decide) ?_
    exact lc_7 C hX hbl hbA hLn hli i hi (by omega) ls hl kk
  by_cases c8 : z = 8
  · refine lv_tableIn (off := 475) (tgt := 508) hx hb dL_law_33 (by rw [c8]; decide) (by rw [c8]; decide) (by rw [c8]; rfl) (by decide) ?_
    exact lc_8 C hX hbl hbA hLn hli i hi (by omega) ls hl kk
  by_cases c9 : z = 9
  · refine lv_tableIn (off := 498) (tgt := 531) hx hb dL_law_33 (by rw [c9]; decide) (by rw [c9]; decide) (by rw [c9]; rfl) (by decide) ?_
    exact lc_9 C hX hbl hbA hLn hli i hi (by omega) ls hl kk
  by_cases c10 : z = 10
  · refine lv_tableIn (off := 541) (tgt := 574) hx hb dL_law_33 (by rw [c10]; decide) (by rw [c10]; decide) (by rw [c10]; rfl) (by decide) ?_
    exact lc_10 C hX hbl hbA hLn hli i hi (by omega) ls hl kk
  by_cases c11 : z = 11
  · refine lv_tableIn (off := 574) (tgt := 607) hx hb dL_law_33 (by rw [c11]; decide) (by rw [c11]; decide) (by rw [c11]; rfl) (by decide) ?_
    exact lc_11 C hX hbl hbA hLn hli i hi (by omega) ls hl kk
  by_cases c12 : z = 12
  · refine lv_tableIn (off := 607) (tgt := 640) hx hb dL_law_33 (by rw [c12]; decide) (by rw [c12]; decide) (by rw [c12]; rfl) (by decide) ?_
    exact lc_12 C hX hbl hbA hLn hli i hi (by omega) ls hl kk
  by_cases c13 : z = 13
  · refine lv_tableIn (off := 620) (tgt := 653) hx hb dL_law_33 (by rw [c13]; decide) (by rw [c13]; decide) (by rw [c13]; rfl) (by decide) ?_
    exact lc_13 C hX hbl hbA hLn hli i hi (by omega) ls hl kk
  by_cases c14 : z = 14
  · refine lv_tableIn (off := 653) (tgt := 686) hx hb dL_law_33 (by rw [c14]; decide) (by rw [c14]; decide) (by rw [c14]; rfl) (by decide) ?_
    exact lc_14 C hX hbl hbA hLn hli i hi (by omega) ls hl kk
  by_cases c15 : z = 15
  · refine lv_tableIn (off := 686) (tgt := 719) hx hb dL_law_33 (by rw [c15]; decide) (by rw [c15]; decide) (by rw [c15]; rfl) (by decide) ?_
    exact lc_15 C hX hbl hbA hLn hli i hi (by omega) ls hl kk
  by_cases c16 : z = 16
  · refine lv_tableIn (off := 709) (tgt := 742) hx hb dL_law_33 (by rw [c16]; decide) (by rw [c16]; decide) (by rw [c16]; rfl) (by decide) ?_
    exact lc_16 C hX hbl hbA hLn hli i hi (by omega) ls hl kk
  by_cases c17 : z = 17
  · refine lv_tableIn (off := 742) (tgt := 775) hx hb dL_law_33 (by rw [c17]; decide) (by rw [c17]; decide) (by rw [c17]; rfl) (by decide) ?_
    exact lc_17 C hX hbl hbA hLn hli i hi (by omega) ls hl kk
  by_cases c18 : z = 18
  · refine lv_tableIn (off := 765) (tgt := 798) hx hb dL_law_33 (by rw [c18]; decide) (by rw [c18]; decide) (by rw [c18]; rfl) (by decide) ?_
    exact lc_18 C hX hbl hbA hLn hli i hi (by omega) ls hl kk
  by_cases c19 : z = 19
  · refine lv_tableIn (off := 808) (tgt := 841) hx hb dL_law_33 (by rw [c19]; decide) (by rw [c19]; decide) (by rw [c19]; rfl) (by decide) ?_
    exact lc_19 C hX hbl hbA hLn hli i hi (by omega) ls hl kk
  by_cases c20 : z = 20
  · refine lv_tableIn (off := 851) (tgt := 884) hx hb dL_law_33 (by rw [c20]; decide) (by rw [c20]; decide) (by rw [c20]; rfl) (by decide) ?_
    exact lc_20 C hX hbl hbA hLn hli i hi (by omega) ls hl kk
  by_cases c21 : z = 21
  · refine lv_tableIn (off := 904) (tgt := 937) hx hb dL_law_33 (by rw [c21]; decide) (by rw [c21]; decide) (by rw [c21]; rfl) (by decide) ?_
    exact lc_21 C hX hbl hbA hLn hli i hi (by omega) ls hl kk
  by_cases c22 : z = 22
  · refine lv_tableIn (off := 927) (tgt := 960) hx hb dL_law_33 (by rw [c22]; decide) (by rw [c22]; decide) (by rw [c22]; rfl) (by decide) ?_
    exact lc_22 C hX hbl hbA hLn hli i hi (by omega) ls hl kk
  by_cases c23 : z = 23
  · refine lv_tableIn (off := 960) (tgt := 993) hx hb dL_law_33 (by rw [c23]; decide) (by rw [c23]; decide) (by rw [c23]; rfl) (by decide) ?_
    exact lc_23 C hX hbl hbA hLn hli i hi (by omega) ls hl kk
  by_cases c24 : z = 24
  · refine lv_tableIn (off := 983) (tgt := 1016) hx hb dL_law_33 (by rw [c24]; decide) (by rw [c24]; decide) (by rw [c24]; rfl) (by decide) ?_
    exact lc_24 C hX hbl hbA hLn hli i hi (by omega) ls hl kk
  by_cases c25 : z = 25
  · refine lv_tableIn (off := 1006) (tgt := 1039) hx hb dL_law_33 (by rw [c25]; decide) (by rw [c25]; decide) (by rw [c25]; rfl) (by decide) ?_
    exact lc_25 C hX hbl hbA hLn hli i hi (by omega) ls hl kk
  by_cases c26 : z = 26
  · refine lv_tableIn (off := 1049) (tgt := 1082) hx hb dL_law_33 (by rw [c26]; decide) (by rw [c26]; decide) (by rw [c26]; rfl) (by decide) ?_
    exact lc_26 C hX hbl hbA hLn hli i hi (by omega) ls hl kk
  by_cases c27 : z = 27
  · refine lv_tableIn (off := 1092) (tgt := 1125) hx hb dL_law_33 (by rw [c27]; decide) (by rw [c27]; decide) (by rw [c27]; rfl) (by decide) ?_
    exact lc_27 C hX hbl hbA hLn hli i hi (by omega) ls hl kk
  by_cases c28 : z = 28
  · refine lv_tableIn (off := 1135) (tgt := 1168) hx hb dL_law_33 (by rw [c28]; decide) (by rw [c28]; decide) (by rw [c28]; rfl) (by decide) ?_
    exact lc_28 C hX hbl hbA hLn hli i hi (by omega) ls hl kk
  by_cases c29 : z = 29
  · refine lv_tableIn (off := 1168) (tgt := 1201) hx hb dL_law_33 (by rw [c29]; decide) (by rw [c29]; decide) (by rw [c29]; rfl) (by decide) ?_
    exact lc_29 C hX hbl hbA hLn hli i hi (by omega) ls hl kk
  by_cases c30 : z = 30
  · refine lv_tableIn (off := 1201) (tgt := 1234) hx hb dL_law_33 (by rw [c30]; decide) (by rw [c30]; decide) (by rw [c30]; rfl) (by decide) ?_
    exact lc_30 C hX hbl hbA hLn hli i hi (by omega) ls hl kk
  by_cases c31 : z = 31
  · refine lv_tableIn (off := 1254) (tgt := 1287) hx hb dL_law_33 (by rw [c31]; decide) (by rw [c31]; decide) (by rw [c31]; rfl) (by decide) ?_
    exact lc_31 C hX hbl hbA hLn hli i hi (by omega) ls hl kk
  by_cases c32 : z = 32
  · refine lv_tableIn (off := 1307) (tgt := 1340) hx hb dL_law_33 (by rw [c32]; decide) (by rw [c32]; decide) (by rw [c32]; rfl) (by decide) ?_
    exact lc_32 C hX hbl hbA hLn hli i hi (by omega) ls hl kk
  by_cases c33 : z = 33
  · refine lv_tableIn (off := 1350) (tgt := 1383) hx hb dL_law_33 (by rw [c33]; decide) (by rw [c33]; decide) (by rw [c33]; rfl) (by decide) ?_
    exact lc_33 C hX hbl hbA hLn hli i hi (by omega) ls hl kk
  by_cases c34 : z = 34
  · refine lv_tableIn (off := 1363) (tgt := 1396) hx hb dL_law_33 (by rw [c34]; decide) (by rw [c34]; decide) (by rw [c34]; rfl) (by decide) ?_
    exact lc_34 C hX hbl hbA hLn hli i hi (by omega) ls hl kk
  by_cases c35 : z = 35
  · refine lv_tableIn (off := 1396) (tgt := 1429) hx hb dL_law_33 (by rw [c35]; decide) (by rw [c35]; decide) (by rw [c35]; rfl) (by decide) ?_
    exact lc_35 C hX hbl hbA hLn hli i hi (by omega) ls hl kk
  by_cases c36 : z = 36
  · refine lv_tableIn (off := 1429) (tgt := 1462) hx hb dL_law_33 (by rw [c36]; decide) (by rw [c36]; decide) (by rw [c36]; rfl) (by decide) ?_
    exact lc_36 C hX hbl hbA hLn hli i hi (by omega) ls hl kk
  by_cases c37 : z = 37
  · refine lv_tableIn (off := 1462) (tgt := 1495) hx hb dL_law_33 (by rw [c37]; decide) (by rw [c37]; decide) (by rw [c37]; rfl) (by decide) ?_
    exact lc_37 C hX hbl hbA hLn hli i hi (by omega) ls hl kk
  by_cases c38 : z = 38
  · refine lv_tableIn (off := 1495) (tgt := 1528) hx hb dL_law_33 (by rw [c38]; decide) (by rw [c38]; decide) (by rw [c38]; rfl) (by decide) ?_
    exact lc_38 C hX hbl hbA hLn hli i hi (by omega) ls hl kk
  by_cases c39 : z = 39
  · refine lv_tableIn (off := 1548) (tgt := 1581) hx hb dL_law_33 (by rw [c39]; decide) (by rw [c39]; decide) (by rw [c39]; rfl) (by decide) ?_
    exact lc_39 C hX hbl hbA hLn hli i hi (by omega) ls hl kk
  by_cases c40 : z = 40
  · refine lv_tableIn (off := 1581) (tgt := 1614) hx hb dL_law_33 (by rw [c40]; decide) (by rw [c40]; decide) (by rw [c40]; rfl) (by decide) ?_
    exact lc_40 C hX hbl hbA hLn hli i hi (by omega) ls hl kk
  by_cases c41 : z = 41
  · refine lv_tableIn (off := 1614) (tgt := 1647) hx hb dL_law_33 (by rw [c41]; decide) (by rw [c41]; decide) (by rw [c41]; rfl) (by decide) ?_
    exact lc_41 C hX hbl hbA hLn hli i hi (by omega) ls hl kk
  by_cases c42 : z = 42
  · refine lv_tableIn (off := 1657) (tgt := 1690) hx hb dL_law_33 (by rw [c42]; decide) (by rw [c42]; decide) (by rw [c42]; rfl) (by decide) ?_
    exact lc_42 C hX hbl hbA hLn hli i hi (by omega) ls hl kk
  by_cases c43 : z = 43
  · refine lv_tableIn (off := 1690) (tgt := 1723) hx hb dL_law_33 (by rw [c43]; decide) (by rw [c43]; decide) (by rw [c43]; rfl) (by decide) ?_
    exact lc_43 C hX hbl hbA hLn hli i hi (by omega) ls hl kk
  by_cases c44 : z = 44
  · refine lv_tableIn (off := 1743) (tgt := 1776) hx hb dL_law_33 (by rw [c44]; decide) (by rw [c44]; decide) (by rw [c44]; rfl) (by decide) ?_
    exact lc_44 C hX hbl hbA hLn hli i hi (by omega) ls hl kk
  by_cases c45 : z = 45
  · refine lv_tableIn (off := 1806) (tgt := 1839) hx hb dL_law_33 (by rw [c45]; decide) (by rw [c45]; decide) (by rw [c45]; rfl) (by decide) ?_
    exact lc_45 C hX hbl hbA hLn hli i hi (by omega) ls hl kk
  by_cases c46 : z = 46
  · refine lv_tableIn (off := 1869) (tgt := 1902) hx hb dL_law_33 (by rw [c46]; decide) (by rw [c46]; decide) (by rw [c46]; rfl) (by decide) ?_
    exact lc_46 C hX hbl hbA hLn hli i hi (by omega) ls hl kk
  by_cases c47 : z = 47
  · refine lv_tableIn (off := 1922) (tgt := 1955) hx hb dL_law_33 (by rw [c47]; decide) (by rw [c47]; decide) (by rw [c47]; rfl) (by decide) ?_
    exact lc_47 C hX hbl hbA hLn hli i hi (by omega) ls hl kk
  by_cases c48 : z = 48
  · refine lv_tableIn (off := 1975) (tgt := 2008) hx hb dL_law_33 (by rw [c48]; decide) (by rw [c48]; decide) (by rw [c48]; rfl) (by decide) ?_
    exact lc_48 C hX hbl hbA hLn hli i hi (by omega) ls hl kk
  by_cases c49 : z = 49
  · refine lv_tableIn (off := 2028) (tgt := 2061) hx hb dL_law_33 (by rw [c49]; decide) (by rw [c49]; decide) (by rw [c49]; rfl) (by decide) ?_
    exact lc_49 C hX hbl hbA hLn hli i hi (by omega) ls hl kk
  by_cases c50 : z = 50
  · refine lv_tableIn (off := 2071) (tgt := 2104) hx hb dL_law_33 (by rw [c50]; decide) (by rw [c50]; decide) (by rw [c50]; rfl) (by decide) ?_
    exact lc_50 C hX hbl hbA hLn hli i hi (by omega) ls hl kk
  by_cases c51 : z = 51
  · refine lv_tableIn (off := 2094) (tgt := 2127) hx hb dL_law_33 (by rw [c51]; decide) (by rw [c51]; decide) (by rw [c51]; rfl) (by decide) ?_
    exact lc_51 C hX hbl hbA hLn hli i hi (by omega) ls hl kk
  by_cases c52 : z = 52
  · refine lv_tableIn (off := 2127) (tgt := 2160) hx hb dL_law_33 (by rw [c52]; decide) (by rw [c52]; decide) (by rw [c52]; rfl) (by decide) ?_
    exact lc_52 C hX hbl hbA hLn hli i hi (by omega) ls hl kk
  by_cases c53 : z = 53
  · refine lv_tableIn (off := 2150) (tgt := 2183) hx hb dL_law_33 (by rw [c53]; decide) (by rw [c53]; decide) (by rw [c53]; rfl) (by decide) ?_
    exact lc_53 C hX hbl hbA hLn hli i hi (by omega) ls hl kk
  by_cases c54 : z = 54
  · refine lv_tableIn (off := 2193) (tgt := 2226) hx hb dL_law_33 (by rw [c54]; decide) (by rw [c54]; decide) (by rw [c54]; rfl) (by decide) ?_
    exact lc_54 C hX hbl hbA hLn hli i hi (by omega) ls hl kk
  by_cases c55 : z = 55
  · refine lv_tableIn (off := 2236) (tgt := 2269) hx hb dL_law_33 (by rw [c55]; decide) (by rw [c55]; decide) (by rw [c55]; rfl) (by decide) ?_
    exact lc_55 C hX hbl hbA hLn hli i hi (by omega) ls hl kk
  by_cases c56 : z = 56
  · refine lv_tableIn (off := 2259) (tgt := 2292) hx hb dL_law_33 (by rw [c56]; decide) (by rw [c56]; decide) (by rw [c56]; rfl) (by decide) ?_
    exact lc_56 C hX hbl hbA hLn hli i hi (by omega) ls hl kk
  by_cases c57 : z = 57
  · refine lv_tableIn (off := 2292) (tgt := 2325) hx hb dL_law_33 (by rw [c57]; decide) (by rw [c57]; decide) (by rw [c57]; rfl) (by decide) ?_
    exact lc_57 C hX hbl hbA hLn hli i hi (by omega) ls hl kk
  by_cases c58 : z = 58
  · refine lv_tableIn (off := 2325) (tgt := 2358) hx hb dL_law_33 (by rw [c58]; decide) (by rw [c58]; decide) (by rw [c58]; rfl) (by decide) ?_
    exact lc_58 C hX hbl hbA hLn hli i hi (by omega) ls hl kk
  have zr : ∀ k : Int, 0 ≤ k → k ≤ 58 → ¬ z.toInt = k := by
    intro k h0 h1 hk
    have hz : z = Int32.ofInt k := by rw [← hk]; exact (Int32.ofInt_toInt z).symm
    have : k = 0 ∨ k = 1 ∨ k = 2 ∨ k = 3 ∨ k = 4 ∨ k = 5 ∨ k = 6 ∨ k = 7 ∨ k = 8 ∨ k = 9 ∨ k = 10 ∨ k = 11 ∨ k = 12 ∨ k = 13 ∨ k = 14 ∨ k = 15 ∨ k = 16 ∨ k = 17 ∨ k = 18 ∨ k = 19 ∨ k = 20 ∨ k = 21 ∨ k = 22 ∨ k = 23 ∨ k = 24 ∨ k = 25 ∨ k = 26 ∨ k = 27 ∨ k = 28 ∨ k = 29 ∨ k = 30 ∨ k = 31 ∨ k = 32 ∨ k = 33 ∨ k = 34 ∨ k = 35 ∨ k = 36 ∨ k = 37 ∨ k = 38 ∨ k = 39 ∨ k = 40 ∨ k = 41 ∨ k = 42 ∨ k = 43 ∨ k = 44 ∨ k = 45 ∨ k = 46 ∨ k = 47 ∨ k = 48 ∨ k = 49 ∨ k = 50 ∨ k = 51 ∨ k = 52 ∨ k = 53 ∨ k = 54 ∨ k = 55 ∨ k = 56 ∨ k = 57 ∨ k = 58 := by omega
    rcases this with rfl | rfl | rfl | rfl | rfl | rfl | rfl | rfl | rfl | rfl | rfl | rfl | rfl | rfl | rfl | rfl | rfl | rfl | rfl | rfl | rfl | rfl | rfl | rfl | rfl | rfl | rfl | rfl | rfl | rfl | rfl | rfl | rfl | rfl | rfl | rfl | rfl | rfl | rfl | rfl | rfl | rfl | rfl | rfl | rfl | rfl | rfl | rfl | rfl | rfl | rfl | rfl | rfl | rfl | rfl | rfl | rfl | rfl | rfl
    · exact c0 hz
    · exact c1 hz
    · exact c2 hz
    · exact c3 hz
    · exact c4 hz
    · exact c5 hz
    · exact c6 hz
    · exact c7 hz
    · exact c8 hz
    · exact c9 hz
    · exact c10 hz
    · exact c11 hz
    · exact c12 hz
    · exact c13 hz
    · exact c14 hz
    · exact c15 hz
    · exact c16 hz
    · exact c17 hz
    · exact c18 hz
    · exact c19 hz
    · exact c20 hz
    · exact c21 hz
    · exact c22 hz
    · exact c23 hz
    · exact c24 hz
    · exact c25 hz
    · exact c26 hz
    · exact c27 hz
    · exact c28 hz
    · exact c29 hz
    · exact c30 hz
    · exact c31 hz
    · exact c32 hz
    · exact c33 hz
    · exact c34 hz
    · exact c35 hz
    · exact c36 hz
    · exact c37 hz
    · exact c38 hz
    · exact c39 hz
    · exact c40 hz
    · exact c41 hz
    · exact c42 hz
    · exact c43 hz
    · exact c44 hz
    · exact c45 hz
    · exact c46 hz
    · exact c47 hz
    · exact c48 hz
    · exact c49 hz
    · exact c50 hz
    · exact c51 hz
    · exact c52 hz
    · exact c53 hz
    · exact c54 hz
    · exact c55 hz
    · exact c56 hz
    · exact c57 hz
    · exact c58 hz
  refine lv_tableOut (tgt := 2391) hx hb dL_law_33 (by by_cases h : z.toInt < 0; exact Or.inl h; by_cases h2 : 58 < z.toInt; exact Or.inr h2; exact absurd rfl (zr z.toInt (by omega) (by omega))) (by decide) ?_
  exact kk _ _ _ _ _ _ hli
end JN14_0
section JN14_1
/-! ===== the law from its entry ===== -/
section LN
variable {p : Program} {l : Launch} {e : Env} {R : Room} {s : State} {m : MethodId} {args : Array Value} {below : List Frame} {meth : Method} {c : Code} {H : Heap} {locs : List Loc} {cells slots : Nat} {Q : State → Prop} {cc bytes : ByteArray} {nL maxL : Nat} {own : String} {Γ : hp_G} {α0 α : hp_T} {Iv : hp_T → hp_T → Prop} {pc pc' : Nat} {ls : Array Slot} {rest st : List Value} {κ index N b n d' mc ms : Nat} {y : MethodName} {As : List Value}
theorem l_newZ (C : hp_C Γ p m c cc nL s args own) (B : hp_B Γ Iv s α0 α H locs) (hcl : Cond.classLink own index (hp_q κ).1 ∈ lw_u) (hit : Cond.instantiable (hp_q κ).1 (hp_q κ).2.2 ∈ lw_u) (hiz : Cond.initialized (hp_q κ).1 ∈ lw_u) (hq : vwCl[κ - 1]? = some (hp_q κ)) (hin : ∀ w ∈ u_ws (hp_q κ).1 (hp_q κ).2.1 (hp_q κ).2.2, w ∈ lw_u) (hty : ∀ j, j < (hp_q κ).2.2 → parseFieldDescriptor ((hp_q κ).2.1 j).2.2.1 = some (hp_ty κ j)) (hdf : ∀ j, j < (hp_q κ).2.2 → defaultValue (hp_ty κ j) = vp_V ((hp_tg (100 + κ)).map hp_dv) j) (hκ : 1 ≤ κ) (hic : hp_isC (100 + κ) = true) (hN : (hp_q κ).2.2 = N) (hcc : cells + 1 ≤ R.cells) (hss : slots + N ≤ R.slots) (hdg : decode cc pc = .ok (.new index, 3)) (hpc : pc + 3 = pc') (hiv : ∀ h, hp_K α h = 0 → Iv α0 (hp_nw α h (100 + κ)))
    (kk : ∀ (β : hp_T) (h : Nat) (H1 : Heap), hp_K α h = 0 → h = H.size → H1.size = H.size + 1 → β = hp_nw α h (100 + κ) → hp_B Γ Iv s α0 β H1 locs → W p l e R s m args below meth c H1 locs (cells + 1) (slots + N) Q (F0 m pc' ls (.ref h :: rest))) : W p l e R s m args below meth c H locs cells slots Q (F0 m pc ls rest) := by
  obtain ⟨⟨hx, hb, hml, hown, hts⟩, hK, -⟩ := C
  subst hpc; subst hN
  have hKn := hK.1 _ _ hq
  refine W.newcK hx hb hown (hts _ hcl) (hts _ hit) (hts _ hiz) rfl hdg hcc hss hKn.2.1 rfl fun H1 kC hkC e1 z1 o1 => ?_
  refine kk _ H.size H1 B.1.fresh rfl z1 rfl ⟨B.1.nw z1 o1 ?_, B.2.1.grow z1 o1, hiv _ B.1.fresh⟩
  rw [hp_ce_c hic, hp_b_100, nw_fv _ _ (tg_no1 hκ)]
  exact ⟨_, hq, (u_born (hp_ty κ) hts hin hKn hkC e1 hty).to hdf⟩
theorem l_runIZ {Qc : Array Value → State → Outcome → State → Prop} (C : hp_C Γ p m c cc nL s args own) (B : hp_B Γ Iv s α0 α H locs) (hM : Met l y (hp_ws y bytes maxL none) (hp_rm d' mc ms) (hp_PcH Γ α H (.ref b :: As)) Qc mc ms (hp_A Γ)) (hB : hp_LB y bytes maxL none n) (hy : y.name = "<init>") (hI : Cond.instanceMethod y ∈ lw_u) (hL : hp_LK own index y) (hRf : d' + 1 ≤ R.frames) (hRl : 8 + (maxL + 11) + 45 * d' ≤ R.locals) (hff : cells + mc ≤ R.cells ∧ slots + ms ≤ R.slots) (hlen : As.length = n) (hsz : ls.size = nL) (hst : st = As.reverse ++ .ref b :: rest) (hcat : (rest.map fun v => v.category).sum ≤ 8) (hdg : decode cc pc = .ok (.invokespecial index, 3)) :
    va_Run p l e R s m args below meth c H locs cells slots mc ms (F0 m pc ls st) rest (Qc (Value.ref b :: As).toArray) (hp_A Γ) := by
  obtain ⟨h1, h2, h3, h4⟩ := hB
  have hts := C.1.2.2.2.2
  have hp : PreS s H (hp_PcH Γ α H (.ref b :: As)) (.ref b :: As) := ⟨hp_blindH Γ α H _, fun U hU hW => ⟨rfl, hU, by rw [hU]; exact B.1, C.2.warm hW⟩⟩
  have hRR : (hp_rm d' mc ms).frames + 1 ≤ R.frames ∧ 8 + (maxL + 11) + (hp_rm d' mc ms).locals ≤ R.locals := ⟨hRf, hRl⟩
  rcases hL with hL | ⟨host, hL⟩
  · exact va_runI (As := As) (rest := rest) (n := n) C.1 hM ⟨callB_of n hts (hp_gs h1) rfl rfl rfl (hts _ h2) (hts _ hL) h4 hRR, hy, hts _ hI⟩ hp rfl hlen hsz hst (lv_room (m := m) (pc := pc) (ls := ls) (rest := st) hcat) hdg hff
  · exact va_runIN (As := As) (rest := rest) (n := n) C.1 hM ⟨va_cnB n hts (hp_gs h1) rfl rfl rfl (C.2.2.1 _ hL) (hts _ h2) h4 hRR, hy, hts _ hI⟩ hp rfl hlen hsz hst (lv_room (m := m) (pc := pc) (ls := ls) (rest := st) hcat) hdg hff
theorem l_runI {Qc : Array Value → State → Outcome → State → Prop} (C : hp_C Γ p m c cc nL s args own) (B : hp_B Γ Iv s α0 α H locs) (hM : Met l y (hp_ws y bytes maxL none) (hp_rm d' mc ms) (hp_Pc Γ α (.ref b :: As)) Qc mc ms (hp_A Γ)) (hB : hp_LB y bytes maxL none n) (hy : y.name = "<init>") (hI : Cond.instanceMethod y ∈ lw_u) (hL : hp_LK own index y) (hRf : d' + 1 ≤ R.frames) (hRl : 8 + (maxL + 11) + 45 * d' ≤ R.locals) (hff : cells + mc ≤ R.cells ∧ slots + ms ≤ R.slots) (hlen : As.length = n) (hsz : ls.size = nL) (hst : st = As.reverse ++ .ref b :: rest) (hcat : (rest.map fun v => v.category).sum ≤ 8) (hdg : decode cc pc = .ok (.invokespecial index, 3)) :
    va_Run p l e R s m args below meth c H locs cells slots mc ms (F0 m pc ls st) rest (Qc (Value.ref b :: As).toArray) (hp_A Γ) := by
  obtain ⟨h1, h2, h3, h4⟩ := hB
  have hts := C.1.2.2.2.2
  have hp : PreS s H (hp_Pc Γ α (.ref b :: As)) (.ref b :: As) := ⟨hp_blind Γ α _, fun U hU hW => ⟨rfl, by rw [hU]; exact B.1, C.2.warm hW⟩⟩
  have hRR : (hp_rm d' mc ms).frames + 1 ≤ R.frames ∧ 8 + (maxL + 11) + (hp_rm d' mc ms).locals ≤ R.locals := ⟨hRf, hRl⟩
  rcases hL with hL | ⟨host, hL⟩
  · exact va_runI (As := As) (rest := rest) (n := n) C.1 hM ⟨callB_of n hts (hp_gs h1) rfl rfl rfl (hts _ h2) (hts _ hL) h4 hRR, hy, hts _ hI⟩ hp rfl hlen hsz hst (lv_room (m := m) (pc := pc) (ls := ls) (rest := st) hcat) hdg hff
  · exact va_runIN (As := As) (rest := rest) (n := n) C.1 hM ⟨va_cnB n hts (hp_gs h1) rfl rfl rfl (C.2.2.1 _ hL) (hts _ h2) h4 hRR, hy, hts _ hI⟩ hp rfl hlen hsz hst (lv_room (m := m) (pc := pc) (ls := ls) (rest := st) hcat) hdg hff
end LN
def a_0 : hp_T := (fun _ => 0, fun _ _ => 0, fun _ _ => 0, fun _ _ => 0, fun _ _ => none, fun _ _ _ => 0, fun _ _ _ => 0, fun _ _ _ => none)
theorem gc_rt_1 : ∀ q ∈ gc_rt, 1 ≤ q.1 / 50 := by decide +kernel
theorem gc_0 : GC a_0 := by
  refine ⟨fun φ a => gc_i0 φ, fun φ a h hr => ?_, fun a b h => ?_, fun κ a j b h hq hb => ?_⟩
  · have h1 := gc_rt_1 _ (gc_rk_mem hr)
    have h2 : (0 : Nat) = φ / 50 := h
    simp only at h1
    omega
  · have h2 : (0 : Nat) = 12 := h
    omega
  · have h2 : (none : Option Nat) = some b := hb
    cases h2
set_option maxRecDepth 100000 in
set_option maxHeartbeats 4000000 in
theorem whole_start {p : Program} {e : Env} {s : State} {m : MethodId} {below : List Frame} {meth : Method} {c : Code} (l : Launch) (hflags : l.flags = flags0) {b L : Nat} {xs : Nat → Int32} (hL : L ≤ 3072) (C0 : lw_At p s m meth c b L xs) : W p l e room_1 s m #[Value.ref b] below meth c s.heap [] 0 0 (lw_Z below #[Value.ref b] s) (entryFrame m ([Value.ref b] : List Value).toArray 4) := by
  obtain ⟨hx, hb, hr, hml, hown, hts, hX, hbl, hlocks, hgv⟩ := id C0
  obtain ⟨Γ, hΓ, hKK⟩ := st_KK hts hgv
  have C : hp_C Γ p m c cL_law 4 s #[Value.ref b] RL := ⟨⟨hx, hb, hml, hown, (st_tab hts).1⟩, hKK⟩
  have hbA : ¬ hp_A Γ b := by show ¬ Γ.1.size ≤ b; rw [hΓ]; omega
  have hAs : ∀ q, hp_A Γ q → s.heap.size ≤ q := fun q h => by have h2 : Γ.1.size ≤ q := h; rw [hΓ] at h2; exact h2
  have hl := lv_entry ([.ref b]) (n := 4) (Nat.le_of_ble_eq_true rfl)
  rw [lg_entry_eq]
  generalize (lg_sl ([.ref b]) ++ List.replicate (4 - (lg_sl ([.ref b])).length) Slot.unset).toArray = ls at hl ⊢
  have hl : lv_has ls 4 [(0, .ref b)] := hl
  have B : hp_B Γ (fun _ _ => True) s a_0 a_0 s.heap [] := ⟨⟨by rw [hΓ]; exact Nat.le_refl _, fun q _ => by rw [hΓ], fun a h => absurd rfl h⟩, va_S.rf, trivial⟩
  refine l_newZ (κ := 12) (N := 19) (pc' := 3) C B cl_L_7 it_X11 iz_X11 rfl in_12 tyX11_ok df_12 (by decide) rfl rfl (Nat.le_of_ble_eq_true rfl) (Nat.le_of_ble_eq_true rfl) dL_law_0 rfl (fun _ _ => trivial) (fun β1 x H1 f1 y1 w1 e1 B1 => ?_)
  have g1 : GC β1 := by rw [e1]; exact gc_nw gc_0 f1 (by decide)
  have k1 : hp_K β1 x = 112 := by rw [e1]; exact nw_k
  have z1 : ∀ φ, hp_I β1 φ x = 0 := fun φ => by rw [e1]; exact nw_i
  refine lv_dup hx hb dL_law_3 rfl (hp_n (n := 4) rfl ?_)
  refine q_cvZ (pc' := 7) B1 (l_runIZ (As := []) (rest := [.ref x]) C B1 (u_X11_init Γ l β1 g1 H1 x k1 z1) lb_X11_init rfl li_X11_init lk_L_9 (Nat.le_of_ble_eq_true rfl) (Nat.le_of_ble_eq_true rfl) ⟨Nat.le_of_ble_eq_true rfl, Nat.le_of_ble_eq_true rfl⟩ rfl hl.1 rfl (Nat.le_of_ble_eq_true rfl) dL_law_4) (fun _ _ => trivial) rfl (fun β2 H2 L2 w2 pp2 B2 => ?_)
  have p2 := pp2.1
  have hF : β2 = F_X11_init β1 (x + 1) x := by rw [pp2.2, w1, ← y1]
  refine lv_astore_n (lv' := [(1, .ref x), (0, .ref b)]) hx hb dL_law_7 rfl hl (by decide) rfl (fun ls hl => hp_n (n := 8) rfl ?_)
  refine l_newZ (κ := 13) (N := 48) (pc' := 11) C B2 cl_L_10 it_X12 iz_X12 rfl in_13 tyX12_ok df_13 (by decide) rfl rfl (Nat.le_of_ble_eq_true rfl) (Nat.le_of_ble_eq_true rfl) dL_law_8 rfl (fun _ _ => trivial) (fun β3 y H3 f3 y3 w3 e3 B3 => ?_)
  have g3 : GC β3 := by rw [e3]; exact gc_nw p2.1.1 f3 (by decide)
  have k3 : hp_K β3 y = 113 := by rw [e3]; exact nw_k
  have z3 : ∀ φ, hp_I β3 φ y = 0 := fun φ => by rw [e3]; exact nw_i
  have hxy : x ≠ y := fun q => by rw [← q, p2.2.1] at f3; cases f3
  have s3 : sa β2 β3 x := by rw [e3]; exact sa_nw hxy
  have kx3 : hp_K β3 x = 12 := s3.1.trans p2.2.1
  refine lv_dup hx hb dL_law_11 rfl (hp_n (n := 12) rfl ?_)
  refine q_cv (pc' := 15) B3 (l_runI (As := []) (rest := [.ref y]) C B3 (u_X12_init Γ l β3 g3 y k3 z3) lb_X12_init rfl li_X12_init lk_L_12 (Nat.le_of_ble_eq_true rfl) (Nat.le_of_ble_eq_true rfl) ⟨Nat.le_of_ble_eq_true rfl, Nat.le_of_ble_eq_true rfl⟩ rfl hl.1 rfl (Nat.le_of_ble_eq_true rfl) dL_law_12) (fun _ _ => trivial) rfl (fun β4 H4 L4 p4 B4 => ?_)
  obtain ⟨g4, h4, ρ, σ, hM, hR, hσ⟩ := p4
  have hsC : ∀ q, hp_K β2 q ≠ 0 → saC β2 β4 q := fun q hq => by
    have hqy : q ≠ y := fun e => hq (by rw [e]; exact f3)
    have a1 : sa β2 β3 q := by rw [e3]; exact sa_nw hqy
    have a2 := h4 q hqy (by rw [a1.1]; exact hq)
    exact ⟨a2.1.trans a1.1, fun φ hφ => (a2.2.1 φ hφ).trans (a1.2.1 φ), fun φ => (a2.2.2.1 φ).trans (a1.2.2.2.1 φ), fun φ => (a2.2.2.2.1 φ).trans (a1.2.2.2.2.1 φ), fun κ j hκ => (a2.2.2.2.2.1 κ j hκ).trans (a1.2.2.2.2.2.1 κ j), fun κ j => (a2.2.2.2.2.2 κ j).trans (a1.2.2.2.2.2.2.2 κ j)⟩
  obtain ⟨kx4, ix4, rx4, nx4, -, -⟩ := h4 x hxy (by rw [kx3]; decide)
  refine lv_astore_n (lv' := [(2, .ref y), (1, .ref x), (0, .ref b)]) hx hb dL_law_15 rfl hl (by decide) rfl (fun ls hl => hp_n (n := 16) rfl ?_)
  refine lv_iconst (v := 0) hx hb dL_law_16 (by decide) (hp_n (n := 17) rfl ?_)
  refine lv_istore_n (lv' := [(3, .int 0), (2, .ref y), (1, .ref x), (0, .ref b)]) hx hb dL_law_17 rfl hl (by decide) rfl (fun ls hl => hp_n (n := 18) rfl ?_)
  refine W.widen (k := 977) (n := 17252) (Nat.le_of_ble_eq_true rfl) (Nat.le_of_ble_eq_true rfl) ?_
  have nx : hp_N β4 618 x = none := (nx4 618).trans ((s3.2.2.2.2.1 618).trans p2.2.2.2)
  exact l_loop C hX hbl hbA hL hAs hr hlocks _ β4 σ H4 L4 977 17252 ⟨⟨B4.1, B4.2.1, trivial⟩, g4, kx4.trans kx3, hM, hR, ⟨LX_C p2.1.1 p2.2.1 (by rw [hF]; exact LX_0 β1 x σ hR hσ) hsC, CX_C p2.1.1 p2.2.1 (by rw [hF]; exact (LX_0 β1 x σ hR hσ).2.1) (by rw [hF]; exact CX_0 β1 x σ hσ (LX_0 β1 x σ hR hσ).2.1) hsC⟩, Or.inl ⟨nx, rfl, rfl⟩⟩ 0 (by decide) (by rw [show (0 : Int32).toInt = 0 from rfl]; omega) rfl ls (lv_sub hl [3, 2, 1, 0] rfl)
end JN14_1
