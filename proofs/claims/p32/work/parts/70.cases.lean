set_option maxRecDepth 100000 in
set_option maxHeartbeats 4000000 in
theorem lc_0 {p : Program} {l : Launch} {e : Env} {s : State} {m : MethodId} {below : List Frame} {meth : Method} {c : Code} {Γ : hp_G} {b Ln x y : Nat} {xs : Nat → Int32} {ρ : Nat → Nat} (C : hp_C Γ p m c cL_law 4 s #[Value.ref b] RL) (hX : va_X b Ln xs s s.heap) (hbl : b < s.heap.size) (hbA : ¬ hp_A Γ b) (hLn : Ln ≤ 3072) {α : hp_T} {σ : ms_T} {H : Heap} {L : List Loc} {cells slots : Nat} (hli : li Γ s x y ρ α σ H L cells slots) (i : Int32) (hi : 0 ≤ i.toInt) (hi2 : i.toInt + 6 ≤ (Ln : Int)) (ls : Array Slot) (hl : lv_has ls 4 [(0, .ref b), (1, .ref x), (2, .ref y), (3, .int i)]) (kk : ∀ (α : hp_T) (σ : ms_T) (H : Heap) (L : List Loc) (cells slots : Nat), li Γ s x y ρ α σ H L cells slots → W p l e room_1 s m #[Value.ref b] below meth c H L cells slots (lw_Z below #[Value.ref b] s) (F0 m 2391 ls [])) : W p l e room_1 s m #[Value.ref b] below meth c H L cells slots (lw_Z below #[Value.ref b] s) (F0 m 284 ls []) := by
  have hx := C.1.1
  have hb := C.1.2.1
  have hi3 : (Ln : Int) ≤ 3072 := by omega
  have hcs : cells ≤ 986 ∧ slots ≤ 148568 := by rcases hli.2.2.2.2.2.2 with ⟨-, h1, h2⟩ | ⟨-, h1, h2⟩ <;> omega
  obtain ⟨hB, hG, hKx, hM, hR, hE, hRo⟩ := id hli
  refine lv_aload_n hx hb dL_law_284 rfl (lv_at hl 1 rfl) (hp_n (n := 285) rfl ?_)
  have hE0 := hE
  refine q_ci (pc' := 288) hB (l_runV (As := []) (rest := []) C hB (t_X11_status Γ l α hG x hKx ) lb_X11_status lv_X11_status lk_L_13 hKx (Nat.le_of_ble_eq_true rfl) (Nat.le_of_ble_eq_true rfl) ⟨Nat.le_trans (Nat.add_le_add_right hcs.1 _) (Nat.le_of_ble_eq_true rfl), Nat.le_trans (Nat.add_le_add_right hcs.2 _) (Nat.le_of_ble_eq_true rfl)⟩ rfl hl.1 rfl (Nat.le_of_ble_eq_true rfl) dL_law_285) (fun _ _ _ => trivial) rfl (fun r1 β H1 L1 p1 B1 => ?_)
  have hli1 := li_eq hli B1 p1
  refine lv_pop hx hb dL_law_288 rfl (hp_n (n := 289) rfl ?_)
  obtain ⟨hB, hG, hKx, hM, hR, hE, hRo⟩ := id hli1
  have hcs : cells + 0 ≤ 986 ∧ slots + 0 ≤ 148568 := by rcases hRo with ⟨-, h1, h2⟩ | ⟨-, h1, h2⟩ <;> omega
  refine lv_aload_n hx hb dL_law_289 rfl (lv_at hl 2 rfl) (hp_n (n := 290) rfl ?_)
  obtain ⟨⟨r2, τ⟩, hq, hp⟩ := ws_pr (ws_pr (s_status 70000 (by decide) σ hR ) (z_X12_status kq_rf)) (x_X12_status kf_rf)
  refine q_ci (pc' := 293) hB (l_runV (As := []) (rest := []) C hB (m_X12_status 70000 Γ l _ y ρ σ hM  (r2, τ) hq) lb_X12_status lv_X12_status lk_L_17 hM.1 (Nat.le_of_ble_eq_true rfl) (Nat.le_of_ble_eq_true rfl) ⟨Nat.le_trans (Nat.add_le_add_right hcs.1 _) (Nat.le_of_ble_eq_true rfl), Nat.le_trans (Nat.add_le_add_right hcs.2 _) (Nat.le_of_ble_eq_true rfl)⟩ rfl hl.1 rfl (Nat.le_of_ble_eq_true rfl) dL_law_290) (fun _ _ _ => trivial) rfl (fun r3 γ H2 L2 p2 B2 => ?_)
  have hli2 := li0_mo (li_0 hli1) B2 p2.2.1 p2.2.2 hp.1.1.1 (lxc_kq hli1.2.2.2.2.2.1 p2.2.1 hp.1.2 hp.2 hp.1.1.2 hp.1.1.1)
  refine lv_pop hx hb dL_law_293 rfl (hp_n (n := 294) rfl ?_)
  refine lv_goto (tgt := 2391) hx hb dL_law_294 (by decide) ?_
  exact kk _ _ _ _ _ _ hli2
set_option maxRecDepth 100000 in
set_option maxHeartbeats 4000000 in
theorem lc_1 {p : Program} {l : Launch} {e : Env} {s : State} {m : MethodId} {below : List Frame} {meth : Method} {c : Code} {Γ : hp_G} {b Ln x y : Nat} {xs : Nat → Int32} {ρ : Nat → Nat} (C : hp_C Γ p m c cL_law 4 s #[Value.ref b] RL) (hX : va_X b Ln xs s s.heap) (hbl : b < s.heap.size) (hbA : ¬ hp_A Γ b) (hLn : Ln ≤ 3072) {α : hp_T} {σ : ms_T} {H : Heap} {L : List Loc} {cells slots : Nat} (hli : li Γ s x y ρ α σ H L cells slots) (i : Int32) (hi : 0 ≤ i.toInt) (hi2 : i.toInt + 6 ≤ (Ln : Int)) (ls : Array Slot) (hl : lv_has ls 4 [(0, .ref b), (1, .ref x), (2, .ref y), (3, .int i)]) (kk : ∀ (α : hp_T) (σ : ms_T) (H : Heap) (L : List Loc) (cells slots : Nat), li Γ s x y ρ α σ H L cells slots → W p l e room_1 s m #[Value.ref b] below meth c H L cells slots (lw_Z below #[Value.ref b] s) (F0 m 2391 ls [])) : W p l e room_1 s m #[Value.ref b] below meth c H L cells slots (lw_Z below #[Value.ref b] s) (F0 m 297 ls []) := by
  have hx := C.1.1
  have hb := C.1.2.1
  have hi3 : (Ln : Int) ≤ 3072 := by omega
  have hcs : cells ≤ 986 ∧ slots ≤ 148568 := by rcases hli.2.2.2.2.2.2 with ⟨-, h1, h2⟩ | ⟨-, h1, h2⟩ <;> omega
  obtain ⟨hB, hG, hKx, hM, hR, hE, hRo⟩ := id hli
  refine lv_aload_n hx hb dL_law_297 rfl (lv_at hl 1 rfl) (hp_n (n := 298) rfl ?_)
  refine l_arg (j := 1) (nj := 1) (q0 := 0) (q3 := 3) (pc' := 303) C hB hX hbl hbA hl rfl rfl (by decide) hi hi2 hi3 dL_law_298 dL_law_299 rfl dL_law_300 dL_law_301 dL_law_302 rfl rfl rfl rfl rfl (fun u1 eu1 => ?_)
  refine l_arg (j := 2) (nj := 2) (q0 := 0) (q3 := 3) (pc' := 308) C hB hX hbl hbA hl rfl rfl (by decide) hi hi2 hi3 dL_law_303 dL_law_304 rfl dL_law_305 dL_law_306 dL_law_307 rfl rfl rfl rfl rfl (fun u2 eu2 => ?_)
  refine l_arg (j := 3) (nj := 3) (q0 := 0) (q3 := 3) (pc' := 313) C hB hX hbl hbA hl rfl rfl (by decide) hi hi2 hi3 dL_law_308 dL_law_309 rfl dL_law_310 dL_law_311 dL_law_312 rfl rfl rfl rfl rfl (fun u3 eu3 => ?_)
  refine l_arg (j := 4) (nj := 4) (q0 := 0) (q3 := 3) (pc' := 318) C hB hX hbl hbA hl rfl rfl (by decide) hi hi2 hi3 dL_law_313 dL_law_314 rfl dL_law_315 dL_law_316 dL_law_317 rfl rfl rfl rfl rfl (fun u4 eu4 => ?_)
  refine l_arg (j := 5) (nj := 5) (q0 := 0) (q3 := 3) (pc' := 323) C hB hX hbl hbA hl rfl rfl (by decide) hi hi2 hi3 dL_law_318 dL_law_319 rfl dL_law_320 dL_law_321 dL_law_322 rfl rfl rfl rfl rfl (fun u5 eu5 => ?_)
  have hE0 := hE
  obtain ⟨⟨rm, τm⟩, hqm, hpm⟩ := s_feed 70000 (by decide) σ hR u1 u2 u3 u4 u5
  obtain ⟨res1, hq1, hv1, hv2, hv3, hv4⟩ := r_feed 70000 (by decide) hE.1.2.1.2.2.1 hE.1.2.2.2.2.1 hR.1.2.1.1 hR.1.2.1.2 u1 u2 u3 u4 u5 (rm, τm) hqm
  refine q_ci (pc' := 326) hB (l_runV (As := [.int u1, .int u2, .int u3, .int u4, .int u5]) (rest := []) C hB (n_X11_feed 70000 Γ l α hG x hKx u1 u2 u3 u4 u5 res1 hq1) lb_X11_feed lv_X11_feed lk_L_18 hKx (Nat.le_of_ble_eq_true rfl) (Nat.le_of_ble_eq_true rfl) ⟨Nat.le_trans (Nat.add_le_add_right hcs.1 _) (Nat.le_of_ble_eq_true rfl), Nat.le_trans (Nat.add_le_add_right hcs.2 _) (Nat.le_of_ble_eq_true rfl)⟩ rfl hl.1 rfl (Nat.le_of_ble_eq_true rfl) dL_law_323) (fun _ _ _ => trivial) rfl (fun r1 β H1 L1 p1 B1 => ?_)
  have hli1 := li0_cw hli B1 p1.2.2 (by decide)
  refine lv_pop hx hb dL_law_326 rfl (hp_n (n := 327) rfl ?_)
  obtain ⟨hB, hG, hKx, hM, hR, hE, hRo⟩ := id hli1
  have hcs : cells + 0 ≤ 986 ∧ slots + 0 ≤ 148568 := by rcases hRo with ⟨-, h1, h2⟩ | ⟨-, h1, h2⟩ <;> omega
  refine lv_aload_n hx hb dL_law_327 rfl (lv_at hl 2 rfl) (hp_n (n := 328) rfl ?_)
  refine l_arg (j := 1) (nj := 1) (q0 := 0) (q3 := 3) (pc' := 333) C hB hX hbl hbA hl rfl rfl (by decide) hi hi2 hi3 dL_law_328 dL_law_329 rfl dL_law_330 dL_law_331 dL_law_332 rfl rfl rfl rfl rfl (fun w1 ew1 => ?_)
  refine l_arg (j := 2) (nj := 2) (q0 := 0) (q3 := 3) (pc' := 338) C hB hX hbl hbA hl rfl rfl (by decide) hi hi2 hi3 dL_law_333 dL_law_334 rfl dL_law_335 dL_law_336 dL_law_337 rfl rfl rfl rfl rfl (fun w2 ew2 => ?_)
  refine l_arg (j := 3) (nj := 3) (q0 := 0) (q3 := 3) (pc' := 343) C hB hX hbl hbA hl rfl rfl (by decide) hi hi2 hi3 dL_law_338 dL_law_339 rfl dL_law_340 dL_law_341 dL_law_342 rfl rfl rfl rfl rfl (fun w3 ew3 => ?_)
  refine l_arg (j := 4) (nj := 4) (q0 := 0) (q3 := 3) (pc' := 348) C hB hX hbl hbA hl rfl rfl (by decide) hi hi2 hi3 dL_law_343 dL_law_344 rfl dL_law_345 dL_law_346 dL_law_347 rfl rfl rfl rfl rfl (fun w4 ew4 => ?_)
  refine l_arg (j := 5) (nj := 5) (q0 := 0) (q3 := 3) (pc' := 353) C hB hX hbl hbA hl rfl rfl (by decide) hi hi2 hi3 dL_law_348 dL_law_349 rfl dL_law_350 dL_law_351 dL_law_352 rfl rfl rfl rfl rfl (fun w5 ew5 => ?_)
  rw [← eu1] at ew1; have ew1 := ew1.symm; subst ew1
  rw [← eu2] at ew2; have ew2 := ew2.symm; subst ew2
  rw [← eu3] at ew3; have ew3 := ew3.symm; subst ew3
  rw [← eu4] at ew4; have ew4 := ew4.symm; subst ew4
  rw [← eu5] at ew5; have ew5 := ew5.symm; subst ew5
  obtain ⟨⟨r2, τ⟩, hq, hp⟩ := ws_pr (s_feed 70000 (by decide) σ hR u1 u2 u3 u4 u5) (x_X12_feed kf_rf)
  have hqe := Option.some.inj (hqm.symm.trans hq)
  have hqr : r2 = rm := (congrArg Prod.fst hqe).symm
  have hqt : τ = τm := (congrArg Prod.snd hqe).symm
  subst hqr
  subst hqt
  refine q_ci (pc' := 356) hB (l_runV (As := [.int u1, .int u2, .int u3, .int u4, .int u5]) (rest := []) C hB (m_X12_feed 70000 Γ l _ y ρ σ hM u1 u2 u3 u4 u5 (r2, τ) hq) lb_X12_feed lv_X12_feed lk_L_22 hM.1 (Nat.le_of_ble_eq_true rfl) (Nat.le_of_ble_eq_true rfl) ⟨Nat.le_trans (Nat.add_le_add_right hcs.1 _) (Nat.le_of_ble_eq_true rfl), Nat.le_trans (Nat.add_le_add_right hcs.2 _) (Nat.le_of_ble_eq_true rfl)⟩ rfl hl.1 rfl (Nat.le_of_ble_eq_true rfl) dL_law_353) (fun _ _ _ => trivial) rfl (fun r3 γ H2 L2 p2 B2 => ?_)
  have hli2 := li0_mo hli1 B2 p2.2.1 p2.2.2 hp.1.1 ⟨LX_mo (by rw [p1.2.1]; exact LX_tape hli.2.2.2.2.2.1.1 hv2 hv3 hv4) p2.2.1, CX_k (CX_cw hE0.2 p1.2.2 (by decide)) p2.2.1 hp.2⟩
  refine lv_pop hx hb dL_law_356 rfl (hp_n (n := 357) rfl ?_)
  refine lv_goto (tgt := 2391) hx hb dL_law_357 (by decide) ?_
  exact kk _ _ _ _ _ _ hli2
set_option maxRecDepth 100000 in
set_option maxHeartbeats 4000000 in
theorem lc_2 {p : Program} {l : Launch} {e : Env} {s : State} {m : MethodId} {below : List Frame} {meth : Method} {c : Code} {Γ : hp_G} {b Ln x y : Nat} {xs : Nat → Int32} {ρ : Nat → Nat} (C : hp_C Γ p m c cL_law 4 s #[Value.ref b] RL) (hX : va_X b Ln xs s s.heap) (hbl : b < s.heap.size) (hbA : ¬ hp_A Γ b) (hLn : Ln ≤ 3072) {α : hp_T} {σ : ms_T} {H : Heap} {L : List Loc} {cells slots : Nat} (hli : li Γ s x y ρ α σ H L cells slots) (i : Int32) (hi : 0 ≤ i.toInt) (hi2 : i.toInt + 6 ≤ (Ln : Int)) (ls : Array Slot) (hl : lv_has ls 4 [(0, .ref b), (1, .ref x), (2, .ref y), (3, .int i)]) (kk : ∀ (α : hp_T) (σ : ms_T) (H : Heap) (L : List Loc) (cells slots : Nat), li Γ s x y ρ α σ H L cells slots → W p l e room_1 s m #[Value.ref b] below meth c H L cells slots (lw_Z below #[Value.ref b] s) (F0 m 2391 ls [])) : W p l e room_1 s m #[Value.ref b] below meth c H L cells slots (lw_Z below #[Value.ref b] s) (F0 m 360 ls []) := by
  have hx := C.1.1
  have hb := C.1.2.1
  have hi3 : (Ln : Int) ≤ 3072 := by omega
  have hcs : cells ≤ 986 ∧ slots ≤ 148568 := by rcases hli.2.2.2.2.2.2 with ⟨-, h1, h2⟩ | ⟨-, h1, h2⟩ <;> omega
  obtain ⟨hB, hG, hKx, hM, hR, hE, hRo⟩ := id hli
  refine lv_aload_n hx hb dL_law_360 rfl (lv_at hl 1 rfl) (hp_n (n := 361) rfl ?_)
  refine l_arg (j := 1) (nj := 1) (q0 := 0) (q3 := 3) (pc' := 366) C hB hX hbl hbA hl rfl rfl (by decide) hi hi2 hi3 dL_law_361 dL_law_362 rfl dL_law_363 dL_law_364 dL_law_365 rfl rfl rfl rfl rfl (fun u1 eu1 => ?_)
  have hE0 := hE
  obtain ⟨⟨rm, τm⟩, hqm, hpm⟩ := s_load 70000 (by decide) σ hR u1
  obtain ⟨res1, hq1, hv1, hv2, hv3, hv4⟩ := r_load 70000 (by decide) α x σ hR (LXW_LXp hG hE.1 hE.2) u1 (rm, τm) hqm
  refine q_ci (pc' := 369) hB (l_runV (As := [.int u1]) (rest := []) C hB (n_X11_load 70000 Γ l α hG x hKx u1 res1 hq1) lb_X11_load lv_X11_load lk_L_23 hKx (Nat.le_of_ble_eq_true rfl) (Nat.le_of_ble_eq_true rfl) ⟨Nat.le_trans (Nat.add_le_add_right hcs.1 _) (Nat.le_of_ble_eq_true rfl), Nat.le_trans (Nat.add_le_add_right hcs.2 _) (Nat.le_of_ble_eq_true rfl)⟩ rfl hl.1 rfl (Nat.le_of_ble_eq_true rfl) dL_law_366) (fun _ _ _ => trivial) rfl (fun r1 β H1 L1 p1 B1 => ?_)
  have hli1 := li0_cw hli B1 p1.2.2 (by decide)
  refine lv_pop hx hb dL_law_369 rfl (hp_n (n := 370) rfl ?_)
  obtain ⟨hB, hG, hKx, hM, hR, hE, hRo⟩ := id hli1
  have hcs : cells + 0 ≤ 986 ∧ slots + 0 ≤ 148568 := by rcases hRo with ⟨-, h1, h2⟩ | ⟨-, h1, h2⟩ <;> omega
  refine lv_aload_n hx hb dL_law_370 rfl (lv_at hl 2 rfl) (hp_n (n := 371) rfl ?_)
  refine l_arg (j := 1) (nj := 1) (q0 := 0) (q3 := 3) (pc' := 376) C hB hX hbl hbA hl rfl rfl (by decide) hi hi2 hi3 dL_law_371 dL_law_372 rfl dL_law_373 dL_law_374 dL_law_375 rfl rfl rfl rfl rfl (fun w1 ew1 => ?_)
  rw [← eu1] at ew1; have ew1 := ew1.symm; subst ew1
  obtain ⟨⟨r2, τ⟩, hq, hp⟩ := s_load 70000 (by decide) σ hR u1
  have hqe := Option.some.inj (hqm.symm.trans hq)
  have hqr : r2 = rm := (congrArg Prod.fst hqe).symm
  have hqt : τ = τm := (congrArg Prod.snd hqe).symm
  subst hqr
  subst hqt
  refine q_ci (pc' := 379) hB (l_runV (As := [.int u1]) (rest := []) C hB (m_X12_load 70000 Γ l _ y ρ σ hM u1 (r2, τ) hq) lb_X12_load lv_X12_load lk_L_27 hM.1 (Nat.le_of_ble_eq_true rfl) (Nat.le_of_ble_eq_true rfl) ⟨Nat.le_trans (Nat.add_le_add_right hcs.1 _) (Nat.le_of_ble_eq_true rfl), Nat.le_trans (Nat.add_le_add_right hcs.2 _) (Nat.le_of_ble_eq_true rfl)⟩ rfl hl.1 rfl (Nat.le_of_ble_eq_true rfl) dL_law_376) (fun _ _ _ => trivial) rfl (fun r3 γ H2 L2 p2 B2 => ?_)
  have hli2 := li0_mo hli1 B2 p2.2.1 p2.2.2 hp.1 ⟨LX_mo (by rw [p1.2.1]; exact LX_load hE0.1 hv2 hv3 hv4 hp.1.2) p2.2.1, CX_m (by rw [p1.2.1]; exact CX_load hE0.2 hv2 hv3) p2.2.1⟩
  refine lv_pop hx hb dL_law_379 rfl (hp_n (n := 380) rfl ?_)
  refine lv_goto (tgt := 2391) hx hb dL_law_380 (by decide) ?_
  exact kk _ _ _ _ _ _ hli2
set_option maxRecDepth 100000 in
set_option maxHeartbeats 4000000 in
theorem lc_3 {p : Program} {l : Launch} {e : Env} {s : State} {m : MethodId} {below : List Frame} {meth : Method} {c : Code} {Γ : hp_G} {b Ln x y : Nat} {xs : Nat → Int32} {ρ : Nat → Nat} (C : hp_C Γ p m c cL_law 4 s #[Value.ref b] RL) (hX : va_X b Ln xs s s.heap) (hbl : b < s.heap.size) (hbA : ¬ hp_A Γ b) (hLn : Ln ≤ 3072) {α : hp_T} {σ : ms_T} {H : Heap} {L : List Loc} {cells slots : Nat} (hli : li Γ s x y ρ α σ H L cells slots) (i : Int32) (hi : 0 ≤ i.toInt) (hi2 : i.toInt + 6 ≤ (Ln : Int)) (ls : Array Slot) (hl : lv_has ls 4 [(0, .ref b), (1, .ref x), (2, .ref y), (3, .int i)]) (kk : ∀ (α : hp_T) (σ : ms_T) (H : Heap) (L : List Loc) (cells slots : Nat), li Γ s x y ρ α σ H L cells slots → W p l e room_1 s m #[Value.ref b] below meth c H L cells slots (lw_Z below #[Value.ref b] s) (F0 m 2391 ls [])) : W p l e room_1 s m #[Value.ref b] below meth c H L cells slots (lw_Z below #[Value.ref b] s) (F0 m 383 ls []) := by
  have hx := C.1.1
  have hb := C.1.2.1
  have hi3 : (Ln : Int) ≤ 3072 := by omega
  have hcs : cells ≤ 986 ∧ slots ≤ 148568 := by rcases hli.2.2.2.2.2.2 with ⟨-, h1, h2⟩ | ⟨-, h1, h2⟩ <;> omega
  obtain ⟨hB, hG, hKx, hM, hR, hE, hRo⟩ := id hli
  refine lv_aload_n hx hb dL_law_383 rfl (lv_at hl 1 rfl) (hp_n (n := 384) rfl ?_)
  refine l_arg (j := 1) (nj := 1) (q0 := 0) (q3 := 3) (pc' := 389) C hB hX hbl hbA hl rfl rfl (by decide) hi hi2 hi3 dL_law_384 dL_law_385 rfl dL_law_386 dL_law_387 dL_law_388 rfl rfl rfl rfl rfl (fun u1 eu1 => ?_)
  have hE0 := hE
  obtain ⟨⟨rm, τm⟩, hqm, hpm⟩ := s_hear 70000 (by decide) σ hR u1
  obtain ⟨res1, hq1, hv1⟩ := r_hear 70000 (by decide) α x σ hR hG hE.1.2.1 hE.2.1.1 (RWX_Z hG hE.1.2.2.1) hE.1.2.2.2.2.1 u1 (rm, τm) hqm
  refine q_ci (pc' := 392) hB (l_runV (As := [.int u1]) (rest := []) C hB (n_X11_hear 70000 Γ l α hG x hKx u1 res1 hq1) lb_X11_hear lv_X11_hear lk_L_28 hKx (Nat.le_of_ble_eq_true rfl) (Nat.le_of_ble_eq_true rfl) ⟨Nat.le_trans (Nat.add_le_add_right hcs.1 _) (Nat.le_of_ble_eq_true rfl), Nat.le_trans (Nat.add_le_add_right hcs.2 _) (Nat.le_of_ble_eq_true rfl)⟩ rfl hl.1 rfl (Nat.le_of_ble_eq_true rfl) dL_law_389) (fun _ _ _ => trivial) rfl (fun r1 β H1 L1 p1 B1 => ?_)
  have hli1 := li0_cw hli B1 p1.2.2 (by decide)
  refine lv_pop hx hb dL_law_392 rfl (hp_n (n := 393) rfl ?_)
  obtain ⟨hB, hG, hKx, hM, hR, hE, hRo⟩ := id hli1
  have hcs : cells + 0 ≤ 986 ∧ slots + 0 ≤ 148568 := by rcases hRo with ⟨-, h1, h2⟩ | ⟨-, h1, h2⟩ <;> omega
  refine lv_aload_n hx hb dL_law_393 rfl (lv_at hl 2 rfl) (hp_n (n := 394) rfl ?_)
  refine l_arg (j := 1) (nj := 1) (q0 := 0) (q3 := 3) (pc' := 399) C hB hX hbl hbA hl rfl rfl (by decide) hi hi2 hi3 dL_law_394 dL_law_395 rfl dL_law_396 dL_law_397 dL_law_398 rfl rfl rfl rfl rfl (fun w1 ew1 => ?_)
  rw [← eu1] at ew1; have ew1 := ew1.symm; subst ew1
  obtain ⟨⟨r2, τ⟩, hq, hp⟩ := s_hear 70000 (by decide) σ hR u1
  have hqe := Option.some.inj (hqm.symm.trans hq)
  have hqr : r2 = rm := (congrArg Prod.fst hqe).symm
  have hqt : τ = τm := (congrArg Prod.snd hqe).symm
  subst hqr
  subst hqt
  refine q_ci (pc' := 402) hB (l_runV (As := [.int u1]) (rest := []) C hB (m_X12_hear 70000 Γ l _ y ρ σ hM u1 (r2, τ) hq) lb_X12_hear lv_X12_hear lk_L_31 hM.1 (Nat.le_of_ble_eq_true rfl) (Nat.le_of_ble_eq_true rfl) ⟨Nat.le_trans (Nat.add_le_add_right hcs.1 _) (Nat.le_of_ble_eq_true rfl), Nat.le_trans (Nat.add_le_add_right hcs.2 _) (Nat.le_of_ble_eq_true rfl)⟩ rfl hl.1 rfl (Nat.le_of_ble_eq_true rfl) dL_law_399) (fun _ _ _ => trivial) rfl (fun r3 γ H2 L2 p2 B2 => ?_)
  have hli2 := li0_mo hli1 B2 p2.2.1 p2.2.2 hp.1 ⟨LX_mo (by rw [p1.2.1]; exact LX_heard hE0.1 hv1 hp.1.2) p2.2.1, CX_m (by rw [p1.2.1]; exact CX_hear hE0.2 hv1) p2.2.1⟩
  refine lv_pop hx hb dL_law_402 rfl (hp_n (n := 403) rfl ?_)
  refine lv_goto (tgt := 2391) hx hb dL_law_403 (by decide) ?_
  exact kk _ _ _ _ _ _ hli2
set_option maxRecDepth 100000 in
set_option maxHeartbeats 4000000 in
theorem lc_4 {p : Program} {l : Launch} {e : Env} {s : State} {m : MethodId} {below : List Frame} {meth : Method} {c : Code} {Γ : hp_G} {b Ln x y : Nat} {xs : Nat → Int32} {ρ : Nat → Nat} (C : hp_C Γ p m c cL_law 4 s #[Value.ref b] RL) (hX : va_X b Ln xs s s.heap) (hbl : b < s.heap.size) (hbA : ¬ hp_A Γ b) (hLn : Ln ≤ 3072) {α : hp_T} {σ : ms_T} {H : Heap} {L : List Loc} {cells slots : Nat} (hli : li Γ s x y ρ α σ H L cells slots) (i : Int32) (hi : 0 ≤ i.toInt) (hi2 : i.toInt + 6 ≤ (Ln : Int)) (ls : Array Slot) (hl : lv_has ls 4 [(0, .ref b), (1, .ref x), (2, .ref y), (3, .int i)]) (kk : ∀ (α : hp_T) (σ : ms_T) (H : Heap) (L : List Loc) (cells slots : Nat), li Γ s x y ρ α σ H L cells slots → W p l e room_1 s m #[Value.ref b] below meth c H L cells slots (lw_Z below #[Value.ref b] s) (F0 m 2391 ls [])) : W p l e room_1 s m #[Value.ref b] below meth c H L cells slots (lw_Z below #[Value.ref b] s) (F0 m 406 ls []) := by
  have hx := C.1.1
  have hb := C.1.2.1
  have hi3 : (Ln : Int) ≤ 3072 := by omega
  have hcs : cells ≤ 986 ∧ slots ≤ 148568 := by rcases hli.2.2.2.2.2.2 with ⟨-, h1, h2⟩ | ⟨-, h1, h2⟩ <;> omega
  obtain ⟨hB, hG, hKx, hM, hR, hE, hRo⟩ := id hli
  refine lv_aload_n hx hb dL_law_406 rfl (lv_at hl 1 rfl) (hp_n (n := 407) rfl ?_)
  refine l_arg (j := 1) (nj := 1) (q0 := 0) (q3 := 3) (pc' := 412) C hB hX hbl hbA hl rfl rfl (by decide) hi hi2 hi3 dL_law_407 dL_law_408 rfl dL_law_409 dL_law_410 dL_law_411 rfl rfl rfl rfl rfl (fun u1 eu1 => ?_)
  have hE0 := hE
  refine q_ci (pc' := 415) hB (l_runV (As := [.int u1]) (rest := []) C hB (t_X11_heard Γ l α hG x hKx u1) lb_X11_heard lv_X11_heard lk_L_32 hKx (Nat.le_of_ble_eq_true rfl) (Nat.le_of_ble_eq_true rfl) ⟨Nat.le_trans (Nat.add_le_add_right hcs.1 _) (Nat.le_of_ble_eq_true rfl), Nat.le_trans (Nat.add_le_add_right hcs.2 _) (Nat.le_of_ble_eq_true rfl)⟩ rfl hl.1 rfl (Nat.le_of_ble_eq_true rfl) dL_law_412) (fun _ _ _ => trivial) rfl (fun r1 β H1 L1 p1 B1 => ?_)
  have hli1 := li_cw hli B1 p1 (by decide)
  refine lv_pop hx hb dL_law_415 rfl (hp_n (n := 416) rfl ?_)
  obtain ⟨hB, hG, hKx, hM, hR, hE, hRo⟩ := id hli1
  have hcs : cells + 0 ≤ 986 ∧ slots + 0 ≤ 148568 := by rcases hRo with ⟨-, h1, h2⟩ | ⟨-, h1, h2⟩ <;> omega
  refine lv_aload_n hx hb dL_law_416 rfl (lv_at hl 2 rfl) (hp_n (n := 417) rfl ?_)
  refine l_arg (j := 1) (nj := 1) (q0 := 0) (q3 := 3) (pc' := 422) C hB hX hbl hbA hl rfl rfl (by decide) hi hi2 hi3 dL_law_417 dL_law_418 rfl dL_law_419 dL_law_420 dL_law_421 rfl rfl rfl rfl rfl (fun w1 ew1 => ?_)
  rw [← eu1] at ew1; have ew1 := ew1.symm; subst ew1
  obtain ⟨⟨r2, τ⟩, hq, hp⟩ := ws_pr (ws_pr (s_heard 70000 (by decide) σ hR u1) (z_X12_heard kq_rf)) (x_X12_heard kf_rf)
  refine q_ci (pc' := 425) hB (l_runV (As := [.int u1]) (rest := []) C hB (m_X12_heard 70000 Γ l _ y ρ σ hM u1 (r2, τ) hq) lb_X12_heard lv_X12_heard lk_L_35 hM.1 (Nat.le_of_ble_eq_true rfl) (Nat.le_of_ble_eq_true rfl) ⟨Nat.le_trans (Nat.add_le_add_right hcs.1 _) (Nat.le_of_ble_eq_true rfl), Nat.le_trans (Nat.add_le_add_right hcs.2 _) (Nat.le_of_ble_eq_true rfl)⟩ rfl hl.1 rfl (Nat.le_of_ble_eq_true rfl) dL_law_422) (fun _ _ _ => trivial) rfl (fun r3 γ H2 L2 p2 B2 => ?_)
  have hli2 := li0_mo (li_0 hli1) B2 p2.2.1 p2.2.2 hp.1.1.1 (lxc_kq hli1.2.2.2.2.2.1 p2.2.1 hp.1.2 hp.2 hp.1.1.2 hp.1.1.1)
  refine lv_pop hx hb dL_law_425 rfl (hp_n (n := 426) rfl ?_)
  refine lv_goto (tgt := 2391) hx hb dL_law_426 (by decide) ?_
  exact kk _ _ _ _ _ _ hli2
set_option maxRecDepth 100000 in
set_option maxHeartbeats 4000000 in
theorem lc_5 {p : Program} {l : Launch} {e : Env} {s : State} {m : MethodId} {below : List Frame} {meth : Method} {c : Code} {Γ : hp_G} {b Ln x y : Nat} {xs : Nat → Int32} {ρ : Nat → Nat} (C : hp_C Γ p m c cL_law 4 s #[Value.ref b] RL) (hX : va_X b Ln xs s s.heap) (hbl : b < s.heap.size) (hbA : ¬ hp_A Γ b) (hLn : Ln ≤ 3072) {α : hp_T} {σ : ms_T} {H : Heap} {L : List Loc} {cells slots : Nat} (hli : li Γ s x y ρ α σ H L cells slots) (i : Int32) (hi : 0 ≤ i.toInt) (hi2 : i.toInt + 6 ≤ (Ln : Int)) (ls : Array Slot) (hl : lv_has ls 4 [(0, .ref b), (1, .ref x), (2, .ref y), (3, .int i)]) (kk : ∀ (α : hp_T) (σ : ms_T) (H : Heap) (L : List Loc) (cells slots : Nat), li Γ s x y ρ α σ H L cells slots → W p l e room_1 s m #[Value.ref b] below meth c H L cells slots (lw_Z below #[Value.ref b] s) (F0 m 2391 ls [])) : W p l e room_1 s m #[Value.ref b] below meth c H L cells slots (lw_Z below #[Value.ref b] s) (F0 m 429 ls []) := by
  have hx := C.1.1
  have hb := C.1.2.1
  have hi3 : (Ln : Int) ≤ 3072 := by omega
  have hcs : cells ≤ 986 ∧ slots ≤ 148568 := by rcases hli.2.2.2.2.2.2 with ⟨-, h1, h2⟩ | ⟨-, h1, h2⟩ <;> omega
  obtain ⟨hB, hG, hKx, hM, hR, hE, hRo⟩ := id hli
  refine lv_aload_n hx hb dL_law_429 rfl (lv_at hl 1 rfl) (hp_n (n := 430) rfl ?_)
  refine l_arg (j := 1) (nj := 1) (q0 := 0) (q3 := 3) (pc' := 435) C hB hX hbl hbA hl rfl rfl (by decide) hi hi2 hi3 dL_law_430 dL_law_431 rfl dL_law_432 dL_law_433 dL_law_434 rfl rfl rfl rfl rfl (fun u1 eu1 => ?_)
  have hE0 := hE
  refine q_ci (pc' := 438) hB (l_runV (As := [.int u1]) (rest := []) C hB (t_X11_fault Γ l α hG x hKx u1) lb_X11_fault lv_X11_fault lk_L_36 hKx (Nat.le_of_ble_eq_true rfl) (Nat.le_of_ble_eq_true rfl) ⟨Nat.le_trans (Nat.add_le_add_right hcs.1 _) (Nat.le_of_ble_eq_true rfl), Nat.le_trans (Nat.add_le_add_right hcs.2 _) (Nat.le_of_ble_eq_true rfl)⟩ rfl hl.1 rfl (Nat.le_of_ble_eq_true rfl) dL_law_435) (fun _ _ _ => trivial) rfl (fun r1 β H1 L1 p1 B1 => ?_)
  have hli1 := li_eq hli B1 p1
  refine lv_pop hx hb dL_law_438 rfl (hp_n (n := 439) rfl ?_)
  obtain ⟨hB, hG, hKx, hM, hR, hE, hRo⟩ := id hli1
  have hcs : cells + 0 ≤ 986 ∧ slots + 0 ≤ 148568 := by rcases hRo with ⟨-, h1, h2⟩ | ⟨-, h1, h2⟩ <;> omega
  refine lv_aload_n hx hb dL_law_439 rfl (lv_at hl 2 rfl) (hp_n (n := 440) rfl ?_)
  refine l_arg (j := 1) (nj := 1) (q0 := 0) (q3 := 3) (pc' := 445) C hB hX hbl hbA hl rfl rfl (by decide) hi hi2 hi3 dL_law_440 dL_law_441 rfl dL_law_442 dL_law_443 dL_law_444 rfl rfl rfl rfl rfl (fun w1 ew1 => ?_)
  rw [← eu1] at ew1; have ew1 := ew1.symm; subst ew1
  obtain ⟨⟨r2, τ⟩, hq, hp⟩ := ws_pr (ws_pr (s_fault 70000 (by decide) σ hR u1) (z_X12_fault kq_rf)) (x_X12_fault kf_rf)
  refine q_ci (pc' := 448) hB (l_runV (As := [.int u1]) (rest := []) C hB (m_X12_fault 70000 Γ l _ y ρ σ hM u1 (r2, τ) hq) lb_X12_fault lv_X12_fault lk_L_39 hM.1 (Nat.le_of_ble_eq_true rfl) (Nat.le_of_ble_eq_true rfl) ⟨Nat.le_trans (Nat.add_le_add_right hcs.1 _) (Nat.le_of_ble_eq_true rfl), Nat.le_trans (Nat.add_le_add_right hcs.2 _) (Nat.le_of_ble_eq_true rfl)⟩ rfl hl.1 rfl (Nat.le_of_ble_eq_true rfl) dL_law_445) (fun _ _ _ => trivial) rfl (fun r3 γ H2 L2 p2 B2 => ?_)
  have hli2 := li0_mo (li_0 hli1) B2 p2.2.1 p2.2.2 hp.1.1.1 (lxc_kq hli1.2.2.2.2.2.1 p2.2.1 hp.1.2 hp.2 hp.1.1.2 hp.1.1.1)
  refine lv_pop hx hb dL_law_448 rfl (hp_n (n := 449) rfl ?_)
  refine lv_goto (tgt := 2391) hx hb dL_law_449 (by decide) ?_
  exact kk _ _ _ _ _ _ hli2
set_option maxRecDepth 100000 in
set_option maxHeartbeats 4000000 in
theorem lc_6 {p : Program} {l : Launch} {e : Env} {s : State} {m : MethodId} {below : List Frame} {meth : Method} {c : Code} {Γ : hp_G} {b Ln x y : Nat} {xs : Nat → Int32} {ρ : Nat → Nat} (C : hp_C Γ p m c cL_law 4 s #[Value.ref b] RL) (hX : va_X b Ln xs s s.heap) (hbl : b < s.heap.size) (hbA : ¬ hp_A Γ b) (hLn : Ln ≤ 3072) {α : hp_T} {σ : ms_T} {H : Heap} {L : List Loc} {cells slots : Nat} (hli : li Γ s x y ρ α σ H L cells slots) (i : Int32) (hi : 0 ≤ i.toInt) (hi2 : i.toInt + 6 ≤ (Ln : Int)) (ls : Array Slot) (hl : lv_has ls 4 [(0, .ref b), (1, .ref x), (2, .ref y), (3, .int i)]) (kk : ∀ (α : hp_T) (σ : ms_T) (H : Heap) (L : List Loc) (cells slots : Nat), li Γ s x y ρ α σ H L cells slots → W p l e room_1 s m #[Value.ref b] below meth c H L cells slots (lw_Z below #[Value.ref b] s) (F0 m 2391 ls [])) : W p l e room_1 s m #[Value.ref b] below meth c H L cells slots (lw_Z below #[Value.ref b] s) (F0 m 452 ls []) := by
  have hx := C.1.1
  have hb := C.1.2.1
  have hi3 : (Ln : Int) ≤ 3072 := by omega
  have hcs : cells ≤ 986 ∧ slots ≤ 148568 := by rcases hli.2.2.2.2.2.2 with ⟨-, h1, h2⟩ | ⟨-, h1, h2⟩ <;> omega
  obtain ⟨hB, hG, hKx, hM, hR, hE, hRo⟩ := id hli
  refine lv_aload_n hx hb dL_law_452 rfl (lv_at hl 1 rfl) (hp_n (n := 453) rfl ?_)
  refine l_arg (j := 1) (nj := 1) (q0 := 0) (q3 := 3) (pc' := 458) C hB hX hbl hbA hl rfl rfl (by decide) hi hi2 hi3 dL_law_453 dL_law_454 rfl dL_law_455 dL_law_456 dL_law_457 rfl rfl rfl rfl rfl (fun u1 eu1 => ?_)
  refine l_arg (j := 2) (nj := 2) (q0 := 0) (q3 := 3) (pc' := 463) C hB hX hbl hbA hl rfl rfl (by decide) hi hi2 hi3 dL_law_458 dL_law_459 rfl dL_law_460 dL_law_461 dL_law_462 rfl rfl rfl rfl rfl (fun u2 eu2 => ?_)
  have hE0 := hE
  obtain ⟨res1, hq1, hv1, hv2⟩ := ws_2 (k_type 70000 (by decide) α x u1 u2) (k_type2 70000 (by decide) α x u1 u2)
  refine q_ci (pc' := 466) hB (l_runV (As := [.int u1, .int u2]) (rest := []) C hB (n_X11_type 70000 Γ l α hG x hKx u1 u2 res1 hq1) lb_X11_type lv_X11_type lk_L_40 hKx (Nat.le_of_ble_eq_true rfl) (Nat.le_of_ble_eq_true rfl) ⟨Nat.le_trans (Nat.add_le_add_right hcs.1 _) (Nat.le_of_ble_eq_true rfl), Nat.le_trans (Nat.add_le_add_right hcs.2 _) (Nat.le_of_ble_eq_true rfl)⟩ rfl hl.1 rfl (Nat.le_of_ble_eq_true rfl) dL_law_463) (fun _ _ _ => trivial) rfl (fun r1 β H1 L1 p1 B1 => ?_)
  have hli1 := li0_cw hli B1 p1.2.2 (by decide)
  refine lv_pop hx hb dL_law_466 rfl (hp_n (n := 467) rfl ?_)
  obtain ⟨hB, hG, hKx, hM, hR, hE, hRo⟩ := id hli1
  have hcs : cells + 0 ≤ 986 ∧ slots + 0 ≤ 148568 := by rcases hRo with ⟨-, h1, h2⟩ | ⟨-, h1, h2⟩ <;> omega
  refine lv_aload_n hx hb dL_law_467 rfl (lv_at hl 2 rfl) (hp_n (n := 468) rfl ?_)
  refine l_arg (j := 1) (nj := 1) (q0 := 0) (q3 := 3) (pc' := 473) C hB hX hbl hbA hl rfl rfl (by decide) hi hi2 hi3 dL_law_468 dL_law_469 rfl dL_law_470 dL_law_471 dL_law_472 rfl rfl rfl rfl rfl (fun w1 ew1 => ?_)
  refine l_arg (j := 2) (nj := 2) (q0 := 0) (q3 := 3) (pc' := 478) C hB hX hbl hbA hl rfl rfl (by decide) hi hi2 hi3 dL_law_473 dL_law_474 rfl dL_law_475 dL_law_476 dL_law_477 rfl rfl rfl rfl rfl (fun w2 ew2 => ?_)
  rw [← eu1] at ew1; have ew1 := ew1.symm; subst ew1
  rw [← eu2] at ew2; have ew2 := ew2.symm; subst ew2
  obtain ⟨⟨r2, τ⟩, hq, hp⟩ := ws_pr (ws_pr (ws_pr (s_type 70000 (by decide) σ hR u1 u2) (v_type 70000 σ u1 u2)) (v_type2 70000 σ u1 u2)) (x_X12_type kf_rf)
  refine q_ci (pc' := 481) hB (l_runV (As := [.int u1, .int u2]) (rest := []) C hB (m_X12_type 70000 Γ l _ y ρ σ hM u1 u2 (r2, τ) hq) lb_X12_type lv_X12_type lk_L_44 hM.1 (Nat.le_of_ble_eq_true rfl) (Nat.le_of_ble_eq_true rfl) ⟨Nat.le_trans (Nat.add_le_add_right hcs.1 _) (Nat.le_of_ble_eq_true rfl), Nat.le_trans (Nat.add_le_add_right hcs.2 _) (Nat.le_of_ble_eq_true rfl)⟩ rfl hl.1 rfl (Nat.le_of_ble_eq_true rfl) dL_law_478) (fun _ _ _ => trivial) rfl (fun r3 γ H2 L2 p2 B2 => ?_)
  have hli2 := li0_mo hli1 B2 p2.2.1 p2.2.2 hp.1.1.1.1 ⟨LX_mo (LX_type (r1 := r1) hli.2.2.2.2.2.1.1 (by rw [p1.1, p1.2.1]; exact hv2) hp.1.2 (p1.1.trans (hv1.trans hp.1.1.2.symm)) hp.1.1.1.2) p2.2.1, CX_k (CX_cw hE0.2 p1.2.2 (by decide)) p2.2.1 hp.2⟩
  refine lv_pop hx hb dL_law_481 rfl (hp_n (n := 482) rfl ?_)
  refine lv_goto (tgt := 2391) hx hb dL_law_482 (by decide) ?_
  exact kk _ _ _ _ _ _ hli2
set_option maxRecDepth 100000 in
set_option maxHeartbeats 4000000 in
theorem lc_7 {p : Program} {l : Launch} {e : Env} {s : State} {m : MethodId} {below : List Frame} {meth : Method} {c : Code} {Γ : hp_G} {b Ln x y : Nat} {xs : Nat → Int32} {ρ : Nat → Nat} (C : hp_C Γ p m c cL_law 4 s #[Value.ref b] RL) (hX : va_X b Ln xs s s.heap) (hbl : b < s.heap.size) (hbA : ¬ hp_A Γ b) (hLn : Ln ≤ 3072) {α : hp_T} {σ : ms_T} {H : Heap} {L : List Loc} {cells slots : Nat} (hli : li Γ s x y ρ α σ H L cells slots) (i : Int32) (hi : 0 ≤ i.toInt) (hi2 : i.toInt + 6 ≤ (Ln : Int)) (ls : Array Slot) (hl : lv_has ls 4 [(0, .ref b), (1, .ref x), (2, .ref y), (3, .int i)]) (kk : ∀ (α : hp_T) (σ : ms_T) (H : Heap) (L : List Loc) (cells slots : Nat), li Γ s x y ρ α σ H L cells slots → W p l e room_1 s m #[Value.ref b] below meth c H L cells slots (lw_Z below #[Value.ref b] s) (F0 m 2391 ls [])) : W p l e room_1 s m #[Value.ref b] below meth c H L cells slots (lw_Z below #[Value.ref b] s) (F0 m 485 ls []) := by
  have hx := C.1.1
  have hb := C.1.2.1
  have hi3 : (Ln : Int) ≤ 3072 := by omega
  have hcs : cells ≤ 986 ∧ slots ≤ 148568 := by rcases hli.2.2.2.2.2.2 with ⟨-, h1, h2⟩ | ⟨-, h1, h2⟩ <;> omega
  obtain ⟨hB, hG, hKx, hM, hR, hE, hRo⟩ := id hli
  refine lv_aload_n hx hb dL_law_485 rfl (lv_at hl 1 rfl) (hp_n (n := 486) rfl ?_)
  refine l_arg (j := 1) (nj := 1) (q0 := 0) (q3 := 3) (pc' := 491) C hB hX hbl hbA hl rfl rfl (by decide) hi hi2 hi3 dL_law_486 dL_law_487 rfl dL_law_488 dL_law_489 dL_law_490 rfl rfl rfl rfl rfl (fun u1 eu1 => ?_)
  have hE0 := hE
  refine q_ci (pc' := 494) hB (l_runV (As := [.int u1]) (rest := []) C hB (t_X11_many Γ l α hG x hKx u1) lb_X11_many lv_X11_many lk_L_45 hKx (Nat.le_of_ble_eq_true rfl) (Nat.le_of_ble_eq_true rfl) ⟨Nat.le_trans (Nat.add_le_add_right hcs.1 _) (Nat.le_of_ble_eq_true rfl), Nat.le_trans (Nat.add_le_add_right hcs.2 _) (Nat.le_of_ble_eq_true rfl)⟩ rfl hl.1 rfl (Nat.le_of_ble_eq_true rfl) dL_law_491) (fun _ _ _ => trivial) rfl (fun r1 β H1 L1 p1 B1 => ?_)
  have hli1 := li_cw hli B1 p1 (by decide)
  refine lv_pop hx hb dL_law_494 rfl (hp_n (n := 495) rfl ?_)
  obtain ⟨hB, hG, hKx, hM, hR, hE, hRo⟩ := id hli1
  have hcs : cells + 0 ≤ 986 ∧ slots + 0 ≤ 148568 := by rcases hRo with ⟨-, h1, h2⟩ | ⟨-, h1, h2⟩ <;> omega
  refine lv_aload_n hx hb dL_law_495 rfl (lv_at hl 2 rfl) (hp_n (n := 496) rfl ?_)
  refine l_arg (j := 1) (nj := 1) (q0 := 0) (q3 := 3) (pc' := 501) C hB hX hbl hbA hl rfl rfl (by decide) hi hi2 hi3 dL_law_496 dL_law_497 rfl dL_law_498 dL_law_499 dL_law_500 rfl rfl rfl rfl rfl (fun w1 ew1 => ?_)
  rw [← eu1] at ew1; have ew1 := ew1.symm; subst ew1
  obtain ⟨⟨r2, τ⟩, hq, hp⟩ := ws_pr (ws_pr (s_many 70000 (by decide) σ hR u1) (z_X12_many kq_rf)) (x_X12_many kf_rf)
  refine q_ci (pc' := 504) hB (l_runV (As := [.int u1]) (rest := []) C hB (m_X12_many 70000 Γ l _ y ρ σ hM u1 (r2, τ) hq) lb_X12_many lv_X12_many lk_L_48 hM.1 (Nat.le_of_ble_eq_true rfl) (Nat.le_of_ble_eq_true rfl) ⟨Nat.le_trans (Nat.add_le_add_right hcs.1 _) (Nat.le_of_ble_eq_true rfl), Nat.le_trans (Nat.add_le_add_right hcs.2 _) (Nat.le_of_ble_eq_true rfl)⟩ rfl hl.1 rfl (Nat.le_of_ble_eq_true rfl) dL_law_501) (fun _ _ _ => trivial) rfl (fun r3 γ H2 L2 p2 B2 => ?_)
  have hli2 := li0_mo (li_0 hli1) B2 p2.2.1 p2.2.2 hp.1.1.1 (lxc_kq hli1.2.2.2.2.2.1 p2.2.1 hp.1.2 hp.2 hp.1.1.2 hp.1.1.1)
  refine lv_pop hx hb dL_law_504 rfl (hp_n (n := 505) rfl ?_)
  refine lv_goto (tgt := 2391) hx hb dL_law_505 (by decide) ?_
  exact kk _ _ _ _ _ _ hli2
set_option maxRecDepth 100000 in
set_option maxHeartbeats 4000000 in
theorem lc_8 {p : Program} {l : Launch} {e : Env} {s : State} {m : MethodId} {below : List Frame} {meth : Method} {c : Code} {Γ : hp_G} {b Ln x y : Nat} {xs : Nat → Int32} {ρ : Nat → Nat} (C : hp_C Γ p m c cL_law 4 s #[Value.ref b] RL) (hX : va_X b Ln xs s s.heap) (hbl : b < s.heap.size) (hbA : ¬ hp_A Γ b) (hLn : Ln ≤ 3072) {α : hp_T} {σ : ms_T} {H : Heap} {L : List Loc} {cells slots : Nat} (hli : li Γ s x y ρ α σ H L cells slots) (i : Int32) (hi : 0 ≤ i.toInt) (hi2 : i.toInt + 6 ≤ (Ln : Int)) (ls : Array Slot) (hl : lv_has ls 4 [(0, .ref b), (1, .ref x), (2, .ref y), (3, .int i)]) (kk : ∀ (α : hp_T) (σ : ms_T) (H : Heap) (L : List Loc) (cells slots : Nat), li Γ s x y ρ α σ H L cells slots → W p l e room_1 s m #[Value.ref b] below meth c H L cells slots (lw_Z below #[Value.ref b] s) (F0 m 2391 ls [])) : W p l e room_1 s m #[Value.ref b] below meth c H L cells slots (lw_Z below #[Value.ref b] s) (F0 m 508 ls []) := by
  have hx := C.1.1
  have hb := C.1.2.1
  have hi3 : (Ln : Int) ≤ 3072 := by omega
  have hcs : cells ≤ 986 ∧ slots ≤ 148568 := by rcases hli.2.2.2.2.2.2 with ⟨-, h1, h2⟩ | ⟨-, h1, h2⟩ <;> omega
  obtain ⟨hB, hG, hKx, hM, hR, hE, hRo⟩ := id hli
  refine lv_aload_n hx hb dL_law_508 rfl (lv_at hl 1 rfl) (hp_n (n := 509) rfl ?_)
  refine l_arg (j := 1) (nj := 1) (q0 := 0) (q3 := 3) (pc' := 514) C hB hX hbl hbA hl rfl rfl (by decide) hi hi2 hi3 dL_law_509 dL_law_510 rfl dL_law_511 dL_law_512 dL_law_513 rfl rfl rfl rfl rfl (fun u1 eu1 => ?_)
  have hE0 := hE
  refine q_ci (pc' := 517) hB (l_runV (As := [.int u1]) (rest := []) C hB (t_X11_size Γ l α hG x hKx u1) lb_X11_size lv_X11_size lk_L_49 hKx (Nat.le_of_ble_eq_true rfl) (Nat.le_of_ble_eq_true rfl) ⟨Nat.le_trans (Nat.add_le_add_right hcs.1 _) (Nat.le_of_ble_eq_true rfl), Nat.le_trans (Nat.add_le_add_right hcs.2 _) (Nat.le_of_ble_eq_true rfl)⟩ rfl hl.1 rfl (Nat.le_of_ble_eq_true rfl) dL_law_514) (fun _ _ _ => trivial) rfl (fun r1 β H1 L1 p1 B1 => ?_)
  have hli1 := li_cw hli B1 p1 (by decide)
  refine lv_pop hx hb dL_law_517 rfl (hp_n (n := 518) rfl ?_)
  obtain ⟨hB, hG, hKx, hM, hR, hE, hRo⟩ := id hli1
  have hcs : cells + 0 ≤ 986 ∧ slots + 0 ≤ 148568 := by rcases hRo with ⟨-, h1, h2⟩ | ⟨-, h1, h2⟩ <;> omega
  refine lv_aload_n hx hb dL_law_518 rfl (lv_at hl 2 rfl) (hp_n (n := 519) rfl ?_)
  refine l_arg (j := 1) (nj := 1) (q0 := 0) (q3 := 3) (pc' := 524) C hB hX hbl hbA hl rfl rfl (by decide) hi hi2 hi3 dL_law_519 dL_law_520 rfl dL_law_521 dL_law_522 dL_law_523 rfl rfl rfl rfl rfl (fun w1 ew1 => ?_)
  rw [← eu1] at ew1; have ew1 := ew1.symm; subst ew1
  obtain ⟨⟨r2, τ⟩, hq, hp⟩ := ws_pr (ws_pr (s_size 70000 (by decide) σ hR u1) (z_X12_size kq_rf)) (x_X12_size kf_rf)
  refine q_ci (pc' := 527) hB (l_runV (As := [.int u1]) (rest := []) C hB (m_X12_size 70000 Γ l _ y ρ σ hM u1 (r2, τ) hq) lb_X12_size lv_X12_size lk_L_52 hM.1 (Nat.le_of_ble_eq_true rfl) (Nat.le_of_ble_eq_true rfl) ⟨Nat.le_trans (Nat.add_le_add_right hcs.1 _) (Nat.le_of_ble_eq_true rfl), Nat.le_trans (Nat.add_le_add_right hcs.2 _) (Nat.le_of_ble_eq_true rfl)⟩ rfl hl.1 rfl (Nat.le_of_ble_eq_true rfl) dL_law_524) (fun _ _ _ => trivial) rfl (fun r3 γ H2 L2 p2 B2 => ?_)
  have hli2 := li0_mo (li_0 hli1) B2 p2.2.1 p2.2.2 hp.1.1.1 (lxc_kq hli1.2.2.2.2.2.1 p2.2.1 hp.1.2 hp.2 hp.1.1.2 hp.1.1.1)
  refine lv_pop hx hb dL_law_527 rfl (hp_n (n := 528) rfl ?_)
  refine lv_goto (tgt := 2391) hx hb dL_law_528 (by decide) ?_
  exact kk _ _ _ _ _ _ hli2
set_option maxRecDepth 100000 in
set_option maxHeartbeats 4000000 in
theorem lc_9 {p : Program} {l : Launch} {e : Env} {s : State} {m : MethodId} {below : List Frame} {meth : Method} {c : Code} {Γ : hp_G} {b Ln x y : Nat} {xs : Nat → Int32} {ρ : Nat → Nat} (C : hp_C Γ p m c cL_law 4 s #[Value.ref b] RL) (hX : va_X b Ln xs s s.heap) (hbl : b < s.heap.size) (hbA : ¬ hp_A Γ b) (hLn : Ln ≤ 3072) {α : hp_T} {σ : ms_T} {H : Heap} {L : List Loc} {cells slots : Nat} (hli : li Γ s x y ρ α σ H L cells slots) (i : Int32) (hi : 0 ≤ i.toInt) (hi2 : i.toInt + 6 ≤ (Ln : Int)) (ls : Array Slot) (hl : lv_has ls 4 [(0, .ref b), (1, .ref x), (2, .ref y), (3, .int i)]) (kk : ∀ (α : hp_T) (σ : ms_T) (H : Heap) (L : List Loc) (cells slots : Nat), li Γ s x y ρ α σ H L cells slots → W p l e room_1 s m #[Value.ref b] below meth c H L cells slots (lw_Z below #[Value.ref b] s) (F0 m 2391 ls [])) : W p l e room_1 s m #[Value.ref b] below meth c H L cells slots (lw_Z below #[Value.ref b] s) (F0 m 531 ls []) := by
  have hx := C.1.1
  have hb := C.1.2.1
  have hi3 : (Ln : Int) ≤ 3072 := by omega
  have hcs : cells ≤ 986 ∧ slots ≤ 148568 := by rcases hli.2.2.2.2.2.2 with ⟨-, h1, h2⟩ | ⟨-, h1, h2⟩ <;> omega
  obtain ⟨hB, hG, hKx, hM, hR, hE, hRo⟩ := id hli
  refine lv_aload_n hx hb dL_law_531 rfl (lv_at hl 1 rfl) (hp_n (n := 532) rfl ?_)
  refine l_arg (j := 1) (nj := 1) (q0 := 0) (q3 := 3) (pc' := 537) C hB hX hbl hbA hl rfl rfl (by decide) hi hi2 hi3 dL_law_532 dL_law_533 rfl dL_law_534 dL_law_535 dL_law_536 rfl rfl rfl rfl rfl (fun u1 eu1 => ?_)
  refine l_arg (j := 2) (nj := 2) (q0 := 0) (q3 := 3) (pc' := 542) C hB hX hbl hbA hl rfl rfl (by decide) hi hi2 hi3 dL_law_537 dL_law_538 rfl dL_law_539 dL_law_540 dL_law_541 rfl rfl rfl rfl rfl (fun u2 eu2 => ?_)
  refine l_arg (j := 3) (nj := 3) (q0 := 0) (q3 := 3) (pc' := 547) C hB hX hbl hbA hl rfl rfl (by decide) hi hi2 hi3 dL_law_542 dL_law_543 rfl dL_law_544 dL_law_545 dL_law_546 rfl rfl rfl rfl rfl (fun u3 eu3 => ?_)
  have hE0 := hE
  refine q_ci (pc' := 550) hB (l_runV (As := [.int u1, .int u2, .int u3]) (rest := []) C hB (t_X11_entry Γ l α hG x hKx u1 u2 u3) lb_X11_entry lv_X11_entry lk_L_53 hKx (Nat.le_of_ble_eq_true rfl) (Nat.le_of_ble_eq_true rfl) ⟨Nat.le_trans (Nat.add_le_add_right hcs.1 _) (Nat.le_of_ble_eq_true rfl), Nat.le_trans (Nat.add_le_add_right hcs.2 _) (Nat.le_of_ble_eq_true rfl)⟩ rfl hl.1 rfl (Nat.le_of_ble_eq_true rfl) dL_law_547) (fun _ _ _ => trivial) rfl (fun r1 β H1 L1 p1 B1 => ?_)
  have hli1 := li_cw hli B1 p1 (by decide)
  refine lv_pop hx hb dL_law_550 rfl (hp_n (n := 551) rfl ?_)
  obtain ⟨hB, hG, hKx, hM, hR, hE, hRo⟩ := id hli1
  have hcs : cells + 0 ≤ 986 ∧ slots + 0 ≤ 148568 := by rcases hRo with ⟨-, h1, h2⟩ | ⟨-, h1, h2⟩ <;> omega
  refine lv_aload_n hx hb dL_law_551 rfl (lv_at hl 2 rfl) (hp_n (n := 552) rfl ?_)
  refine l_arg (j := 1) (nj := 1) (q0 := 0) (q3 := 3) (pc' := 557) C hB hX hbl hbA hl rfl rfl (by decide) hi hi2 hi3 dL_law_552 dL_law_553 rfl dL_law_554 dL_law_555 dL_law_556 rfl rfl rfl rfl rfl (fun w1 ew1 => ?_)
  refine l_arg (j := 2) (nj := 2) (q0 := 0) (q3 := 3) (pc' := 562) C hB hX hbl hbA hl rfl rfl (by decide) hi hi2 hi3 dL_law_557 dL_law_558 rfl dL_law_559 dL_law_560 dL_law_561 rfl rfl rfl rfl rfl (fun w2 ew2 => ?_)
  refine l_arg (j := 3) (nj := 3) (q0 := 0) (q3 := 3) (pc' := 567) C hB hX hbl hbA hl rfl rfl (by decide) hi hi2 hi3 dL_law_562 dL_law_563 rfl dL_law_564 dL_law_565 dL_law_566 rfl rfl rfl rfl rfl (fun w3 ew3 => ?_)
  rw [← eu1] at ew1; have ew1 := ew1.symm; subst ew1
  rw [← eu2] at ew2; have ew2 := ew2.symm; subst ew2
  rw [← eu3] at ew3; have ew3 := ew3.symm; subst ew3
  obtain ⟨⟨r2, τ⟩, hq, hp⟩ := ws_pr (ws_pr (s_entry 70000 (by decide) σ hR u1 u2 u3) (z_X12_entry kq_rf)) (x_X12_entry kf_rf)
  refine q_ci (pc' := 570) hB (l_runV (As := [.int u1, .int u2, .int u3]) (rest := []) C hB (m_X12_entry 70000 Γ l _ y ρ σ hM u1 u2 u3 (r2, τ) hq) lb_X12_entry lv_X12_entry lk_L_57 hM.1 (Nat.le_of_ble_eq_true rfl) (Nat.le_of_ble_eq_true rfl) ⟨Nat.le_trans (Nat.add_le_add_right hcs.1 _) (Nat.le_of_ble_eq_true rfl), Nat.le_trans (Nat.add_le_add_right hcs.2 _) (Nat.le_of_ble_eq_true rfl)⟩ rfl hl.1 rfl (Nat.le_of_ble_eq_true rfl) dL_law_567) (fun _ _ _ => trivial) rfl (fun r3 γ H2 L2 p2 B2 => ?_)
  have hli2 := li0_mo (li_0 hli1) B2 p2.2.1 p2.2.2 hp.1.1.1 (lxc_kq hli1.2.2.2.2.2.1 p2.2.1 hp.1.2 hp.2 hp.1.1.2 hp.1.1.1)
  refine lv_pop hx hb dL_law_570 rfl (hp_n (n := 571) rfl ?_)
  refine lv_goto (tgt := 2391) hx hb dL_law_571 (by decide) ?_
  exact kk _ _ _ _ _ _ hli2
set_option maxRecDepth 100000 in
set_option maxHeartbeats 4000000 in
theorem lc_10 {p : Program} {l : Launch} {e : Env} {s : State} {m : MethodId} {below : List Frame} {meth : Method} {c : Code} {Γ : hp_G} {b Ln x y : Nat} {xs : Nat → Int32} {ρ : Nat → Nat} (C : hp_C Γ p m c cL_law 4 s #[Value.ref b] RL) (hX : va_X b Ln xs s s.heap) (hbl : b < s.heap.size) (hbA : ¬ hp_A Γ b) (hLn : Ln ≤ 3072) {α : hp_T} {σ : ms_T} {H : Heap} {L : List Loc} {cells slots : Nat} (hli : li Γ s x y ρ α σ H L cells slots) (i : Int32) (hi : 0 ≤ i.toInt) (hi2 : i.toInt + 6 ≤ (Ln : Int)) (ls : Array Slot) (hl : lv_has ls 4 [(0, .ref b), (1, .ref x), (2, .ref y), (3, .int i)]) (kk : ∀ (α : hp_T) (σ : ms_T) (H : Heap) (L : List Loc) (cells slots : Nat), li Γ s x y ρ α σ H L cells slots → W p l e room_1 s m #[Value.ref b] below meth c H L cells slots (lw_Z below #[Value.ref b] s) (F0 m 2391 ls [])) : W p l e room_1 s m #[Value.ref b] below meth c H L cells slots (lw_Z below #[Value.ref b] s) (F0 m 574 ls []) := by
  have hx := C.1.1
  have hb := C.1.2.1
  have hi3 : (Ln : Int) ≤ 3072 := by omega
  have hcs : cells ≤ 986 ∧ slots ≤ 148568 := by rcases hli.2.2.2.2.2.2 with ⟨-, h1, h2⟩ | ⟨-, h1, h2⟩ <;> omega
  obtain ⟨hB, hG, hKx, hM, hR, hE, hRo⟩ := id hli
  refine lv_aload_n hx hb dL_law_574 rfl (lv_at hl 1 rfl) (hp_n (n := 575) rfl ?_)
  refine l_arg (j := 1) (nj := 1) (q0 := 0) (q3 := 3) (pc' := 580) C hB hX hbl hbA hl rfl rfl (by decide) hi hi2 hi3 dL_law_575 dL_law_576 rfl dL_law_577 dL_law_578 dL_law_579 rfl rfl rfl rfl rfl (fun u1 eu1 => ?_)
  refine l_arg (j := 2) (nj := 2) (q0 := 0) (q3 := 3) (pc' := 585) C hB hX hbl hbA hl rfl rfl (by decide) hi hi2 hi3 dL_law_580 dL_law_581 rfl dL_law_582 dL_law_583 dL_law_584 rfl rfl rfl rfl rfl (fun u2 eu2 => ?_)
  have hE0 := hE
  refine q_ci (pc' := 588) hB (l_runV (As := [.int u1, .int u2]) (rest := []) C hB (t_X11_head Γ l α hG x hKx u1 u2) lb_X11_head lv_X11_head lk_L_58 hKx (Nat.le_of_ble_eq_true rfl) (Nat.le_of_ble_eq_true rfl) ⟨Nat.le_trans (Nat.add_le_add_right hcs.1 _) (Nat.le_of_ble_eq_true rfl), Nat.le_trans (Nat.add_le_add_right hcs.2 _) (Nat.le_of_ble_eq_true rfl)⟩ rfl hl.1 rfl (Nat.le_of_ble_eq_true rfl) dL_law_585) (fun _ _ _ => trivial) rfl (fun r1 β H1 L1 p1 B1 => ?_)
  have hli1 := li_cw hli B1 p1 (by decide)
  refine lv_pop hx hb dL_law_588 rfl (hp_n (n := 589) rfl ?_)
  obtain ⟨hB, hG, hKx, hM, hR, hE, hRo⟩ := id hli1
  have hcs : cells + 0 ≤ 986 ∧ slots + 0 ≤ 148568 := by rcases hRo with ⟨-, h1, h2⟩ | ⟨-, h1, h2⟩ <;> omega
  refine lv_aload_n hx hb dL_law_589 rfl (lv_at hl 2 rfl) (hp_n (n := 590) rfl ?_)
  refine l_arg (j := 1) (nj := 1) (q0 := 0) (q3 := 3) (pc' := 595) C hB hX hbl hbA hl rfl rfl (by decide) hi hi2 hi3 dL_law_590 dL_law_591 rfl dL_law_592 dL_law_593 dL_law_594 rfl rfl rfl rfl rfl (fun w1 ew1 => ?_)
  refine l_arg (j := 2) (nj := 2) (q0 := 0) (q3 := 3) (pc' := 600) C hB hX hbl hbA hl rfl rfl (by decide) hi hi2 hi3 dL_law_595 dL_law_596 rfl dL_law_597 dL_law_598 dL_law_599 rfl rfl rfl rfl rfl (fun w2 ew2 => ?_)
  rw [← eu1] at ew1; have ew1 := ew1.symm; subst ew1
  rw [← eu2] at ew2; have ew2 := ew2.symm; subst ew2
  obtain ⟨⟨r2, τ⟩, hq, hp⟩ := ws_pr (ws_pr (s_head 70000 (by decide) σ hR u1 u2) (z_X12_head kq_rf)) (x_X12_head kf_rf)
  refine q_ci (pc' := 603) hB (l_runV (As := [.int u1, .int u2]) (rest := []) C hB (m_X12_head 70000 Γ l _ y ρ σ hM u1 u2 (r2, τ) hq) lb_X12_head lv_X12_head lk_L_61 hM.1 (Nat.le_of_ble_eq_true rfl) (Nat.le_of_ble_eq_true rfl) ⟨Nat.le_trans (Nat.add_le_add_right hcs.1 _) (Nat.le_of_ble_eq_true rfl), Nat.le_trans (Nat.add_le_add_right hcs.2 _) (Nat.le_of_ble_eq_true rfl)⟩ rfl hl.1 rfl (Nat.le_of_ble_eq_true rfl) dL_law_600) (fun _ _ _ => trivial) rfl (fun r3 γ H2 L2 p2 B2 => ?_)
  have hli2 := li0_mo (li_0 hli1) B2 p2.2.1 p2.2.2 hp.1.1.1 (lxc_kq hli1.2.2.2.2.2.1 p2.2.1 hp.1.2 hp.2 hp.1.1.2 hp.1.1.1)
  refine lv_pop hx hb dL_law_603 rfl (hp_n (n := 604) rfl ?_)
  refine lv_goto (tgt := 2391) hx hb dL_law_604 (by decide) ?_
  exact kk _ _ _ _ _ _ hli2
set_option maxRecDepth 100000 in
set_option maxHeartbeats 4000000 in
theorem lc_11 {p : Program} {l : Launch} {e : Env} {s : State} {m : MethodId} {below : List Frame} {meth : Method} {c : Code} {Γ : hp_G} {b Ln x y : Nat} {xs : Nat → Int32} {ρ : Nat → Nat} (C : hp_C Γ p m c cL_law 4 s #[Value.ref b] RL) (hX : va_X b Ln xs s s.heap) (hbl : b < s.heap.size) (hbA : ¬ hp_A Γ b) (hLn : Ln ≤ 3072) {α : hp_T} {σ : ms_T} {H : Heap} {L : List Loc} {cells slots : Nat} (hli : li Γ s x y ρ α σ H L cells slots) (i : Int32) (hi : 0 ≤ i.toInt) (hi2 : i.toInt + 6 ≤ (Ln : Int)) (ls : Array Slot) (hl : lv_has ls 4 [(0, .ref b), (1, .ref x), (2, .ref y), (3, .int i)]) (kk : ∀ (α : hp_T) (σ : ms_T) (H : Heap) (L : List Loc) (cells slots : Nat), li Γ s x y ρ α σ H L cells slots → W p l e room_1 s m #[Value.ref b] below meth c H L cells slots (lw_Z below #[Value.ref b] s) (F0 m 2391 ls [])) : W p l e room_1 s m #[Value.ref b] below meth c H L cells slots (lw_Z below #[Value.ref b] s) (F0 m 607 ls []) := by
  have hx := C.1.1
  have hb := C.1.2.1
  have hi3 : (Ln : Int) ≤ 3072 := by omega
  have hcs : cells ≤ 986 ∧ slots ≤ 148568 := by rcases hli.2.2.2.2.2.2 with ⟨-, h1, h2⟩ | ⟨-, h1, h2⟩ <;> omega
  obtain ⟨hB, hG, hKx, hM, hR, hE, hRo⟩ := id hli
  refine lv_aload_n hx hb dL_law_607 rfl (lv_at hl 1 rfl) (hp_n (n := 608) rfl ?_)
  refine l_arg (j := 1) (nj := 1) (q0 := 0) (q3 := 3) (pc' := 613) C hB hX hbl hbA hl rfl rfl (by decide) hi hi2 hi3 dL_law_608 dL_law_609 rfl dL_law_610 dL_law_611 dL_law_612 rfl rfl rfl rfl rfl (fun u1 eu1 => ?_)
  refine l_arg (j := 2) (nj := 2) (q0 := 0) (q3 := 3) (pc' := 618) C hB hX hbl hbA hl rfl rfl (by decide) hi hi2 hi3 dL_law_613 dL_law_614 rfl dL_law_615 dL_law_616 dL_law_617 rfl rfl rfl rfl rfl (fun u2 eu2 => ?_)
  have hE0 := hE
  refine q_ci (pc' := 621) hB (l_runV (As := [.int u1, .int u2]) (rest := []) C hB (t_X11_join Γ l α hG x hKx u1 u2) lb_X11_join lv_X11_join lk_L_62 hKx (Nat.le_of_ble_eq_true rfl) (Nat.le_of_ble_eq_true rfl) ⟨Nat.le_trans (Nat.add_le_add_right hcs.1 _) (Nat.le_of_ble_eq_true rfl), Nat.le_trans (Nat.add_le_add_right hcs.2 _) (Nat.le_of_ble_eq_true rfl)⟩ rfl hl.1 rfl (Nat.le_of_ble_eq_true rfl) dL_law_618) (fun _ _ _ => trivial) rfl (fun r1 β H1 L1 p1 B1 => ?_)
  have hli1 := li_cw hli B1 p1 (by decide)
  refine lv_pop hx hb dL_law_621 rfl (hp_n (n := 622) rfl ?_)
  obtain ⟨hB, hG, hKx, hM, hR, hE, hRo⟩ := id hli1
  have hcs : cells + 0 ≤ 986 ∧ slots + 0 ≤ 148568 := by rcases hRo with ⟨-, h1, h2⟩ | ⟨-, h1, h2⟩ <;> omega
  refine lv_aload_n hx hb dL_law_622 rfl (lv_at hl 2 rfl) (hp_n (n := 623) rfl ?_)
  refine l_arg (j := 1) (nj := 1) (q0 := 0) (q3 := 3) (pc' := 628) C hB hX hbl hbA hl rfl rfl (by decide) hi hi2 hi3 dL_law_623 dL_law_624 rfl dL_law_625 dL_law_626 dL_law_627 rfl rfl rfl rfl rfl (fun w1 ew1 => ?_)
  refine l_arg (j := 2) (nj := 2) (q0 := 0) (q3 := 3) (pc' := 633) C hB hX hbl hbA hl rfl rfl (by decide) hi hi2 hi3 dL_law_628 dL_law_629 rfl dL_law_630 dL_law_631 dL_law_632 rfl rfl rfl rfl rfl (fun w2 ew2 => ?_)
  rw [← eu1] at ew1; have ew1 := ew1.symm; subst ew1
  rw [← eu2] at ew2; have ew2 := ew2.symm; subst ew2
  obtain ⟨⟨r2, τ⟩, hq, hp⟩ := ws_pr (ws_pr (s_join 70000 (by decide) σ hR u1 u2) (z_X12_join kq_rf)) (x_X12_join kf_rf)
  refine q_ci (pc' := 636) hB (l_runV (As := [.int u1, .int u2]) (rest := []) C hB (m_X12_join 70000 Γ l _ y ρ σ hM u1 u2 (r2, τ) hq) lb_X12_join lv_X12_join lk_L_65 hM.1 (Nat.le_of_ble_eq_true rfl) (Nat.le_of_ble_eq_true rfl) ⟨Nat.le_trans (Nat.add_le_add_right hcs.1 _) (Nat.le_of_ble_eq_true rfl), Nat.le_trans (Nat.add_le_add_right hcs.2 _) (Nat.le_of_ble_eq_true rfl)⟩ rfl hl.1 rfl (Nat.le_of_ble_eq_true rfl) dL_law_633) (fun _ _ _ => trivial) rfl (fun r3 γ H2 L2 p2 B2 => ?_)
  have hli2 := li0_mo (li_0 hli1) B2 p2.2.1 p2.2.2 hp.1.1.1 (lxc_kq hli1.2.2.2.2.2.1 p2.2.1 hp.1.2 hp.2 hp.1.1.2 hp.1.1.1)
  refine lv_pop hx hb dL_law_636 rfl (hp_n (n := 637) rfl ?_)
  refine lv_goto (tgt := 2391) hx hb dL_law_637 (by decide) ?_
  exact kk _ _ _ _ _ _ hli2
set_option maxRecDepth 100000 in
set_option maxHeartbeats 4000000 in
theorem lc_12 {p : Program} {l : Launch} {e : Env} {s : State} {m : MethodId} {below : List Frame} {meth : Method} {c : Code} {Γ : hp_G} {b Ln x y : Nat} {xs : Nat → Int32} {ρ : Nat → Nat} (C : hp_C Γ p m c cL_law 4 s #[Value.ref b] RL) (hX : va_X b Ln xs s s.heap) (hbl : b < s.heap.size) (hbA : ¬ hp_A Γ b) (hLn : Ln ≤ 3072) {α : hp_T} {σ : ms_T} {H : Heap} {L : List Loc} {cells slots : Nat} (hli : li Γ s x y ρ α σ H L cells slots) (i : Int32) (hi : 0 ≤ i.toInt) (hi2 : i.toInt + 6 ≤ (Ln : Int)) (ls : Array Slot) (hl : lv_has ls 4 [(0, .ref b), (1, .ref x), (2, .ref y), (3, .int i)]) (kk : ∀ (α : hp_T) (σ : ms_T) (H : Heap) (L : List Loc) (cells slots : Nat), li Γ s x y ρ α σ H L cells slots → W p l e room_1 s m #[Value.ref b] below meth c H L cells slots (lw_Z below #[Value.ref b] s) (F0 m 2391 ls [])) : W p l e room_1 s m #[Value.ref b] below meth c H L cells slots (lw_Z below #[Value.ref b] s) (F0 m 640 ls []) := by
  have hx := C.1.1
  have hb := C.1.2.1
  have hi3 : (Ln : Int) ≤ 3072 := by omega
  have hcs : cells ≤ 986 ∧ slots ≤ 148568 := by rcases hli.2.2.2.2.2.2 with ⟨-, h1, h2⟩ | ⟨-, h1, h2⟩ <;> omega
  obtain ⟨hB, hG, hKx, hM, hR, hE, hRo⟩ := id hli
  refine lv_aload_n hx hb dL_law_640 rfl (lv_at hl 1 rfl) (hp_n (n := 641) rfl ?_)
  have hE0 := hE
  refine q_ci (pc' := 644) hB (l_runV (As := []) (rest := []) C hB (t_X11_mark Γ l α hG x hKx ) lb_X11_mark lv_X11_mark lk_L_66 hKx (Nat.le_of_ble_eq_true rfl) (Nat.le_of_ble_eq_true rfl) ⟨Nat.le_trans (Nat.add_le_add_right hcs.1 _) (Nat.le_of_ble_eq_true rfl), Nat.le_trans (Nat.add_le_add_right hcs.2 _) (Nat.le_of_ble_eq_true rfl)⟩ rfl hl.1 rfl (Nat.le_of_ble_eq_true rfl) dL_law_641) (fun _ _ _ => trivial) rfl (fun r1 β H1 L1 p1 B1 => ?_)
  have hli1 := li_cw hli B1 p1 (by decide)
  refine lv_pop hx hb dL_law_644 rfl (hp_n (n := 645) rfl ?_)
  obtain ⟨hB, hG, hKx, hM, hR, hE, hRo⟩ := id hli1
  have hcs : cells + 0 ≤ 986 ∧ slots + 0 ≤ 148568 := by rcases hRo with ⟨-, h1, h2⟩ | ⟨-, h1, h2⟩ <;> omega
  refine lv_aload_n hx hb dL_law_645 rfl (lv_at hl 2 rfl) (hp_n (n := 646) rfl ?_)
  obtain ⟨⟨r2, τ⟩, hq, hp⟩ := ws_pr (ws_pr (s_mark 70000 (by decide) σ hR ) (z_X12_mark kq_rf)) (x_X12_mark kf_rf)
  refine q_ci (pc' := 649) hB (l_runV (As := []) (rest := []) C hB (m_X12_mark 70000 Γ l _ y ρ σ hM  (r2, τ) hq) lb_X12_mark lv_X12_mark lk_L_69 hM.1 (Nat.le_of_ble_eq_true rfl) (Nat.le_of_ble_eq_true rfl) ⟨Nat.le_trans (Nat.add_le_add_right hcs.1 _) (Nat.le_of_ble_eq_true rfl), Nat.le_trans (Nat.add_le_add_right hcs.2 _) (Nat.le_of_ble_eq_true rfl)⟩ rfl hl.1 rfl (Nat.le_of_ble_eq_true rfl) dL_law_646) (fun _ _ _ => trivial) rfl (fun r3 γ H2 L2 p2 B2 => ?_)
  have hli2 := li0_mo (li_0 hli1) B2 p2.2.1 p2.2.2 hp.1.1.1 (lxc_kq hli1.2.2.2.2.2.1 p2.2.1 hp.1.2 hp.2 hp.1.1.2 hp.1.1.1)
  refine lv_pop hx hb dL_law_649 rfl (hp_n (n := 650) rfl ?_)
  refine lv_goto (tgt := 2391) hx hb dL_law_650 (by decide) ?_
  exact kk _ _ _ _ _ _ hli2
set_option maxRecDepth 100000 in
set_option maxHeartbeats 4000000 in
theorem lc_13 {p : Program} {l : Launch} {e : Env} {s : State} {m : MethodId} {below : List Frame} {meth : Method} {c : Code} {Γ : hp_G} {b Ln x y : Nat} {xs : Nat → Int32} {ρ : Nat → Nat} (C : hp_C Γ p m c cL_law 4 s #[Value.ref b] RL) (hX : va_X b Ln xs s s.heap) (hbl : b < s.heap.size) (hbA : ¬ hp_A Γ b) (hLn : Ln ≤ 3072) {α : hp_T} {σ : ms_T} {H : Heap} {L : List Loc} {cells slots : Nat} (hli : li Γ s x y ρ α σ H L cells slots) (i : Int32) (hi : 0 ≤ i.toInt) (hi2 : i.toInt + 6 ≤ (Ln : Int)) (ls : Array Slot) (hl : lv_has ls 4 [(0, .ref b), (1, .ref x), (2, .ref y), (3, .int i)]) (kk : ∀ (α : hp_T) (σ : ms_T) (H : Heap) (L : List Loc) (cells slots : Nat), li Γ s x y ρ α σ H L cells slots → W p l e room_1 s m #[Value.ref b] below meth c H L cells slots (lw_Z below #[Value.ref b] s) (F0 m 2391 ls [])) : W p l e room_1 s m #[Value.ref b] below meth c H L cells slots (lw_Z below #[Value.ref b] s) (F0 m 653 ls []) := by
  have hx := C.1.1
  have hb := C.1.2.1
  have hi3 : (Ln : Int) ≤ 3072 := by omega
  have hcs : cells ≤ 986 ∧ slots ≤ 148568 := by rcases hli.2.2.2.2.2.2 with ⟨-, h1, h2⟩ | ⟨-, h1, h2⟩ <;> omega
  obtain ⟨hB, hG, hKx, hM, hR, hE, hRo⟩ := id hli
  refine lv_aload_n hx hb dL_law_653 rfl (lv_at hl 1 rfl) (hp_n (n := 654) rfl ?_)
  refine l_arg (j := 1) (nj := 1) (q0 := 0) (q3 := 3) (pc' := 659) C hB hX hbl hbA hl rfl rfl (by decide) hi hi2 hi3 dL_law_654 dL_law_655 rfl dL_law_656 dL_law_657 dL_law_658 rfl rfl rfl rfl rfl (fun u1 eu1 => ?_)
  refine l_arg (j := 2) (nj := 2) (q0 := 0) (q3 := 3) (pc' := 664) C hB hX hbl hbA hl rfl rfl (by decide) hi hi2 hi3 dL_law_659 dL_law_660 rfl dL_law_661 dL_law_662 dL_law_663 rfl rfl rfl rfl rfl (fun u2 eu2 => ?_)
  have hE0 := hE
  refine q_ci (pc' := 667) hB (l_runV (As := [.int u1, .int u2]) (rest := []) C hB (t_X11_frozen Γ l α hG x hKx u1 u2) lb_X11_frozen lv_X11_frozen lk_L_70 hKx (Nat.le_of_ble_eq_true rfl) (Nat.le_of_ble_eq_true rfl) ⟨Nat.le_trans (Nat.add_le_add_right hcs.1 _) (Nat.le_of_ble_eq_true rfl), Nat.le_trans (Nat.add_le_add_right hcs.2 _) (Nat.le_of_ble_eq_true rfl)⟩ rfl hl.1 rfl (Nat.le_of_ble_eq_true rfl) dL_law_664) (fun _ _ _ => trivial) rfl (fun r1 β H1 L1 p1 B1 => ?_)
  have hli1 := li_cw hli B1 p1 (by decide)
  refine lv_pop hx hb dL_law_667 rfl (hp_n (n := 668) rfl ?_)
  obtain ⟨hB, hG, hKx, hM, hR, hE, hRo⟩ := id hli1
  have hcs : cells + 0 ≤ 986 ∧ slots + 0 ≤ 148568 := by rcases hRo with ⟨-, h1, h2⟩ | ⟨-, h1, h2⟩ <;> omega
  refine lv_aload_n hx hb dL_law_668 rfl (lv_at hl 2 rfl) (hp_n (n := 669) rfl ?_)
  refine l_arg (j := 1) (nj := 1) (q0 := 0) (q3 := 3) (pc' := 674) C hB hX hbl hbA hl rfl rfl (by decide) hi hi2 hi3 dL_law_669 dL_law_670 rfl dL_law_671 dL_law_672 dL_law_673 rfl rfl rfl rfl rfl (fun w1 ew1 => ?_)
  refine l_arg (j := 2) (nj := 2) (q0 := 0) (q3 := 3) (pc' := 679) C hB hX hbl hbA hl rfl rfl (by decide) hi hi2 hi3 dL_law_674 dL_law_675 rfl dL_law_676 dL_law_677 dL_law_678 rfl rfl rfl rfl rfl (fun w2 ew2 => ?_)
  rw [← eu1] at ew1; have ew1 := ew1.symm; subst ew1
  rw [← eu2] at ew2; have ew2 := ew2.symm; subst ew2
  obtain ⟨⟨r2, τ⟩, hq, hp⟩ := ws_pr (ws_pr (s_frozen 70000 (by decide) σ hR u1 u2) (z_X12_frozen kq_rf)) (x_X12_frozen kf_rf)
  refine q_ci (pc' := 682) hB (l_runV (As := [.int u1, .int u2]) (rest := []) C hB (m_X12_frozen 70000 Γ l _ y ρ σ hM u1 u2 (r2, τ) hq) lb_X12_frozen lv_X12_frozen lk_L_73 hM.1 (Nat.le_of_ble_eq_true rfl) (Nat.le_of_ble_eq_true rfl) ⟨Nat.le_trans (Nat.add_le_add_right hcs.1 _) (Nat.le_of_ble_eq_true rfl), Nat.le_trans (Nat.add_le_add_right hcs.2 _) (Nat.le_of_ble_eq_true rfl)⟩ rfl hl.1 rfl (Nat.le_of_ble_eq_true rfl) dL_law_679) (fun _ _ _ => trivial) rfl (fun r3 γ H2 L2 p2 B2 => ?_)
  have hli2 := li0_mo (li_0 hli1) B2 p2.2.1 p2.2.2 hp.1.1.1 (lxc_kq hli1.2.2.2.2.2.1 p2.2.1 hp.1.2 hp.2 hp.1.1.2 hp.1.1.1)
  refine lv_pop hx hb dL_law_682 rfl (hp_n (n := 683) rfl ?_)
  refine lv_goto (tgt := 2391) hx hb dL_law_683 (by decide) ?_
  exact kk _ _ _ _ _ _ hli2
set_option maxRecDepth 100000 in
set_option maxHeartbeats 4000000 in
theorem lc_14 {p : Program} {l : Launch} {e : Env} {s : State} {m : MethodId} {below : List Frame} {meth : Method} {c : Code} {Γ : hp_G} {b Ln x y : Nat} {xs : Nat → Int32} {ρ : Nat → Nat} (C : hp_C Γ p m c cL_law 4 s #[Value.ref b] RL) (hX : va_X b Ln xs s s.heap) (hbl : b < s.heap.size) (hbA : ¬ hp_A Γ b) (hLn : Ln ≤ 3072) {α : hp_T} {σ : ms_T} {H : Heap} {L : List Loc} {cells slots : Nat} (hli : li Γ s x y ρ α σ H L cells slots) (i : Int32) (hi : 0 ≤ i.toInt) (hi2 : i.toInt + 6 ≤ (Ln : Int)) (ls : Array Slot) (hl : lv_has ls 4 [(0, .ref b), (1, .ref x), (2, .ref y), (3, .int i)]) (kk : ∀ (α : hp_T) (σ : ms_T) (H : Heap) (L : List Loc) (cells slots : Nat), li Γ s x y ρ α σ H L cells slots → W p l e room_1 s m #[Value.ref b] below meth c H L cells slots (lw_Z below #[Value.ref b] s) (F0 m 2391 ls [])) : W p l e room_1 s m #[Value.ref b] below meth c H L cells slots (lw_Z below #[Value.ref b] s) (F0 m 686 ls []) := by
  have hx := C.1.1
  have hb := C.1.2.1
  have hi3 : (Ln : Int) ≤ 3072 := by omega
  have hcs : cells ≤ 986 ∧ slots ≤ 148568 := by rcases hli.2.2.2.2.2.2 with ⟨-, h1, h2⟩ | ⟨-, h1, h2⟩ <;> omega
  obtain ⟨hB, hG, hKx, hM, hR, hE, hRo⟩ := id hli
  refine lv_aload_n hx hb dL_law_686 rfl (lv_at hl 1 rfl) (hp_n (n := 687) rfl ?_)
  refine l_arg (j := 1) (nj := 1) (q0 := 0) (q3 := 3) (pc' := 692) C hB hX hbl hbA hl rfl rfl (by decide) hi hi2 hi3 dL_law_687 dL_law_688 rfl dL_law_689 dL_law_690 dL_law_691 rfl rfl rfl rfl rfl (fun u1 eu1 => ?_)
  refine l_arg (j := 2) (nj := 2) (q0 := 0) (q3 := 3) (pc' := 697) C hB hX hbl hbA hl rfl rfl (by decide) hi hi2 hi3 dL_law_692 dL_law_693 rfl dL_law_694 dL_law_695 dL_law_696 rfl rfl rfl rfl rfl (fun u2 eu2 => ?_)
  have hE0 := hE
  refine q_ci (pc' := 700) hB (l_runV (As := [.int u1, .int u2]) (rest := []) C hB (t_X11_watcher Γ l α hG x hKx u1 u2) lb_X11_watcher lv_X11_watcher lk_L_74 hKx (Nat.le_of_ble_eq_true rfl) (Nat.le_of_ble_eq_true rfl) ⟨Nat.le_trans (Nat.add_le_add_right hcs.1 _) (Nat.le_of_ble_eq_true rfl), Nat.le_trans (Nat.add_le_add_right hcs.2 _) (Nat.le_of_ble_eq_true rfl)⟩ rfl hl.1 rfl (Nat.le_of_ble_eq_true rfl) dL_law_697) (fun _ _ _ => trivial) rfl (fun r1 β H1 L1 p1 B1 => ?_)
  have hli1 := li_cw hli B1 p1 (by decide)
  refine lv_pop hx hb dL_law_700 rfl (hp_n (n := 701) rfl ?_)
  obtain ⟨hB, hG, hKx, hM, hR, hE, hRo⟩ := id hli1
  have hcs : cells + 0 ≤ 986 ∧ slots + 0 ≤ 148568 := by rcases hRo with ⟨-, h1, h2⟩ | ⟨-, h1, h2⟩ <;> omega
  refine lv_aload_n hx hb dL_law_701 rfl (lv_at hl 2 rfl) (hp_n (n := 702) rfl ?_)
  refine l_arg (j := 1) (nj := 1) (q0 := 0) (q3 := 3) (pc' := 707) C hB hX hbl hbA hl rfl rfl (by decide) hi hi2 hi3 dL_law_702 dL_law_703 rfl dL_law_704 dL_law_705 dL_law_706 rfl rfl rfl rfl rfl (fun w1 ew1 => ?_)
  refine l_arg (j := 2) (nj := 2) (q0 := 0) (q3 := 3) (pc' := 712) C hB hX hbl hbA hl rfl rfl (by decide) hi hi2 hi3 dL_law_707 dL_law_708 rfl dL_law_709 dL_law_710 dL_law_711 rfl rfl rfl rfl rfl (fun w2 ew2 => ?_)
  rw [← eu1] at ew1; have ew1 := ew1.symm; subst ew1
  rw [← eu2] at ew2; have ew2 := ew2.symm; subst ew2
  obtain ⟨⟨r2, τ⟩, hq, hp⟩ := ws_pr (ws_pr (s_watcher 70000 (by decide) σ hR u1 u2) (z_X12_watcher kq_rf)) (x_X12_watcher kf_rf)
  refine q_ci (pc' := 715) hB (l_runV (As := [.int u1, .int u2]) (rest := []) C hB (m_X12_watcher 70000 Γ l _ y ρ σ hM u1 u2 (r2, τ) hq) lb_X12_watcher lv_X12_watcher lk_L_77 hM.1 (Nat.le_of_ble_eq_true rfl) (Nat.le_of_ble_eq_true rfl) ⟨Nat.le_trans (Nat.add_le_add_right hcs.1 _) (Nat.le_of_ble_eq_true rfl), Nat.le_trans (Nat.add_le_add_right hcs.2 _) (Nat.le_of_ble_eq_true rfl)⟩ rfl hl.1 rfl (Nat.le_of_ble_eq_true rfl) dL_law_712) (fun _ _ _ => trivial) rfl (fun r3 γ H2 L2 p2 B2 => ?_)
  have hli2 := li0_mo (li_0 hli1) B2 p2.2.1 p2.2.2 hp.1.1.1 (lxc_kq hli1.2.2.2.2.2.1 p2.2.1 hp.1.2 hp.2 hp.1.1.2 hp.1.1.1)
  refine lv_pop hx hb dL_law_715 rfl (hp_n (n := 716) rfl ?_)
  refine lv_goto (tgt := 2391) hx hb dL_law_716 (by decide) ?_
  exact kk _ _ _ _ _ _ hli2
set_option maxRecDepth 100000 in
set_option maxHeartbeats 4000000 in
theorem lc_15 {p : Program} {l : Launch} {e : Env} {s : State} {m : MethodId} {below : List Frame} {meth : Method} {c : Code} {Γ : hp_G} {b Ln x y : Nat} {xs : Nat → Int32} {ρ : Nat → Nat} (C : hp_C Γ p m c cL_law 4 s #[Value.ref b] RL) (hX : va_X b Ln xs s s.heap) (hbl : b < s.heap.size) (hbA : ¬ hp_A Γ b) (hLn : Ln ≤ 3072) {α : hp_T} {σ : ms_T} {H : Heap} {L : List Loc} {cells slots : Nat} (hli : li Γ s x y ρ α σ H L cells slots) (i : Int32) (hi : 0 ≤ i.toInt) (hi2 : i.toInt + 6 ≤ (Ln : Int)) (ls : Array Slot) (hl : lv_has ls 4 [(0, .ref b), (1, .ref x), (2, .ref y), (3, .int i)]) (kk : ∀ (α : hp_T) (σ : ms_T) (H : Heap) (L : List Loc) (cells slots : Nat), li Γ s x y ρ α σ H L cells slots → W p l e room_1 s m #[Value.ref b] below meth c H L cells slots (lw_Z below #[Value.ref b] s) (F0 m 2391 ls [])) : W p l e room_1 s m #[Value.ref b] below meth c H L cells slots (lw_Z below #[Value.ref b] s) (F0 m 719 ls []) := by
  have hx := C.1.1
  have hb := C.1.2.1
  have hi3 : (Ln : Int) ≤ 3072 := by omega
  have hcs : cells ≤ 986 ∧ slots ≤ 148568 := by rcases hli.2.2.2.2.2.2 with ⟨-, h1, h2⟩ | ⟨-, h1, h2⟩ <;> omega
  obtain ⟨hB, hG, hKx, hM, hR, hE, hRo⟩ := id hli
  refine lv_aload_n hx hb dL_law_719 rfl (lv_at hl 1 rfl) (hp_n (n := 720) rfl ?_)
  refine l_arg (j := 1) (nj := 1) (q0 := 0) (q3 := 3) (pc' := 725) C hB hX hbl hbA hl rfl rfl (by decide) hi hi2 hi3 dL_law_720 dL_law_721 rfl dL_law_722 dL_law_723 dL_law_724 rfl rfl rfl rfl rfl (fun u1 eu1 => ?_)
  have hE0 := hE
  obtain ⟨tl, hty, htc⟩ := hE.1.2.2.2.2.2
  obtain ⟨res1, hq1, hv1, hv2, hv3⟩ := k_add 70000 (by decide) α x (ms_E σ 40) hR.2 (RWX_Z hG hE.1.2.2.1) tl htc u1
  refine q_ci (pc' := 728) hB (l_runV (As := [.int u1]) (rest := []) C hB (n_X11_add 70000 Γ l α hG x hKx u1 res1 hq1) lb_X11_add lv_X11_add lk_L_78 hKx (Nat.le_of_ble_eq_true rfl) (Nat.le_of_ble_eq_true rfl) ⟨Nat.le_trans (Nat.add_le_add_right hcs.1 _) (Nat.le_of_ble_eq_true rfl), Nat.le_trans (Nat.add_le_add_right hcs.2 _) (Nat.le_of_ble_eq_true rfl)⟩ rfl hl.1 rfl (Nat.le_of_ble_eq_true rfl) dL_law_725) (fun _ _ _ => trivial) rfl (fun r1 β H1 L1 p1 B1 => ?_)
  have hli1 := li0_cw hli B1 p1.2.2 (by decide)
  refine lv_pop hx hb dL_law_728 rfl (hp_n (n := 729) rfl ?_)
  obtain ⟨hB, hG, hKx, hM, hR, hE, hRo⟩ := id hli1
  have hcs : cells + 0 ≤ 986 ∧ slots + 0 ≤ 148568 := by rcases hRo with ⟨-, h1, h2⟩ | ⟨-, h1, h2⟩ <;> omega
  refine lv_aload_n hx hb dL_law_729 rfl (lv_at hl 2 rfl) (hp_n (n := 730) rfl ?_)
  refine l_arg (j := 1) (nj := 1) (q0 := 0) (q3 := 3) (pc' := 735) C hB hX hbl hbA hl rfl rfl (by decide) hi hi2 hi3 dL_law_730 dL_law_731 rfl dL_law_732 dL_law_733 dL_law_734 rfl rfl rfl rfl rfl (fun w1 ew1 => ?_)
  rw [← eu1] at ew1; have ew1 := ew1.symm; subst ew1
  obtain ⟨⟨r2, τ⟩, hq, hp⟩ := ws_pr (ws_pr (s_add 70000 (by decide) σ hR u1) (v_add 70000 σ hR.2 tl hty u1)) (y_X12_add kt_rf)
  refine q_ci (pc' := 738) hB (l_runV (As := [.int u1]) (rest := []) C hB (m_X12_add 70000 Γ l _ y ρ σ hM u1 (r2, τ) hq) lb_X12_add lv_X12_add lk_L_81 hM.1 (Nat.le_of_ble_eq_true rfl) (Nat.le_of_ble_eq_true rfl) ⟨Nat.le_trans (Nat.add_le_add_right hcs.1 _) (Nat.le_of_ble_eq_true rfl), Nat.le_trans (Nat.add_le_add_right hcs.2 _) (Nat.le_of_ble_eq_true rfl)⟩ rfl hl.1 rfl (Nat.le_of_ble_eq_true rfl) dL_law_735) (fun _ _ _ => trivial) rfl (fun r3 γ H2 L2 p2 B2 => ?_)
  have hli2 := li0_mo hli1 B2 p2.2.1 p2.2.2 hp.1.1.1 ⟨LX_mo (LX_wfs hE0.1 (by rw [p1.2.1]; exact hv2 _ hp.1.1.1.2 hp.1.2.2) hp.1.1.1.2 (AL_ad hR.2 hE0.1.2.2.2.1 hp.1.2.2) (by rw [p1.2.1]; exact hv3) hp.2 hp.1.1.2) p2.2.1, CX_m (CX_act hE0.2 p1.2.2 (by decide) (by rw [p1.2.1]; exact hv3) (pd_ad hp.1.2.2) hR.2) p2.2.1⟩
  refine lv_pop hx hb dL_law_738 rfl (hp_n (n := 739) rfl ?_)
  refine lv_goto (tgt := 2391) hx hb dL_law_739 (by decide) ?_
  exact kk _ _ _ _ _ _ hli2
set_option maxRecDepth 100000 in
set_option maxHeartbeats 4000000 in
theorem lc_16 {p : Program} {l : Launch} {e : Env} {s : State} {m : MethodId} {below : List Frame} {meth : Method} {c : Code} {Γ : hp_G} {b Ln x y : Nat} {xs : Nat → Int32} {ρ : Nat → Nat} (C : hp_C Γ p m c cL_law 4 s #[Value.ref b] RL) (hX : va_X b Ln xs s s.heap) (hbl : b < s.heap.size) (hbA : ¬ hp_A Γ b) (hLn : Ln ≤ 3072) {α : hp_T} {σ : ms_T} {H : Heap} {L : List Loc} {cells slots : Nat} (hli : li Γ s x y ρ α σ H L cells slots) (i : Int32) (hi : 0 ≤ i.toInt) (hi2 : i.toInt + 6 ≤ (Ln : Int)) (ls : Array Slot) (hl : lv_has ls 4 [(0, .ref b), (1, .ref x), (2, .ref y), (3, .int i)]) (kk : ∀ (α : hp_T) (σ : ms_T) (H : Heap) (L : List Loc) (cells slots : Nat), li Γ s x y ρ α σ H L cells slots → W p l e room_1 s m #[Value.ref b] below meth c H L cells slots (lw_Z below #[Value.ref b] s) (F0 m 2391 ls [])) : W p l e room_1 s m #[Value.ref b] below meth c H L cells slots (lw_Z below #[Value.ref b] s) (F0 m 742 ls []) := by
  have hx := C.1.1
  have hb := C.1.2.1
  have hi3 : (Ln : Int) ≤ 3072 := by omega
  have hcs : cells ≤ 986 ∧ slots ≤ 148568 := by rcases hli.2.2.2.2.2.2 with ⟨-, h1, h2⟩ | ⟨-, h1, h2⟩ <;> omega
  obtain ⟨hB, hG, hKx, hM, hR, hE, hRo⟩ := id hli
  refine lv_aload_n hx hb dL_law_742 rfl (lv_at hl 1 rfl) (hp_n (n := 743) rfl ?_)
  refine l_arg (j := 1) (nj := 1) (q0 := 0) (q3 := 3) (pc' := 748) C hB hX hbl hbA hl rfl rfl (by decide) hi hi2 hi3 dL_law_743 dL_law_744 rfl dL_law_745 dL_law_746 dL_law_747 rfl rfl rfl rfl rfl (fun u1 eu1 => ?_)
  refine l_arg (j := 2) (nj := 2) (q0 := 0) (q3 := 3) (pc' := 753) C hB hX hbl hbA hl rfl rfl (by decide) hi hi2 hi3 dL_law_748 dL_law_749 rfl dL_law_750 dL_law_751 dL_law_752 rfl rfl rfl rfl rfl (fun u2 eu2 => ?_)
  have hE0 := hE
  obtain ⟨res1, hq1, hv1, hv2, hv3⟩ := k_fork 70000 (by decide) α x (ms_E σ 40) hR.2 (RWX_Z hG hE.1.2.2.1) u1 u2
  refine q_ci (pc' := 756) hB (l_runV (As := [.int u1, .int u2]) (rest := []) C hB (n_X11_fork 70000 Γ l α hG x hKx u1 u2 res1 hq1) lb_X11_fork lv_X11_fork lk_L_82 hKx (Nat.le_of_ble_eq_true rfl) (Nat.le_of_ble_eq_true rfl) ⟨Nat.le_trans (Nat.add_le_add_right hcs.1 _) (Nat.le_of_ble_eq_true rfl), Nat.le_trans (Nat.add_le_add_right hcs.2 _) (Nat.le_of_ble_eq_true rfl)⟩ rfl hl.1 rfl (Nat.le_of_ble_eq_true rfl) dL_law_753) (fun _ _ _ => trivial) rfl (fun r1 β H1 L1 p1 B1 => ?_)
  have hli1 := li0_cw hli B1 p1.2.2 (by decide)
  refine lv_pop hx hb dL_law_756 rfl (hp_n (n := 757) rfl ?_)
  obtain ⟨hB, hG, hKx, hM, hR, hE, hRo⟩ := id hli1
  have hcs : cells + 0 ≤ 986 ∧ slots + 0 ≤ 148568 := by rcases hRo with ⟨-, h1, h2⟩ | ⟨-, h1, h2⟩ <;> omega
  refine lv_aload_n hx hb dL_law_757 rfl (lv_at hl 2 rfl) (hp_n (n := 758) rfl ?_)
  refine l_arg (j := 1) (nj := 1) (q0 := 0) (q3 := 3) (pc' := 763) C hB hX hbl hbA hl rfl rfl (by decide) hi hi2 hi3 dL_law_758 dL_law_759 rfl dL_law_760 dL_law_761 dL_law_762 rfl rfl rfl rfl rfl (fun w1 ew1 => ?_)
  refine l_arg (j := 2) (nj := 2) (q0 := 0) (q3 := 3) (pc' := 768) C hB hX hbl hbA hl rfl rfl (by decide) hi hi2 hi3 dL_law_763 dL_law_764 rfl dL_law_765 dL_law_766 dL_law_767 rfl rfl rfl rfl rfl (fun w2 ew2 => ?_)
  rw [← eu1] at ew1; have ew1 := ew1.symm; subst ew1
  rw [← eu2] at ew2; have ew2 := ew2.symm; subst ew2
  obtain ⟨⟨r2, τ⟩, hq, hp⟩ := ws_pr (ws_pr (s_fork 70000 (by decide) σ hR u1 u2) (v_fork 70000 σ hR.2 u1 u2)) (y_X12_fork kt_rf)
  refine q_ci (pc' := 771) hB (l_runV (As := [.int u1, .int u2]) (rest := []) C hB (m_X12_fork 70000 Γ l _ y ρ σ hM u1 u2 (r2, τ) hq) lb_X12_fork lv_X12_fork lk_L_85 hM.1 (Nat.le_of_ble_eq_true rfl) (Nat.le_of_ble_eq_true rfl) ⟨Nat.le_trans (Nat.add_le_add_right hcs.1 _) (Nat.le_of_ble_eq_true rfl), Nat.le_trans (Nat.add_le_add_right hcs.2 _) (Nat.le_of_ble_eq_true rfl)⟩ rfl hl.1 rfl (Nat.le_of_ble_eq_true rfl) dL_law_768) (fun _ _ _ => trivial) rfl (fun r3 γ H2 L2 p2 B2 => ?_)
  have hli2 := li0_mo hli1 B2 p2.2.1 p2.2.2 hp.1.1.1 ⟨LX_mo (LX_wfs hE0.1 (by rw [p1.2.1]; exact hv2 _ hp.1.1.1.2 hp.1.2.2) hp.1.1.1.2 (AL_fo hR.2 hE0.1.2.2.2.1 hp.1.2.2) (by rw [p1.2.1]; exact hv3) hp.2 hp.1.1.2) p2.2.1, CX_m (CX_act hE0.2 p1.2.2 (by decide) (by rw [p1.2.1]; exact hv3) (pd_fo hp.1.2.2) hR.2) p2.2.1⟩
  refine lv_pop hx hb dL_law_771 rfl (hp_n (n := 772) rfl ?_)
  refine lv_goto (tgt := 2391) hx hb dL_law_772 (by decide) ?_
  exact kk _ _ _ _ _ _ hli2
set_option maxRecDepth 100000 in
set_option maxHeartbeats 4000000 in
theorem lc_17 {p : Program} {l : Launch} {e : Env} {s : State} {m : MethodId} {below : List Frame} {meth : Method} {c : Code} {Γ : hp_G} {b Ln x y : Nat} {xs : Nat → Int32} {ρ : Nat → Nat} (C : hp_C Γ p m c cL_law 4 s #[Value.ref b] RL) (hX : va_X b Ln xs s s.heap) (hbl : b < s.heap.size) (hbA : ¬ hp_A Γ b) (hLn : Ln ≤ 3072) {α : hp_T} {σ : ms_T} {H : Heap} {L : List Loc} {cells slots : Nat} (hli : li Γ s x y ρ α σ H L cells slots) (i : Int32) (hi : 0 ≤ i.toInt) (hi2 : i.toInt + 6 ≤ (Ln : Int)) (ls : Array Slot) (hl : lv_has ls 4 [(0, .ref b), (1, .ref x), (2, .ref y), (3, .int i)]) (kk : ∀ (α : hp_T) (σ : ms_T) (H : Heap) (L : List Loc) (cells slots : Nat), li Γ s x y ρ α σ H L cells slots → W p l e room_1 s m #[Value.ref b] below meth c H L cells slots (lw_Z below #[Value.ref b] s) (F0 m 2391 ls [])) : W p l e room_1 s m #[Value.ref b] below meth c H L cells slots (lw_Z below #[Value.ref b] s) (F0 m 775 ls []) := by
  have hx := C.1.1
  have hb := C.1.2.1
  have hi3 : (Ln : Int) ≤ 3072 := by omega
  have hcs : cells ≤ 986 ∧ slots ≤ 148568 := by rcases hli.2.2.2.2.2.2 with ⟨-, h1, h2⟩ | ⟨-, h1, h2⟩ <;> omega
  obtain ⟨hB, hG, hKx, hM, hR, hE, hRo⟩ := id hli
  refine lv_aload_n hx hb dL_law_775 rfl (lv_at hl 1 rfl) (hp_n (n := 776) rfl ?_)
  refine l_arg (j := 1) (nj := 1) (q0 := 0) (q3 := 3) (pc' := 781) C hB hX hbl hbA hl rfl rfl (by decide) hi hi2 hi3 dL_law_776 dL_law_777 rfl dL_law_778 dL_law_779 dL_law_780 rfl rfl rfl rfl rfl (fun u1 eu1 => ?_)
  have hE0 := hE
  obtain ⟨res1, hq1, hv1, hv2, hv3⟩ := k_freeze 70000 (by decide) α x (ms_E σ 40) hR.2 (RWX_Z hG hE.1.2.2.1) u1
  refine q_ci (pc' := 784) hB (l_runV (As := [.int u1]) (rest := []) C hB (n_X11_freeze 70000 Γ l α hG x hKx u1 res1 hq1) lb_X11_freeze lv_X11_freeze lk_L_86 hKx (Nat.le_of_ble_eq_true rfl) (Nat.le_of_ble_eq_true rfl) ⟨Nat.le_trans (Nat.add_le_add_right hcs.1 _) (Nat.le_of_ble_eq_true rfl), Nat.le_trans (Nat.add_le_add_right hcs.2 _) (Nat.le_of_ble_eq_true rfl)⟩ rfl hl.1 rfl (Nat.le_of_ble_eq_true rfl) dL_law_781) (fun _ _ _ => trivial) rfl (fun r1 β H1 L1 p1 B1 => ?_)
  have hli1 := li0_cw hli B1 p1.2.2 (by decide)
  refine lv_pop hx hb dL_law_784 rfl (hp_n (n := 785) rfl ?_)
  obtain ⟨hB, hG, hKx, hM, hR, hE, hRo⟩ := id hli1
  have hcs : cells + 0 ≤ 986 ∧ slots + 0 ≤ 148568 := by rcases hRo with ⟨-, h1, h2⟩ | ⟨-, h1, h2⟩ <;> omega
  refine lv_aload_n hx hb dL_law_785 rfl (lv_at hl 2 rfl) (hp_n (n := 786) rfl ?_)
  refine l_arg (j := 1) (nj := 1) (q0 := 0) (q3 := 3) (pc' := 791) C hB hX hbl hbA hl rfl rfl (by decide) hi hi2 hi3 dL_law_786 dL_law_787 rfl dL_law_788 dL_law_789 dL_law_790 rfl rfl rfl rfl rfl (fun w1 ew1 => ?_)
  rw [← eu1] at ew1; have ew1 := ew1.symm; subst ew1
  obtain ⟨⟨r2, τ⟩, hq, hp⟩ := ws_pr (ws_pr (s_freeze 70000 (by decide) σ hR u1) (v_freeze 70000 σ hR.2 u1)) (y_X12_freeze kt_rf)
  refine q_ci (pc' := 794) hB (l_runV (As := [.int u1]) (rest := []) C hB (m_X12_freeze 70000 Γ l _ y ρ σ hM u1 (r2, τ) hq) lb_X12_freeze lv_X12_freeze lk_L_89 hM.1 (Nat.le_of_ble_eq_true rfl) (Nat.le_of_ble_eq_true rfl) ⟨Nat.le_trans (Nat.add_le_add_right hcs.1 _) (Nat.le_of_ble_eq_true rfl), Nat.le_trans (Nat.add_le_add_right hcs.2 _) (Nat.le_of_ble_eq_true rfl)⟩ rfl hl.1 rfl (Nat.le_of_ble_eq_true rfl) dL_law_791) (fun _ _ _ => trivial) rfl (fun r3 γ H2 L2 p2 B2 => ?_)
  have hli2 := li0_mo hli1 B2 p2.2.1 p2.2.2 hp.1.1.1 ⟨LX_mo (LX_wfs hE0.1 (by rw [p1.2.1]; exact hv2 _ hp.1.1.1.2 hp.1.2.2) hp.1.1.1.2 (AL_fz hR.2 hE0.1.2.2.2.1 hp.1.2.2) (by rw [p1.2.1]; exact hv3) hp.2 hp.1.1.2) p2.2.1, CX_m (CX_act hE0.2 p1.2.2 (by decide) (by rw [p1.2.1]; exact hv3) (pd_fz hp.1.2.2) hR.2) p2.2.1⟩
  refine lv_pop hx hb dL_law_794 rfl (hp_n (n := 795) rfl ?_)
  refine lv_goto (tgt := 2391) hx hb dL_law_795 (by decide) ?_
  exact kk _ _ _ _ _ _ hli2
set_option maxRecDepth 100000 in
set_option maxHeartbeats 4000000 in
theorem lc_18 {p : Program} {l : Launch} {e : Env} {s : State} {m : MethodId} {below : List Frame} {meth : Method} {c : Code} {Γ : hp_G} {b Ln x y : Nat} {xs : Nat → Int32} {ρ : Nat → Nat} (C : hp_C Γ p m c cL_law 4 s #[Value.ref b] RL) (hX : va_X b Ln xs s s.heap) (hbl : b < s.heap.size) (hbA : ¬ hp_A Γ b) (hLn : Ln ≤ 3072) {α : hp_T} {σ : ms_T} {H : Heap} {L : List Loc} {cells slots : Nat} (hli : li Γ s x y ρ α σ H L cells slots) (i : Int32) (hi : 0 ≤ i.toInt) (hi2 : i.toInt + 6 ≤ (Ln : Int)) (ls : Array Slot) (hl : lv_has ls 4 [(0, .ref b), (1, .ref x), (2, .ref y), (3, .int i)]) (kk : ∀ (α : hp_T) (σ : ms_T) (H : Heap) (L : List Loc) (cells slots : Nat), li Γ s x y ρ α σ H L cells slots → W p l e room_1 s m #[Value.ref b] below meth c H L cells slots (lw_Z below #[Value.ref b] s) (F0 m 2391 ls [])) : W p l e room_1 s m #[Value.ref b] below meth c H L cells slots (lw_Z below #[Value.ref b] s) (F0 m 798 ls []) := by
  have hx := C.1.1
  have hb := C.1.2.1
  have hi3 : (Ln : Int) ≤ 3072 := by omega
  have hcs : cells ≤ 986 ∧ slots ≤ 148568 := by rcases hli.2.2.2.2.2.2 with ⟨-, h1, h2⟩ | ⟨-, h1, h2⟩ <;> omega
  obtain ⟨hB, hG, hKx, hM, hR, hE, hRo⟩ := id hli
  refine lv_aload_n hx hb dL_law_798 rfl (lv_at hl 1 rfl) (hp_n (n := 799) rfl ?_)
  refine l_arg (j := 1) (nj := 1) (q0 := 0) (q3 := 3) (pc' := 804) C hB hX hbl hbA hl rfl rfl (by decide) hi hi2 hi3 dL_law_799 dL_law_800 rfl dL_law_801 dL_law_802 dL_law_803 rfl rfl rfl rfl rfl (fun u1 eu1 => ?_)
  refine l_arg (j := 2) (nj := 2) (q0 := 0) (q3 := 3) (pc' := 809) C hB hX hbl hbA hl rfl rfl (by decide) hi hi2 hi3 dL_law_804 dL_law_805 rfl dL_law_806 dL_law_807 dL_law_808 rfl rfl rfl rfl rfl (fun u2 eu2 => ?_)
  refine l_arg (j := 3) (nj := 3) (q0 := 0) (q3 := 3) (pc' := 814) C hB hX hbl hbA hl rfl rfl (by decide) hi hi2 hi3 dL_law_809 dL_law_810 rfl dL_law_811 dL_law_812 dL_law_813 rfl rfl rfl rfl rfl (fun u3 eu3 => ?_)
  have hE0 := hE
  obtain ⟨res1, hq1, hv1, hv2, hv3⟩ := k_show 70000 (by decide) α x (ms_E σ 40) hR.2 hE.1.2.2.2.1 (RWX_Z hG hE.1.2.2.1) u1 u2 u3
  refine q_ci (pc' := 817) hB (l_runV (As := [.int u1, .int u2, .int u3]) (rest := []) C hB (n_X11_show 70000 Γ l α hG x hKx u1 u2 u3 res1 hq1) lb_X11_show lv_X11_show lk_L_90 hKx (Nat.le_of_ble_eq_true rfl) (Nat.le_of_ble_eq_true rfl) ⟨Nat.le_trans (Nat.add_le_add_right hcs.1 _) (Nat.le_of_ble_eq_true rfl), Nat.le_trans (Nat.add_le_add_right hcs.2 _) (Nat.le_of_ble_eq_true rfl)⟩ rfl hl.1 rfl (Nat.le_of_ble_eq_true rfl) dL_law_814) (fun _ _ _ => trivial) rfl (fun r1 β H1 L1 p1 B1 => ?_)
  have hli1 := li0_cw hli B1 p1.2.2 (by decide)
  refine lv_pop hx hb dL_law_817 rfl (hp_n (n := 818) rfl ?_)
  obtain ⟨hB, hG, hKx, hM, hR, hE, hRo⟩ := id hli1
  have hcs : cells + 0 ≤ 986 ∧ slots + 0 ≤ 148568 := by rcases hRo with ⟨-, h1, h2⟩ | ⟨-, h1, h2⟩ <;> omega
  refine lv_aload_n hx hb dL_law_818 rfl (lv_at hl 2 rfl) (hp_n (n := 819) rfl ?_)
  refine l_arg (j := 1) (nj := 1) (q0 := 0) (q3 := 3) (pc' := 824) C hB hX hbl hbA hl rfl rfl (by decide) hi hi2 hi3 dL_law_819 dL_law_820 rfl dL_law_821 dL_law_822 dL_law_823 rfl rfl rfl rfl rfl (fun w1 ew1 => ?_)
  refine l_arg (j := 2) (nj := 2) (q0 := 0) (q3 := 3) (pc' := 829) C hB hX hbl hbA hl rfl rfl (by decide) hi hi2 hi3 dL_law_824 dL_law_825 rfl dL_law_826 dL_law_827 dL_law_828 rfl rfl rfl rfl rfl (fun w2 ew2 => ?_)
  refine l_arg (j := 3) (nj := 3) (q0 := 0) (q3 := 3) (pc' := 834) C hB hX hbl hbA hl rfl rfl (by decide) hi hi2 hi3 dL_law_829 dL_law_830 rfl dL_law_831 dL_law_832 dL_law_833 rfl rfl rfl rfl rfl (fun w3 ew3 => ?_)
  rw [← eu1] at ew1; have ew1 := ew1.symm; subst ew1
  rw [← eu2] at ew2; have ew2 := ew2.symm; subst ew2
  rw [← eu3] at ew3; have ew3 := ew3.symm; subst ew3
  obtain ⟨⟨r2, τ⟩, hq, hp⟩ := ws_pr (ws_pr (s_show 70000 (by decide) σ hR u1 u2 u3) (v_show 70000 σ hR.2 u1 u2 u3)) (y_X12_show kt_rf)
  refine q_ci (pc' := 837) hB (l_runV (As := [.int u1, .int u2, .int u3]) (rest := []) C hB (m_X12_show 70000 Γ l _ y ρ σ hM u1 u2 u3 (r2, τ) hq) lb_X12_show lv_X12_show lk_L_93 hM.1 (Nat.le_of_ble_eq_true rfl) (Nat.le_of_ble_eq_true rfl) ⟨Nat.le_trans (Nat.add_le_add_right hcs.1 _) (Nat.le_of_ble_eq_true rfl), Nat.le_trans (Nat.add_le_add_right hcs.2 _) (Nat.le_of_ble_eq_true rfl)⟩ rfl hl.1 rfl (Nat.le_of_ble_eq_true rfl) dL_law_834) (fun _ _ _ => trivial) rfl (fun r3 γ H2 L2 p2 B2 => ?_)
  have hli2 := li0_mo hli1 B2 p2.2.1 p2.2.2 hp.1.1.1 ⟨LX_mo (LX_wfs hE0.1 (by rw [p1.2.1]; exact hv2 _ hp.1.1.1.2 hp.1.2.2) hp.1.1.1.2 (AL_sh hR.2 hE0.1.2.2.2.1 hp.1.2.2) (by rw [p1.2.1]; exact hv3) hp.2 hp.1.1.2) p2.2.1, CX_m (CX_act hE0.2 p1.2.2 (by decide) (by rw [p1.2.1]; exact hv3) (pd_sh hp.1.2.2) hR.2) p2.2.1⟩
  refine lv_pop hx hb dL_law_837 rfl (hp_n (n := 838) rfl ?_)
  refine lv_goto (tgt := 2391) hx hb dL_law_838 (by decide) ?_
  exact kk _ _ _ _ _ _ hli2
set_option maxRecDepth 100000 in
set_option maxHeartbeats 4000000 in
theorem lc_19 {p : Program} {l : Launch} {e : Env} {s : State} {m : MethodId} {below : List Frame} {meth : Method} {c : Code} {Γ : hp_G} {b Ln x y : Nat} {xs : Nat → Int32} {ρ : Nat → Nat} (C : hp_C Γ p m c cL_law 4 s #[Value.ref b] RL) (hX : va_X b Ln xs s s.heap) (hbl : b < s.heap.size) (hbA : ¬ hp_A Γ b) (hLn : Ln ≤ 3072) {α : hp_T} {σ : ms_T} {H : Heap} {L : List Loc} {cells slots : Nat} (hli : li Γ s x y ρ α σ H L cells slots) (i : Int32) (hi : 0 ≤ i.toInt) (hi2 : i.toInt + 6 ≤ (Ln : Int)) (ls : Array Slot) (hl : lv_has ls 4 [(0, .ref b), (1, .ref x), (2, .ref y), (3, .int i)]) (kk : ∀ (α : hp_T) (σ : ms_T) (H : Heap) (L : List Loc) (cells slots : Nat), li Γ s x y ρ α σ H L cells slots → W p l e room_1 s m #[Value.ref b] below meth c H L cells slots (lw_Z below #[Value.ref b] s) (F0 m 2391 ls [])) : W p l e room_1 s m #[Value.ref b] below meth c H L cells slots (lw_Z below #[Value.ref b] s) (F0 m 841 ls []) := by
  have hx := C.1.1
  have hb := C.1.2.1
  have hi3 : (Ln : Int) ≤ 3072 := by omega
  have hcs : cells ≤ 986 ∧ slots ≤ 148568 := by rcases hli.2.2.2.2.2.2 with ⟨-, h1, h2⟩ | ⟨-, h1, h2⟩ <;> omega
  obtain ⟨hB, hG, hKx, hM, hR, hE, hRo⟩ := id hli
  refine lv_aload_n hx hb dL_law_841 rfl (lv_at hl 1 rfl) (hp_n (n := 842) rfl ?_)
  refine l_arg (j := 1) (nj := 1) (q0 := 0) (q3 := 3) (pc' := 847) C hB hX hbl hbA hl rfl rfl (by decide) hi hi2 hi3 dL_law_842 dL_law_843 rfl dL_law_844 dL_law_845 dL_law_846 rfl rfl rfl rfl rfl (fun u1 eu1 => ?_)
  refine l_arg (j := 2) (nj := 2) (q0 := 0) (q3 := 3) (pc' := 852) C hB hX hbl hbA hl rfl rfl (by decide) hi hi2 hi3 dL_law_847 dL_law_848 rfl dL_law_849 dL_law_850 dL_law_851 rfl rfl rfl rfl rfl (fun u2 eu2 => ?_)
  refine l_arg (j := 3) (nj := 3) (q0 := 0) (q3 := 3) (pc' := 857) C hB hX hbl hbA hl rfl rfl (by decide) hi hi2 hi3 dL_law_852 dL_law_853 rfl dL_law_854 dL_law_855 dL_law_856 rfl rfl rfl rfl rfl (fun u3 eu3 => ?_)
  have hE0 := hE
  obtain ⟨res1, hq1, hv1, hv2, hv3⟩ := k_meet 70000 (by decide) α x (ms_E σ 40) hR.2 hE.1.2.2.2.1 (RWX_Z hG hE.1.2.2.1) u1 u2 u3
  refine q_ci (pc' := 860) hB (l_runV (As := [.int u1, .int u2, .int u3]) (rest := []) C hB (n_X11_meet 70000 Γ l α hG x hKx u1 u2 u3 res1 hq1) lb_X11_meet lv_X11_meet lk_L_94 hKx (Nat.le_of_ble_eq_true rfl) (Nat.le_of_ble_eq_true rfl) ⟨Nat.le_trans (Nat.add_le_add_right hcs.1 _) (Nat.le_of_ble_eq_true rfl), Nat.le_trans (Nat.add_le_add_right hcs.2 _) (Nat.le_of_ble_eq_true rfl)⟩ rfl hl.1 rfl (Nat.le_of_ble_eq_true rfl) dL_law_857) (fun _ _ _ => trivial) rfl (fun r1 β H1 L1 p1 B1 => ?_)
  have hli1 := li0_cw hli B1 p1.2.2 (by decide)
  refine lv_pop hx hb dL_law_860 rfl (hp_n (n := 861) rfl ?_)
  obtain ⟨hB, hG, hKx, hM, hR, hE, hRo⟩ := id hli1
  have hcs : cells + 0 ≤ 986 ∧ slots + 0 ≤ 148568 := by rcases hRo with ⟨-, h1, h2⟩ | ⟨-, h1, h2⟩ <;> omega
  refine lv_aload_n hx hb dL_law_861 rfl (lv_at hl 2 rfl) (hp_n (n := 862) rfl ?_)
  refine l_arg (j := 1) (nj := 1) (q0 := 0) (q3 := 3) (pc' := 867) C hB hX hbl hbA hl rfl rfl (by decide) hi hi2 hi3 dL_law_862 dL_law_863 rfl dL_law_864 dL_law_865 dL_law_866 rfl rfl rfl rfl rfl (fun w1 ew1 => ?_)
  refine l_arg (j := 2) (nj := 2) (q0 := 0) (q3 := 3) (pc' := 872) C hB hX hbl hbA hl rfl rfl (by decide) hi hi2 hi3 dL_law_867 dL_law_868 rfl dL_law_869 dL_law_870 dL_law_871 rfl rfl rfl rfl rfl (fun w2 ew2 => ?_)
  refine l_arg (j := 3) (nj := 3) (q0 := 0) (q3 := 3) (pc' := 877) C hB hX hbl hbA hl rfl rfl (by decide) hi hi2 hi3 dL_law_872 dL_law_873 rfl dL_law_874 dL_law_875 dL_law_876 rfl rfl rfl rfl rfl (fun w3 ew3 => ?_)
  rw [← eu1] at ew1; have ew1 := ew1.symm; subst ew1
  rw [← eu2] at ew2; have ew2 := ew2.symm; subst ew2
  rw [← eu3] at ew3; have ew3 := ew3.symm; subst ew3
  obtain ⟨⟨r2, τ⟩, hq, hp⟩ := ws_pr (ws_pr (s_meet 70000 (by decide) σ hR u1 u2 u3) (v_meet 70000 σ hR.2 u1 u2 u3)) (y_X12_meet kt_rf)
  refine q_ci (pc' := 880) hB (l_runV (As := [.int u1, .int u2, .int u3]) (rest := []) C hB (m_X12_meet 70000 Γ l _ y ρ σ hM u1 u2 u3 (r2, τ) hq) lb_X12_meet lv_X12_meet lk_L_97 hM.1 (Nat.le_of_ble_eq_true rfl) (Nat.le_of_ble_eq_true rfl) ⟨Nat.le_trans (Nat.add_le_add_right hcs.1 _) (Nat.le_of_ble_eq_true rfl), Nat.le_trans (Nat.add_le_add_right hcs.2 _) (Nat.le_of_ble_eq_true rfl)⟩ rfl hl.1 rfl (Nat.le_of_ble_eq_true rfl) dL_law_877) (fun _ _ _ => trivial) rfl (fun r3 γ H2 L2 p2 B2 => ?_)
  have hli2 := li0_mo hli1 B2 p2.2.1 p2.2.2 hp.1.1.1 ⟨LX_mo (LX_wfs hE0.1 (by rw [p1.2.1]; exact hv2 _ hp.1.1.1.2 hp.1.2.2) hp.1.1.1.2 (AL_me hR.2 hE0.1.2.2.2.1 hp.1.2.2) (by rw [p1.2.1]; exact hv3) hp.2 hp.1.1.2) p2.2.1, CX_m (CX_act hE0.2 p1.2.2 (by decide) (by rw [p1.2.1]; exact hv3) (pd_me hp.1.2.2) hR.2) p2.2.1⟩
  refine lv_pop hx hb dL_law_880 rfl (hp_n (n := 881) rfl ?_)
  refine lv_goto (tgt := 2391) hx hb dL_law_881 (by decide) ?_
  exact kk _ _ _ _ _ _ hli2
set_option maxRecDepth 100000 in
set_option maxHeartbeats 4000000 in
theorem lc_20 {p : Program} {l : Launch} {e : Env} {s : State} {m : MethodId} {below : List Frame} {meth : Method} {c : Code} {Γ : hp_G} {b Ln x y : Nat} {xs : Nat → Int32} {ρ : Nat → Nat} (C : hp_C Γ p m c cL_law 4 s #[Value.ref b] RL) (hX : va_X b Ln xs s s.heap) (hbl : b < s.heap.size) (hbA : ¬ hp_A Γ b) (hLn : Ln ≤ 3072) {α : hp_T} {σ : ms_T} {H : Heap} {L : List Loc} {cells slots : Nat} (hli : li Γ s x y ρ α σ H L cells slots) (i : Int32) (hi : 0 ≤ i.toInt) (hi2 : i.toInt + 6 ≤ (Ln : Int)) (ls : Array Slot) (hl : lv_has ls 4 [(0, .ref b), (1, .ref x), (2, .ref y), (3, .int i)]) (kk : ∀ (α : hp_T) (σ : ms_T) (H : Heap) (L : List Loc) (cells slots : Nat), li Γ s x y ρ α σ H L cells slots → W p l e room_1 s m #[Value.ref b] below meth c H L cells slots (lw_Z below #[Value.ref b] s) (F0 m 2391 ls [])) : W p l e room_1 s m #[Value.ref b] below meth c H L cells slots (lw_Z below #[Value.ref b] s) (F0 m 884 ls []) := by
  have hx := C.1.1
  have hb := C.1.2.1
  have hi3 : (Ln : Int) ≤ 3072 := by omega
  have hcs : cells ≤ 986 ∧ slots ≤ 148568 := by rcases hli.2.2.2.2.2.2 with ⟨-, h1, h2⟩ | ⟨-, h1, h2⟩ <;> omega
  obtain ⟨hB, hG, hKx, hM, hR, hE, hRo⟩ := id hli
  refine lv_aload_n hx hb dL_law_884 rfl (lv_at hl 1 rfl) (hp_n (n := 885) rfl ?_)
  refine l_arg (j := 1) (nj := 1) (q0 := 0) (q3 := 3) (pc' := 890) C hB hX hbl hbA hl rfl rfl (by decide) hi hi2 hi3 dL_law_885 dL_law_886 rfl dL_law_887 dL_law_888 dL_law_889 rfl rfl rfl rfl rfl (fun u1 eu1 => ?_)
  refine l_arg (j := 2) (nj := 2) (q0 := 0) (q3 := 3) (pc' := 895) C hB hX hbl hbA hl rfl rfl (by decide) hi hi2 hi3 dL_law_890 dL_law_891 rfl dL_law_892 dL_law_893 dL_law_894 rfl rfl rfl rfl rfl (fun u2 eu2 => ?_)
  refine l_arg (j := 3) (nj := 3) (q0 := 0) (q3 := 3) (pc' := 900) C hB hX hbl hbA hl rfl rfl (by decide) hi hi2 hi3 dL_law_895 dL_law_896 rfl dL_law_897 dL_law_898 dL_law_899 rfl rfl rfl rfl rfl (fun u3 eu3 => ?_)
  refine l_arg (j := 4) (nj := 4) (q0 := 0) (q3 := 3) (pc' := 905) C hB hX hbl hbA hl rfl rfl (by decide) hi hi2 hi3 dL_law_900 dL_law_901 rfl dL_law_902 dL_law_903 dL_law_904 rfl rfl rfl rfl rfl (fun u4 eu4 => ?_)
  have hE0 := hE
  obtain ⟨res1, hq1, hv1, hv2, hv3⟩ := k_spoil 70000 (by decide) α x (ms_E σ 40) hR.2 (RWX_Z hG hE.1.2.2.1) u1 u2 u3 u4
  refine q_ci (pc' := 908) hB (l_runV (As := [.int u1, .int u2, .int u3, .int u4]) (rest := []) C hB (n_X11_spoil 70000 Γ l α hG x hKx u1 u2 u3 u4 res1 hq1) lb_X11_spoil lv_X11_spoil lk_L_98 hKx (Nat.le_of_ble_eq_true rfl) (Nat.le_of_ble_eq_true rfl) ⟨Nat.le_trans (Nat.add_le_add_right hcs.1 _) (Nat.le_of_ble_eq_true rfl), Nat.le_trans (Nat.add_le_add_right hcs.2 _) (Nat.le_of_ble_eq_true rfl)⟩ rfl hl.1 rfl (Nat.le_of_ble_eq_true rfl) dL_law_905) (fun _ _ _ => trivial) rfl (fun r1 β H1 L1 p1 B1 => ?_)
  have hli1 := li0_cw hli B1 p1.2.2 (by decide)
  refine lv_pop hx hb dL_law_908 rfl (hp_n (n := 909) rfl ?_)
  obtain ⟨hB, hG, hKx, hM, hR, hE, hRo⟩ := id hli1
  have hcs : cells + 0 ≤ 986 ∧ slots + 0 ≤ 148568 := by rcases hRo with ⟨-, h1, h2⟩ | ⟨-, h1, h2⟩ <;> omega
  refine lv_aload_n hx hb dL_law_909 rfl (lv_at hl 2 rfl) (hp_n (n := 910) rfl ?_)
  refine l_arg (j := 1) (nj := 1) (q0 := 0) (q3 := 3) (pc' := 915) C hB hX hbl hbA hl rfl rfl (by decide) hi hi2 hi3 dL_law_910 dL_law_911 rfl dL_law_912 dL_law_913 dL_law_914 rfl rfl rfl rfl rfl (fun w1 ew1 => ?_)
  refine l_arg (j := 2) (nj := 2) (q0 := 0) (q3 := 3) (pc' := 920) C hB hX hbl hbA hl rfl rfl (by decide) hi hi2 hi3 dL_law_915 dL_law_916 rfl dL_law_917 dL_law_918 dL_law_919 rfl rfl rfl rfl rfl (fun w2 ew2 => ?_)
  refine l_arg (j := 3) (nj := 3) (q0 := 0) (q3 := 3) (pc' := 925) C hB hX hbl hbA hl rfl rfl (by decide) hi hi2 hi3 dL_law_920 dL_law_921 rfl dL_law_922 dL_law_923 dL_law_924 rfl rfl rfl rfl rfl (fun w3 ew3 => ?_)
  refine l_arg (j := 4) (nj := 4) (q0 := 0) (q3 := 3) (pc' := 930) C hB hX hbl hbA hl rfl rfl (by decide) hi hi2 hi3 dL_law_925 dL_law_926 rfl dL_law_927 dL_law_928 dL_law_929 rfl rfl rfl rfl rfl (fun w4 ew4 => ?_)
  rw [← eu1] at ew1; have ew1 := ew1.symm; subst ew1
  rw [← eu2] at ew2; have ew2 := ew2.symm; subst ew2
  rw [← eu3] at ew3; have ew3 := ew3.symm; subst ew3
  rw [← eu4] at ew4; have ew4 := ew4.symm; subst ew4
  obtain ⟨⟨r2, τ⟩, hq, hp⟩ := ws_pr (ws_pr (s_spoil 70000 (by decide) σ hR u1 u2 u3 u4) (v_spoil 70000 σ hR.2 u1 u2 u3 u4)) (y_X12_spoil kt_rf)
  refine q_ci (pc' := 933) hB (l_runV (As := [.int u1, .int u2, .int u3, .int u4]) (rest := []) C hB (m_X12_spoil 70000 Γ l _ y ρ σ hM u1 u2 u3 u4 (r2, τ) hq) lb_X12_spoil lv_X12_spoil lk_L_102 hM.1 (Nat.le_of_ble_eq_true rfl) (Nat.le_of_ble_eq_true rfl) ⟨Nat.le_trans (Nat.add_le_add_right hcs.1 _) (Nat.le_of_ble_eq_true rfl), Nat.le_trans (Nat.add_le_add_right hcs.2 _) (Nat.le_of_ble_eq_true rfl)⟩ rfl hl.1 rfl (Nat.le_of_ble_eq_true rfl) dL_law_930) (fun _ _ _ => trivial) rfl (fun r3 γ H2 L2 p2 B2 => ?_)
  have hli2 := li0_mo hli1 B2 p2.2.1 p2.2.2 hp.1.1.1 ⟨LX_mo (LX_wfs hE0.1 (by rw [p1.2.1]; exact hv2 _ hp.1.1.1.2 hp.1.2.2) hp.1.1.1.2 (AL_sp hR.2 hE0.1.2.2.2.1 hp.1.2.2) (by rw [p1.2.1]; exact hv3) hp.2 hp.1.1.2) p2.2.1, CX_m (CX_act hE0.2 p1.2.2 (by decide) (by rw [p1.2.1]; exact hv3) (pd_sp hp.1.2.2) hR.2) p2.2.1⟩
  refine lv_pop hx hb dL_law_933 rfl (hp_n (n := 934) rfl ?_)
  refine lv_goto (tgt := 2391) hx hb dL_law_934 (by decide) ?_
  exact kk _ _ _ _ _ _ hli2
set_option maxRecDepth 100000 in
set_option maxHeartbeats 4000000 in
theorem lc_21 {p : Program} {l : Launch} {e : Env} {s : State} {m : MethodId} {below : List Frame} {meth : Method} {c : Code} {Γ : hp_G} {b Ln x y : Nat} {xs : Nat → Int32} {ρ : Nat → Nat} (C : hp_C Γ p m c cL_law 4 s #[Value.ref b] RL) (hX : va_X b Ln xs s s.heap) (hbl : b < s.heap.size) (hbA : ¬ hp_A Γ b) (hLn : Ln ≤ 3072) {α : hp_T} {σ : ms_T} {H : Heap} {L : List Loc} {cells slots : Nat} (hli : li Γ s x y ρ α σ H L cells slots) (i : Int32) (hi : 0 ≤ i.toInt) (hi2 : i.toInt + 6 ≤ (Ln : Int)) (ls : Array Slot) (hl : lv_has ls 4 [(0, .ref b), (1, .ref x), (2, .ref y), (3, .int i)]) (kk : ∀ (α : hp_T) (σ : ms_T) (H : Heap) (L : List Loc) (cells slots : Nat), li Γ s x y ρ α σ H L cells slots → W p l e room_1 s m #[Value.ref b] below meth c H L cells slots (lw_Z below #[Value.ref b] s) (F0 m 2391 ls [])) : W p l e room_1 s m #[Value.ref b] below meth c H L cells slots (lw_Z below #[Value.ref b] s) (F0 m 937 ls []) := by
  have hx := C.1.1
  have hb := C.1.2.1
  have hi3 : (Ln : Int) ≤ 3072 := by omega
  have hcs : cells ≤ 986 ∧ slots ≤ 148568 := by rcases hli.2.2.2.2.2.2 with ⟨-, h1, h2⟩ | ⟨-, h1, h2⟩ <;> omega
  obtain ⟨hB, hG, hKx, hM, hR, hE, hRo⟩ := id hli
  refine lv_aload_n hx hb dL_law_937 rfl (lv_at hl 1 rfl) (hp_n (n := 938) rfl ?_)
  refine l_arg (j := 1) (nj := 1) (q0 := 0) (q3 := 3) (pc' := 943) C hB hX hbl hbA hl rfl rfl (by decide) hi hi2 hi3 dL_law_938 dL_law_939 rfl dL_law_940 dL_law_941 dL_law_942 rfl rfl rfl rfl rfl (fun u1 eu1 => ?_)
  have hE0 := hE
  obtain ⟨res1, hq1, hv1, hv2, -⟩ := k_push 70000 α x (ms_E σ 40) hR.2 (RWX_Z hG hE.1.2.2.1) hE.1.2.1.1 hE.1.2.1.2.1 hE.2.2.2 u1
  refine q_ci (pc' := 946) hB (l_runV (As := [.int u1]) (rest := []) C hB (n_X11_push 70000 Γ l α hG x hKx u1 res1 hq1) lb_X11_push lv_X11_push lk_L_103 hKx (Nat.le_of_ble_eq_true rfl) (Nat.le_of_ble_eq_true rfl) ⟨Nat.le_trans (Nat.add_le_add_right hcs.1 _) (Nat.le_of_ble_eq_true rfl), Nat.le_trans (Nat.add_le_add_right hcs.2 _) (Nat.le_of_ble_eq_true rfl)⟩ rfl hl.1 rfl (Nat.le_of_ble_eq_true rfl) dL_law_943) (fun _ _ _ => trivial) rfl (fun r1 β H1 L1 p1 B1 => ?_)
  have hli1 := li0_cw hli B1 p1.2.2 (by decide)
  refine lv_pop hx hb dL_law_946 rfl (hp_n (n := 947) rfl ?_)
  obtain ⟨hB, hG, hKx, hM, hR, hE, hRo⟩ := id hli1
  have hcs : cells + 0 ≤ 986 ∧ slots + 0 ≤ 148568 := by rcases hRo with ⟨-, h1, h2⟩ | ⟨-, h1, h2⟩ <;> omega
  refine lv_aload_n hx hb dL_law_947 rfl (lv_at hl 2 rfl) (hp_n (n := 948) rfl ?_)
  refine l_arg (j := 1) (nj := 1) (q0 := 0) (q3 := 3) (pc' := 953) C hB hX hbl hbA hl rfl rfl (by decide) hi hi2 hi3 dL_law_948 dL_law_949 rfl dL_law_950 dL_law_951 dL_law_952 rfl rfl rfl rfl rfl (fun w1 ew1 => ?_)
  rw [← eu1] at ew1; have ew1 := ew1.symm; subst ew1
  obtain ⟨⟨r2, τ⟩, hq, hp⟩ := ws_pr (ws_pr (s_push 70000 (by decide) σ hR u1) (zc_push 70000 σ hR.2 u1)) (v_push 70000 σ hR.2 u1)
  refine q_ci (pc' := 956) hB (l_runV (As := [.int u1]) (rest := []) C hB (m_X12_push 70000 Γ l _ y ρ σ hM u1 (r2, τ) hq) lb_X12_push lv_X12_push lk_L_106 hM.1 (Nat.le_of_ble_eq_true rfl) (Nat.le_of_ble_eq_true rfl) ⟨Nat.le_trans (Nat.add_le_add_right hcs.1 _) (Nat.le_of_ble_eq_true rfl), Nat.le_trans (Nat.add_le_add_right hcs.2 _) (Nat.le_of_ble_eq_true rfl)⟩ rfl hl.1 rfl (Nat.le_of_ble_eq_true rfl) dL_law_953) (fun _ _ _ => trivial) rfl (fun r3 γ H2 L2 p2 B2 => ?_)
  have hli2 := li0_mo hli1 B2 p2.2.1 p2.2.2 hp.1.1.1 ⟨lx_kpd (LX_cw hE0.1 p1.2.2 (by decide)) p2.2.1 hp.1.2 hp.1.1.2 hp.1.1.1, CX_m (CX_pad hE0.2 p1.2.2 (by decide) (by rw [p1.2.1]; exact hv2) hp.2.2) p2.2.1⟩
  refine lv_pop hx hb dL_law_956 rfl (hp_n (n := 957) rfl ?_)
  refine lv_goto (tgt := 2391) hx hb dL_law_957 (by decide) ?_
  exact kk _ _ _ _ _ _ hli2
set_option maxRecDepth 100000 in
set_option maxHeartbeats 4000000 in
theorem lc_22 {p : Program} {l : Launch} {e : Env} {s : State} {m : MethodId} {below : List Frame} {meth : Method} {c : Code} {Γ : hp_G} {b Ln x y : Nat} {xs : Nat → Int32} {ρ : Nat → Nat} (C : hp_C Γ p m c cL_law 4 s #[Value.ref b] RL) (hX : va_X b Ln xs s s.heap) (hbl : b < s.heap.size) (hbA : ¬ hp_A Γ b) (hLn : Ln ≤ 3072) {α : hp_T} {σ : ms_T} {H : Heap} {L : List Loc} {cells slots : Nat} (hli : li Γ s x y ρ α σ H L cells slots) (i : Int32) (hi : 0 ≤ i.toInt) (hi2 : i.toInt + 6 ≤ (Ln : Int)) (ls : Array Slot) (hl : lv_has ls 4 [(0, .ref b), (1, .ref x), (2, .ref y), (3, .int i)]) (kk : ∀ (α : hp_T) (σ : ms_T) (H : Heap) (L : List Loc) (cells slots : Nat), li Γ s x y ρ α σ H L cells slots → W p l e room_1 s m #[Value.ref b] below meth c H L cells slots (lw_Z below #[Value.ref b] s) (F0 m 2391 ls [])) : W p l e room_1 s m #[Value.ref b] below meth c H L cells slots (lw_Z below #[Value.ref b] s) (F0 m 960 ls []) := by
  have hx := C.1.1
  have hb := C.1.2.1
  have hi3 : (Ln : Int) ≤ 3072 := by omega
  have hcs : cells ≤ 986 ∧ slots ≤ 148568 := by rcases hli.2.2.2.2.2.2 with ⟨-, h1, h2⟩ | ⟨-, h1, h2⟩ <;> omega
  obtain ⟨hB, hG, hKx, hM, hR, hE, hRo⟩ := id hli
  refine lv_aload_n hx hb dL_law_960 rfl (lv_at hl 1 rfl) (hp_n (n := 961) rfl ?_)
  refine l_arg (j := 1) (nj := 1) (q0 := 0) (q3 := 3) (pc' := 966) C hB hX hbl hbA hl rfl rfl (by decide) hi hi2 hi3 dL_law_961 dL_law_962 rfl dL_law_963 dL_law_964 dL_law_965 rfl rfl rfl rfl rfl (fun u1 eu1 => ?_)
  refine l_arg (j := 2) (nj := 2) (q0 := 0) (q3 := 3) (pc' := 971) C hB hX hbl hbA hl rfl rfl (by decide) hi hi2 hi3 dL_law_966 dL_law_967 rfl dL_law_968 dL_law_969 dL_law_970 rfl rfl rfl rfl rfl (fun u2 eu2 => ?_)
  have hE0 := hE
  obtain ⟨res1, hq1, hv1, hv2, -⟩ := k_poke 70000 α x (ms_E σ 40) hR.2 (RWX_Z hG hE.1.2.2.1) hE.1.2.1.1 hE.1.2.1.2.1 hE.2.2.2 u1 u2
  refine q_ci (pc' := 974) hB (l_runV (As := [.int u1, .int u2]) (rest := []) C hB (n_X11_poke 70000 Γ l α hG x hKx u1 u2 res1 hq1) lb_X11_poke lv_X11_poke lk_L_107 hKx (Nat.le_of_ble_eq_true rfl) (Nat.le_of_ble_eq_true rfl) ⟨Nat.le_trans (Nat.add_le_add_right hcs.1 _) (Nat.le_of_ble_eq_true rfl), Nat.le_trans (Nat.add_le_add_right hcs.2 _) (Nat.le_of_ble_eq_true rfl)⟩ rfl hl.1 rfl (Nat.le_of_ble_eq_true rfl) dL_law_971) (fun _ _ _ => trivial) rfl (fun r1 β H1 L1 p1 B1 => ?_)
  have hli1 := li0_cw hli B1 p1.2.2 (by decide)
  refine lv_pop hx hb dL_law_974 rfl (hp_n (n := 975) rfl ?_)
  obtain ⟨hB, hG, hKx, hM, hR, hE, hRo⟩ := id hli1
  have hcs : cells + 0 ≤ 986 ∧ slots + 0 ≤ 148568 := by rcases hRo with ⟨-, h1, h2⟩ | ⟨-, h1, h2⟩ <;> omega
  refine lv_aload_n hx hb dL_law_975 rfl (lv_at hl 2 rfl) (hp_n (n := 976) rfl ?_)
  refine l_arg (j := 1) (nj := 1) (q0 := 0) (q3 := 3) (pc' := 981) C hB hX hbl hbA hl rfl rfl (by decide) hi hi2 hi3 dL_law_976 dL_law_977 rfl dL_law_978 dL_law_979 dL_law_980 rfl rfl rfl rfl rfl (fun w1 ew1 => ?_)
  refine l_arg (j := 2) (nj := 2) (q0 := 0) (q3 := 3) (pc' := 986) C hB hX hbl hbA hl rfl rfl (by decide) hi hi2 hi3 dL_law_981 dL_law_982 rfl dL_law_983 dL_law_984 dL_law_985 rfl rfl rfl rfl rfl (fun w2 ew2 => ?_)
  rw [← eu1] at ew1; have ew1 := ew1.symm; subst ew1
  rw [← eu2] at ew2; have ew2 := ew2.symm; subst ew2
  obtain ⟨⟨r2, τ⟩, hq, hp⟩ := ws_pr (ws_pr (s_poke 70000 (by decide) σ hR u1 u2) (zc_poke 70000 σ hR.2 u1 u2)) (v_poke 70000 σ hR.2 u1 u2)
  refine q_ci (pc' := 989) hB (l_runV (As := [.int u1, .int u2]) (rest := []) C hB (m_X12_poke 70000 Γ l _ y ρ σ hM u1 u2 (r2, τ) hq) lb_X12_poke lv_X12_poke lk_L_110 hM.1 (Nat.le_of_ble_eq_true rfl) (Nat.le_of_ble_eq_true rfl) ⟨Nat.le_trans (Nat.add_le_add_right hcs.1 _) (Nat.le_of_ble_eq_true rfl), Nat.le_trans (Nat.add_le_add_right hcs.2 _) (Nat.le_of_ble_eq_true rfl)⟩ rfl hl.1 rfl (Nat.le_of_ble_eq_true rfl) dL_law_986) (fun _ _ _ => trivial) rfl (fun r3 γ H2 L2 p2 B2 => ?_)
  have hli2 := li0_mo hli1 B2 p2.2.1 p2.2.2 hp.1.1.1 ⟨lx_kpd (LX_cw hE0.1 p1.2.2 (by decide)) p2.2.1 hp.1.2 hp.1.1.2 hp.1.1.1, CX_m (CX_pad hE0.2 p1.2.2 (by decide) (by rw [p1.2.1]; exact hv2) hp.2.2) p2.2.1⟩
  refine lv_pop hx hb dL_law_989 rfl (hp_n (n := 990) rfl ?_)
  refine lv_goto (tgt := 2391) hx hb dL_law_990 (by decide) ?_
  exact kk _ _ _ _ _ _ hli2
set_option maxRecDepth 100000 in
set_option maxHeartbeats 4000000 in
theorem lc_23 {p : Program} {l : Launch} {e : Env} {s : State} {m : MethodId} {below : List Frame} {meth : Method} {c : Code} {Γ : hp_G} {b Ln x y : Nat} {xs : Nat → Int32} {ρ : Nat → Nat} (C : hp_C Γ p m c cL_law 4 s #[Value.ref b] RL) (hX : va_X b Ln xs s s.heap) (hbl : b < s.heap.size) (hbA : ¬ hp_A Γ b) (hLn : Ln ≤ 3072) {α : hp_T} {σ : ms_T} {H : Heap} {L : List Loc} {cells slots : Nat} (hli : li Γ s x y ρ α σ H L cells slots) (i : Int32) (hi : 0 ≤ i.toInt) (hi2 : i.toInt + 6 ≤ (Ln : Int)) (ls : Array Slot) (hl : lv_has ls 4 [(0, .ref b), (1, .ref x), (2, .ref y), (3, .int i)]) (kk : ∀ (α : hp_T) (σ : ms_T) (H : Heap) (L : List Loc) (cells slots : Nat), li Γ s x y ρ α σ H L cells slots → W p l e room_1 s m #[Value.ref b] below meth c H L cells slots (lw_Z below #[Value.ref b] s) (F0 m 2391 ls [])) : W p l e room_1 s m #[Value.ref b] below meth c H L cells slots (lw_Z below #[Value.ref b] s) (F0 m 993 ls []) := by
  have hx := C.1.1
  have hb := C.1.2.1
  have hi3 : (Ln : Int) ≤ 3072 := by omega
  have hcs : cells ≤ 986 ∧ slots ≤ 148568 := by rcases hli.2.2.2.2.2.2 with ⟨-, h1, h2⟩ | ⟨-, h1, h2⟩ <;> omega
  obtain ⟨hB, hG, hKx, hM, hR, hE, hRo⟩ := id hli
  refine lv_aload_n hx hb dL_law_993 rfl (lv_at hl 1 rfl) (hp_n (n := 994) rfl ?_)
  refine l_arg (j := 1) (nj := 1) (q0 := 0) (q3 := 3) (pc' := 999) C hB hX hbl hbA hl rfl rfl (by decide) hi hi2 hi3 dL_law_994 dL_law_995 rfl dL_law_996 dL_law_997 dL_law_998 rfl rfl rfl rfl rfl (fun u1 eu1 => ?_)
  have hE0 := hE
  refine q_ci (pc' := 1002) hB (l_runV (As := [.int u1]) (rest := []) C hB (t_X11_pad Γ l α hG x hKx u1) lb_X11_pad lv_X11_pad lk_L_111 hKx (Nat.le_of_ble_eq_true rfl) (Nat.le_of_ble_eq_true rfl) ⟨Nat.le_trans (Nat.add_le_add_right hcs.1 _) (Nat.le_of_ble_eq_true rfl), Nat.le_trans (Nat.add_le_add_right hcs.2 _) (Nat.le_of_ble_eq_true rfl)⟩ rfl hl.1 rfl (Nat.le_of_ble_eq_true rfl) dL_law_999) (fun _ _ _ => trivial) rfl (fun r1 β H1 L1 p1 B1 => ?_)
  have hli1 := li_cw hli B1 p1 (by decide)
  refine lv_pop hx hb dL_law_1002 rfl (hp_n (n := 1003) rfl ?_)
  obtain ⟨hB, hG, hKx, hM, hR, hE, hRo⟩ := id hli1
  have hcs : cells + 0 ≤ 986 ∧ slots + 0 ≤ 148568 := by rcases hRo with ⟨-, h1, h2⟩ | ⟨-, h1, h2⟩ <;> omega
  refine lv_aload_n hx hb dL_law_1003 rfl (lv_at hl 2 rfl) (hp_n (n := 1004) rfl ?_)
  refine l_arg (j := 1) (nj := 1) (q0 := 0) (q3 := 3) (pc' := 1009) C hB hX hbl hbA hl rfl rfl (by decide) hi hi2 hi3 dL_law_1004 dL_law_1005 rfl dL_law_1006 dL_law_1007 dL_law_1008 rfl rfl rfl rfl rfl (fun w1 ew1 => ?_)
  rw [← eu1] at ew1; have ew1 := ew1.symm; subst ew1
  obtain ⟨⟨r2, τ⟩, hq, hp⟩ := ws_pr (ws_pr (s_pad 70000 (by decide) σ hR u1) (z_X12_pad kq_rf)) (x_X12_pad kf_rf)
  refine q_ci (pc' := 1012) hB (l_runV (As := [.int u1]) (rest := []) C hB (m_X12_pad 70000 Γ l _ y ρ σ hM u1 (r2, τ) hq) lb_X12_pad lv_X12_pad lk_L_114 hM.1 (Nat.le_of_ble_eq_true rfl) (Nat.le_of_ble_eq_true rfl) ⟨Nat.le_trans (Nat.add_le_add_right hcs.1 _) (Nat.le_of_ble_eq_true rfl), Nat.le_trans (Nat.add_le_add_right hcs.2 _) (Nat.le_of_ble_eq_true rfl)⟩ rfl hl.1 rfl (Nat.le_of_ble_eq_true rfl) dL_law_1009) (fun _ _ _ => trivial) rfl (fun r3 γ H2 L2 p2 B2 => ?_)
  have hli2 := li0_mo (li_0 hli1) B2 p2.2.1 p2.2.2 hp.1.1.1 (lxc_kq hli1.2.2.2.2.2.1 p2.2.1 hp.1.2 hp.2 hp.1.1.2 hp.1.1.1)
  refine lv_pop hx hb dL_law_1012 rfl (hp_n (n := 1013) rfl ?_)
  refine lv_goto (tgt := 2391) hx hb dL_law_1013 (by decide) ?_
  exact kk _ _ _ _ _ _ hli2
set_option maxRecDepth 100000 in
set_option maxHeartbeats 4000000 in
theorem lc_24 {p : Program} {l : Launch} {e : Env} {s : State} {m : MethodId} {below : List Frame} {meth : Method} {c : Code} {Γ : hp_G} {b Ln x y : Nat} {xs : Nat → Int32} {ρ : Nat → Nat} (C : hp_C Γ p m c cL_law 4 s #[Value.ref b] RL) (hX : va_X b Ln xs s s.heap) (hbl : b < s.heap.size) (hbA : ¬ hp_A Γ b) (hLn : Ln ≤ 3072) {α : hp_T} {σ : ms_T} {H : Heap} {L : List Loc} {cells slots : Nat} (hli : li Γ s x y ρ α σ H L cells slots) (i : Int32) (hi : 0 ≤ i.toInt) (hi2 : i.toInt + 6 ≤ (Ln : Int)) (ls : Array Slot) (hl : lv_has ls 4 [(0, .ref b), (1, .ref x), (2, .ref y), (3, .int i)]) (kk : ∀ (α : hp_T) (σ : ms_T) (H : Heap) (L : List Loc) (cells slots : Nat), li Γ s x y ρ α σ H L cells slots → W p l e room_1 s m #[Value.ref b] below meth c H L cells slots (lw_Z below #[Value.ref b] s) (F0 m 2391 ls [])) : W p l e room_1 s m #[Value.ref b] below meth c H L cells slots (lw_Z below #[Value.ref b] s) (F0 m 1016 ls []) := by
  have hx := C.1.1
  have hb := C.1.2.1
  have hi3 : (Ln : Int) ≤ 3072 := by omega
  have hcs : cells ≤ 986 ∧ slots ≤ 148568 := by rcases hli.2.2.2.2.2.2 with ⟨-, h1, h2⟩ | ⟨-, h1, h2⟩ <;> omega
  obtain ⟨hB, hG, hKx, hM, hR, hE, hRo⟩ := id hli
  refine lv_aload_n hx hb dL_law_1016 rfl (lv_at hl 1 rfl) (hp_n (n := 1017) rfl ?_)
  refine l_arg (j := 1) (nj := 1) (q0 := 0) (q3 := 3) (pc' := 1022) C hB hX hbl hbA hl rfl rfl (by decide) hi hi2 hi3 dL_law_1017 dL_law_1018 rfl dL_law_1019 dL_law_1020 dL_law_1021 rfl rfl rfl rfl rfl (fun u1 eu1 => ?_)
  have hE0 := hE
  obtain ⟨res1, hq1, hv1, hv2, -⟩ := k_cut 70000 α x (ms_E σ 40) hR.2.2.2.1.1 hE.1.2.1.1 hE.1.2.1.2.1 hE.2.2.2 u1
  refine q_ci (pc' := 1025) hB (l_runV (As := [.int u1]) (rest := []) C hB (n_X11_cut 70000 Γ l α hG x hKx u1 res1 hq1) lb_X11_cut lv_X11_cut lk_L_115 hKx (Nat.le_of_ble_eq_true rfl) (Nat.le_of_ble_eq_true rfl) ⟨Nat.le_trans (Nat.add_le_add_right hcs.1 _) (Nat.le_of_ble_eq_true rfl), Nat.le_trans (Nat.add_le_add_right hcs.2 _) (Nat.le_of_ble_eq_true rfl)⟩ rfl hl.1 rfl (Nat.le_of_ble_eq_true rfl) dL_law_1022) (fun _ _ _ => trivial) rfl (fun r1 β H1 L1 p1 B1 => ?_)
  have hli1 := li0_cw hli B1 p1.2.2 (by decide)
  refine lv_pop hx hb dL_law_1025 rfl (hp_n (n := 1026) rfl ?_)
  obtain ⟨hB, hG, hKx, hM, hR, hE, hRo⟩ := id hli1
  have hcs : cells + 0 ≤ 986 ∧ slots + 0 ≤ 148568 := by rcases hRo with ⟨-, h1, h2⟩ | ⟨-, h1, h2⟩ <;> omega
  refine lv_aload_n hx hb dL_law_1026 rfl (lv_at hl 2 rfl) (hp_n (n := 1027) rfl ?_)
  refine l_arg (j := 1) (nj := 1) (q0 := 0) (q3 := 3) (pc' := 1032) C hB hX hbl hbA hl rfl rfl (by decide) hi hi2 hi3 dL_law_1027 dL_law_1028 rfl dL_law_1029 dL_law_1030 dL_law_1031 rfl rfl rfl rfl rfl (fun w1 ew1 => ?_)
  rw [← eu1] at ew1; have ew1 := ew1.symm; subst ew1
  obtain ⟨⟨r2, τ⟩, hq, hp⟩ := ws_pr (ws_pr (s_cut 70000 (by decide) σ hR u1) (zc_cut 70000 σ u1)) (v_cut 70000 σ hR.2 u1)
  refine q_ci (pc' := 1035) hB (l_runV (As := [.int u1]) (rest := []) C hB (m_X12_cut 70000 Γ l _ y ρ σ hM u1 (r2, τ) hq) lb_X12_cut lv_X12_cut lk_L_118 hM.1 (Nat.le_of_ble_eq_true rfl) (Nat.le_of_ble_eq_true rfl) ⟨Nat.le_trans (Nat.add_le_add_right hcs.1 _) (Nat.le_of_ble_eq_true rfl), Nat.le_trans (Nat.add_le_add_right hcs.2 _) (Nat.le_of_ble_eq_true rfl)⟩ rfl hl.1 rfl (Nat.le_of_ble_eq_true rfl) dL_law_1032) (fun _ _ _ => trivial) rfl (fun r3 γ H2 L2 p2 B2 => ?_)
  have hli2 := li0_mo hli1 B2 p2.2.1 p2.2.2 hp.1.1.1 ⟨lx_kpd (LX_cw hE0.1 p1.2.2 (by decide)) p2.2.1 hp.1.2 hp.1.1.2 hp.1.1.1, CX_m (CX_pad hE0.2 p1.2.2 (by decide) (by rw [p1.2.1]; exact hv2) hp.2.2) p2.2.1⟩
  refine lv_pop hx hb dL_law_1035 rfl (hp_n (n := 1036) rfl ?_)
  refine lv_goto (tgt := 2391) hx hb dL_law_1036 (by decide) ?_
  exact kk _ _ _ _ _ _ hli2
set_option maxRecDepth 100000 in
set_option maxHeartbeats 4000000 in
theorem lc_25 {p : Program} {l : Launch} {e : Env} {s : State} {m : MethodId} {below : List Frame} {meth : Method} {c : Code} {Γ : hp_G} {b Ln x y : Nat} {xs : Nat → Int32} {ρ : Nat → Nat} (C : hp_C Γ p m c cL_law 4 s #[Value.ref b] RL) (hX : va_X b Ln xs s s.heap) (hbl : b < s.heap.size) (hbA : ¬ hp_A Γ b) (hLn : Ln ≤ 3072) {α : hp_T} {σ : ms_T} {H : Heap} {L : List Loc} {cells slots : Nat} (hli : li Γ s x y ρ α σ H L cells slots) (i : Int32) (hi : 0 ≤ i.toInt) (hi2 : i.toInt + 6 ≤ (Ln : Int)) (ls : Array Slot) (hl : lv_has ls 4 [(0, .ref b), (1, .ref x), (2, .ref y), (3, .int i)]) (kk : ∀ (α : hp_T) (σ : ms_T) (H : Heap) (L : List Loc) (cells slots : Nat), li Γ s x y ρ α σ H L cells slots → W p l e room_1 s m #[Value.ref b] below meth c H L cells slots (lw_Z below #[Value.ref b] s) (F0 m 2391 ls [])) : W p l e room_1 s m #[Value.ref b] below meth c H L cells slots (lw_Z below #[Value.ref b] s) (F0 m 1039 ls []) := by
  have hx := C.1.1
  have hb := C.1.2.1
  have hi3 : (Ln : Int) ≤ 3072 := by omega
  have hcs : cells ≤ 986 ∧ slots ≤ 148568 := by rcases hli.2.2.2.2.2.2 with ⟨-, h1, h2⟩ | ⟨-, h1, h2⟩ <;> omega
  obtain ⟨hB, hG, hKx, hM, hR, hE, hRo⟩ := id hli
  refine lv_aload_n hx hb dL_law_1039 rfl (lv_at hl 1 rfl) (hp_n (n := 1040) rfl ?_)
  refine l_arg (j := 1) (nj := 1) (q0 := 0) (q3 := 3) (pc' := 1045) C hB hX hbl hbA hl rfl rfl (by decide) hi hi2 hi3 dL_law_1040 dL_law_1041 rfl dL_law_1042 dL_law_1043 dL_law_1044 rfl rfl rfl rfl rfl (fun u1 eu1 => ?_)
  refine l_arg (j := 2) (nj := 2) (q0 := 0) (q3 := 3) (pc' := 1050) C hB hX hbl hbA hl rfl rfl (by decide) hi hi2 hi3 dL_law_1045 dL_law_1046 rfl dL_law_1047 dL_law_1048 dL_law_1049 rfl rfl rfl rfl rfl (fun u2 eu2 => ?_)
  refine l_arg (j := 3) (nj := 3) (q0 := 0) (q3 := 3) (pc' := 1055) C hB hX hbl hbA hl rfl rfl (by decide) hi hi2 hi3 dL_law_1050 dL_law_1051 rfl dL_law_1052 dL_law_1053 dL_law_1054 rfl rfl rfl rfl rfl (fun u3 eu3 => ?_)
  have hE0 := hE
  obtain ⟨res1, hq1, hv1, hv2, -⟩ := k_include 70000 (by decide) α x (ms_E σ 40) hR.2 (RWX_Z hG hE.1.2.2.1) hE.1.2.1.1 hE.1.2.1.2.1 _ hE.2.2.2 u1 u2 u3
  refine q_ci (pc' := 1058) hB (l_runV (As := [.int u1, .int u2, .int u3]) (rest := []) C hB (n_X11_include 70000 Γ l α hG x hKx u1 u2 u3 res1 hq1) lb_X11_include lv_X11_include lk_L_119 hKx (Nat.le_of_ble_eq_true rfl) (Nat.le_of_ble_eq_true rfl) ⟨Nat.le_trans (Nat.add_le_add_right hcs.1 _) (Nat.le_of_ble_eq_true rfl), Nat.le_trans (Nat.add_le_add_right hcs.2 _) (Nat.le_of_ble_eq_true rfl)⟩ rfl hl.1 rfl (Nat.le_of_ble_eq_true rfl) dL_law_1055) (fun _ _ _ => trivial) rfl (fun r1 β H1 L1 p1 B1 => ?_)
  have hli1 := li0_cw hli B1 p1.2.2 (by decide)
  refine lv_pop hx hb dL_law_1058 rfl (hp_n (n := 1059) rfl ?_)
  obtain ⟨hB, hG, hKx, hM, hR, hE, hRo⟩ := id hli1
  have hcs : cells + 0 ≤ 986 ∧ slots + 0 ≤ 148568 := by rcases hRo with ⟨-, h1, h2⟩ | ⟨-, h1, h2⟩ <;> omega
  refine lv_aload_n hx hb dL_law_1059 rfl (lv_at hl 2 rfl) (hp_n (n := 1060) rfl ?_)
  refine l_arg (j := 1) (nj := 1) (q0 := 0) (q3 := 3) (pc' := 1065) C hB hX hbl hbA hl rfl rfl (by decide) hi hi2 hi3 dL_law_1060 dL_law_1061 rfl dL_law_1062 dL_law_1063 dL_law_1064 rfl rfl rfl rfl rfl (fun w1 ew1 => ?_)
  refine l_arg (j := 2) (nj := 2) (q0 := 0) (q3 := 3) (pc' := 1070) C hB hX hbl hbA hl rfl rfl (by decide) hi hi2 hi3 dL_law_1065 dL_law_1066 rfl dL_law_1067 dL_law_1068 dL_law_1069 rfl rfl rfl rfl rfl (fun w2 ew2 => ?_)
  refine l_arg (j := 3) (nj := 3) (q0 := 0) (q3 := 3) (pc' := 1075) C hB hX hbl hbA hl rfl rfl (by decide) hi hi2 hi3 dL_law_1070 dL_law_1071 rfl dL_law_1072 dL_law_1073 dL_law_1074 rfl rfl rfl rfl rfl (fun w3 ew3 => ?_)
  rw [← eu1] at ew1; have ew1 := ew1.symm; subst ew1
  rw [← eu2] at ew2; have ew2 := ew2.symm; subst ew2
  rw [← eu3] at ew3; have ew3 := ew3.symm; subst ew3
  obtain ⟨⟨r2, τ⟩, hq, hp⟩ := ws_pr (ws_pr (s_include 70000 (by decide) σ hR u1 u2 u3) (zc_include 70000 σ u1 u2 u3)) (v_include 70000 σ hR.2 u1 u2 u3)
  refine q_ci (pc' := 1078) hB (l_runV (As := [.int u1, .int u2, .int u3]) (rest := []) C hB (m_X12_include 70000 Γ l _ y ρ σ hM u1 u2 u3 (r2, τ) hq) lb_X12_include lv_X12_include lk_L_122 hM.1 (Nat.le_of_ble_eq_true rfl) (Nat.le_of_ble_eq_true rfl) ⟨Nat.le_trans (Nat.add_le_add_right hcs.1 _) (Nat.le_of_ble_eq_true rfl), Nat.le_trans (Nat.add_le_add_right hcs.2 _) (Nat.le_of_ble_eq_true rfl)⟩ rfl hl.1 rfl (Nat.le_of_ble_eq_true rfl) dL_law_1075) (fun _ _ _ => trivial) rfl (fun r3 γ H2 L2 p2 B2 => ?_)
  have hli2 := li0_mo hli1 B2 p2.2.1 p2.2.2 hp.1.1.1 ⟨lx_kpd (LX_cw hE0.1 p1.2.2 (by decide)) p2.2.1 hp.1.2 hp.1.1.2 hp.1.1.1, CX_m (CX_pad hE0.2 p1.2.2 (by decide) (by rw [p1.2.1]; exact hv2) hp.2.2) p2.2.1⟩
  refine lv_pop hx hb dL_law_1078 rfl (hp_n (n := 1079) rfl ?_)
  refine lv_goto (tgt := 2391) hx hb dL_law_1079 (by decide) ?_
  exact kk _ _ _ _ _ _ hli2
set_option maxRecDepth 100000 in
set_option maxHeartbeats 4000000 in
theorem lc_26 {p : Program} {l : Launch} {e : Env} {s : State} {m : MethodId} {below : List Frame} {meth : Method} {c : Code} {Γ : hp_G} {b Ln x y : Nat} {xs : Nat → Int32} {ρ : Nat → Nat} (C : hp_C Γ p m c cL_law 4 s #[Value.ref b] RL) (hX : va_X b Ln xs s s.heap) (hbl : b < s.heap.size) (hbA : ¬ hp_A Γ b) (hLn : Ln ≤ 3072) {α : hp_T} {σ : ms_T} {H : Heap} {L : List Loc} {cells slots : Nat} (hli : li Γ s x y ρ α σ H L cells slots) (i : Int32) (hi : 0 ≤ i.toInt) (hi2 : i.toInt + 6 ≤ (Ln : Int)) (ls : Array Slot) (hl : lv_has ls 4 [(0, .ref b), (1, .ref x), (2, .ref y), (3, .int i)]) (kk : ∀ (α : hp_T) (σ : ms_T) (H : Heap) (L : List Loc) (cells slots : Nat), li Γ s x y ρ α σ H L cells slots → W p l e room_1 s m #[Value.ref b] below meth c H L cells slots (lw_Z below #[Value.ref b] s) (F0 m 2391 ls [])) : W p l e room_1 s m #[Value.ref b] below meth c H L cells slots (lw_Z below #[Value.ref b] s) (F0 m 1082 ls []) := by
  have hx := C.1.1
  have hb := C.1.2.1
  have hi3 : (Ln : Int) ≤ 3072 := by omega
  have hcs : cells ≤ 986 ∧ slots ≤ 148568 := by rcases hli.2.2.2.2.2.2 with ⟨-, h1, h2⟩ | ⟨-, h1, h2⟩ <;> omega
  obtain ⟨hB, hG, hKx, hM, hR, hE, hRo⟩ := id hli
  refine lv_aload_n hx hb dL_law_1082 rfl (lv_at hl 1 rfl) (hp_n (n := 1083) rfl ?_)
  refine l_arg (j := 1) (nj := 1) (q0 := 0) (q3 := 3) (pc' := 1088) C hB hX hbl hbA hl rfl rfl (by decide) hi hi2 hi3 dL_law_1083 dL_law_1084 rfl dL_law_1085 dL_law_1086 dL_law_1087 rfl rfl rfl rfl rfl (fun u1 eu1 => ?_)
  refine l_arg (j := 2) (nj := 2) (q0 := 0) (q3 := 3) (pc' := 1093) C hB hX hbl hbA hl rfl rfl (by decide) hi hi2 hi3 dL_law_1088 dL_law_1089 rfl dL_law_1090 dL_law_1091 dL_law_1092 rfl rfl rfl rfl rfl (fun u2 eu2 => ?_)
  refine l_arg (j := 3) (nj := 3) (q0 := 0) (q3 := 3) (pc' := 1098) C hB hX hbl hbA hl rfl rfl (by decide) hi hi2 hi3 dL_law_1093 dL_law_1094 rfl dL_law_1095 dL_law_1096 dL_law_1097 rfl rfl rfl rfl rfl (fun u3 eu3 => ?_)
  have hE0 := hE
  obtain ⟨res1, hq1, hv1, hv2, -⟩ := k_grow 70000 (by decide) α x (ms_E σ 40) hR.2 (RWX_Z hG hE.1.2.2.1) hE.1.2.1.1 hE.1.2.1.2.1 _ hE.2.2.2 u1 u2 u3
  refine q_ci (pc' := 1101) hB (l_runV (As := [.int u1, .int u2, .int u3]) (rest := []) C hB (n_X11_grow 70000 Γ l α hG x hKx u1 u2 u3 res1 hq1) lb_X11_grow lv_X11_grow lk_L_123 hKx (Nat.le_of_ble_eq_true rfl) (Nat.le_of_ble_eq_true rfl) ⟨Nat.le_trans (Nat.add_le_add_right hcs.1 _) (Nat.le_of_ble_eq_true rfl), Nat.le_trans (Nat.add_le_add_right hcs.2 _) (Nat.le_of_ble_eq_true rfl)⟩ rfl hl.1 rfl (Nat.le_of_ble_eq_true rfl) dL_law_1098) (fun _ _ _ => trivial) rfl (fun r1 β H1 L1 p1 B1 => ?_)
  have hli1 := li0_cw hli B1 p1.2.2 (by decide)
  refine lv_pop hx hb dL_law_1101 rfl (hp_n (n := 1102) rfl ?_)
  obtain ⟨hB, hG, hKx, hM, hR, hE, hRo⟩ := id hli1
  have hcs : cells + 0 ≤ 986 ∧ slots + 0 ≤ 148568 := by rcases hRo with ⟨-, h1, h2⟩ | ⟨-, h1, h2⟩ <;> omega
  refine lv_aload_n hx hb dL_law_1102 rfl (lv_at hl 2 rfl) (hp_n (n := 1103) rfl ?_)
  refine l_arg (j := 1) (nj := 1) (q0 := 0) (q3 := 3) (pc' := 1108) C hB hX hbl hbA hl rfl rfl (by decide) hi hi2 hi3 dL_law_1103 dL_law_1104 rfl dL_law_1105 dL_law_1106 dL_law_1107 rfl rfl rfl rfl rfl (fun w1 ew1 => ?_)
  refine l_arg (j := 2) (nj := 2) (q0 := 0) (q3 := 3) (pc' := 1113) C hB hX hbl hbA hl rfl rfl (by decide) hi hi2 hi3 dL_law_1108 dL_law_1109 rfl dL_law_1110 dL_law_1111 dL_law_1112 rfl rfl rfl rfl rfl (fun w2 ew2 => ?_)
  refine l_arg (j := 3) (nj := 3) (q0 := 0) (q3 := 3) (pc' := 1118) C hB hX hbl hbA hl rfl rfl (by decide) hi hi2 hi3 dL_law_1113 dL_law_1114 rfl dL_law_1115 dL_law_1116 dL_law_1117 rfl rfl rfl rfl rfl (fun w3 ew3 => ?_)
  rw [← eu1] at ew1; have ew1 := ew1.symm; subst ew1
  rw [← eu2] at ew2; have ew2 := ew2.symm; subst ew2
  rw [← eu3] at ew3; have ew3 := ew3.symm; subst ew3
  obtain ⟨⟨r2, τ⟩, hq, hp⟩ := ws_pr (ws_pr (s_grow 70000 (by decide) σ hR u1 u2 u3) (zc_grow 70000 σ u1 u2 u3)) (v_grow 70000 σ hR.2 u1 u2 u3)
  refine q_ci (pc' := 1121) hB (l_runV (As := [.int u1, .int u2, .int u3]) (rest := []) C hB (m_X12_grow 70000 Γ l _ y ρ σ hM u1 u2 u3 (r2, τ) hq) lb_X12_grow lv_X12_grow lk_L_126 hM.1 (Nat.le_of_ble_eq_true rfl) (Nat.le_of_ble_eq_true rfl) ⟨Nat.le_trans (Nat.add_le_add_right hcs.1 _) (Nat.le_of_ble_eq_true rfl), Nat.le_trans (Nat.add_le_add_right hcs.2 _) (Nat.le_of_ble_eq_true rfl)⟩ rfl hl.1 rfl (Nat.le_of_ble_eq_true rfl) dL_law_1118) (fun _ _ _ => trivial) rfl (fun r3 γ H2 L2 p2 B2 => ?_)
  have hli2 := li0_mo hli1 B2 p2.2.1 p2.2.2 hp.1.1.1 ⟨lx_kpd (LX_cw hE0.1 p1.2.2 (by decide)) p2.2.1 hp.1.2 hp.1.1.2 hp.1.1.1, CX_m (CX_pad hE0.2 p1.2.2 (by decide) (by rw [p1.2.1]; exact hv2) hp.2.2) p2.2.1⟩
  refine lv_pop hx hb dL_law_1121 rfl (hp_n (n := 1122) rfl ?_)
  refine lv_goto (tgt := 2391) hx hb dL_law_1122 (by decide) ?_
  exact kk _ _ _ _ _ _ hli2
set_option maxRecDepth 100000 in
set_option maxHeartbeats 4000000 in
theorem lc_27 {p : Program} {l : Launch} {e : Env} {s : State} {m : MethodId} {below : List Frame} {meth : Method} {c : Code} {Γ : hp_G} {b Ln x y : Nat} {xs : Nat → Int32} {ρ : Nat → Nat} (C : hp_C Γ p m c cL_law 4 s #[Value.ref b] RL) (hX : va_X b Ln xs s s.heap) (hbl : b < s.heap.size) (hbA : ¬ hp_A Γ b) (hLn : Ln ≤ 3072) {α : hp_T} {σ : ms_T} {H : Heap} {L : List Loc} {cells slots : Nat} (hli : li Γ s x y ρ α σ H L cells slots) (i : Int32) (hi : 0 ≤ i.toInt) (hi2 : i.toInt + 6 ≤ (Ln : Int)) (ls : Array Slot) (hl : lv_has ls 4 [(0, .ref b), (1, .ref x), (2, .ref y), (3, .int i)]) (kk : ∀ (α : hp_T) (σ : ms_T) (H : Heap) (L : List Loc) (cells slots : Nat), li Γ s x y ρ α σ H L cells slots → W p l e room_1 s m #[Value.ref b] below meth c H L cells slots (lw_Z below #[Value.ref b] s) (F0 m 2391 ls [])) : W p l e room_1 s m #[Value.ref b] below meth c H L cells slots (lw_Z below #[Value.ref b] s) (F0 m 1125 ls []) := by
  have hx := C.1.1
  have hb := C.1.2.1
  have hi3 : (Ln : Int) ≤ 3072 := by omega
  have hcs : cells ≤ 986 ∧ slots ≤ 148568 := by rcases hli.2.2.2.2.2.2 with ⟨-, h1, h2⟩ | ⟨-, h1, h2⟩ <;> omega
  obtain ⟨hB, hG, hKx, hM, hR, hE, hRo⟩ := id hli
  refine lv_aload_n hx hb dL_law_1125 rfl (lv_at hl 1 rfl) (hp_n (n := 1126) rfl ?_)
  refine l_arg (j := 1) (nj := 1) (q0 := 0) (q3 := 3) (pc' := 1131) C hB hX hbl hbA hl rfl rfl (by decide) hi hi2 hi3 dL_law_1126 dL_law_1127 rfl dL_law_1128 dL_law_1129 dL_law_1130 rfl rfl rfl rfl rfl (fun u1 eu1 => ?_)
  refine l_arg (j := 2) (nj := 2) (q0 := 0) (q3 := 3) (pc' := 1136) C hB hX hbl hbA hl rfl rfl (by decide) hi hi2 hi3 dL_law_1131 dL_law_1132 rfl dL_law_1133 dL_law_1134 dL_law_1135 rfl rfl rfl rfl rfl (fun u2 eu2 => ?_)
  refine l_arg (j := 3) (nj := 3) (q0 := 0) (q3 := 3) (pc' := 1141) C hB hX hbl hbA hl rfl rfl (by decide) hi hi2 hi3 dL_law_1136 dL_law_1137 rfl dL_law_1138 dL_law_1139 dL_law_1140 rfl rfl rfl rfl rfl (fun u3 eu3 => ?_)
  have hE0 := hE
  obtain ⟨res1, hq1, hv1, hv2, -⟩ := k_bundle 70000 (by decide) α x σ (ms_E σ 40) hR.2 (RWX_Z hG hE.1.2.2.1) hE.1.2.1.1 hE.1.2.1.2.1 _ hE.2.2.2 u1 u2 u3
  refine q_ci (pc' := 1144) hB (l_runV (As := [.int u1, .int u2, .int u3]) (rest := []) C hB (n_X11_bundle 70000 Γ l α hG x hKx u1 u2 u3 res1 hq1) lb_X11_bundle lv_X11_bundle lk_L_127 hKx (Nat.le_of_ble_eq_true rfl) (Nat.le_of_ble_eq_true rfl) ⟨Nat.le_trans (Nat.add_le_add_right hcs.1 _) (Nat.le_of_ble_eq_true rfl), Nat.le_trans (Nat.add_le_add_right hcs.2 _) (Nat.le_of_ble_eq_true rfl)⟩ rfl hl.1 rfl (Nat.le_of_ble_eq_true rfl) dL_law_1141) (fun _ _ _ => trivial) rfl (fun r1 β H1 L1 p1 B1 => ?_)
  have hli1 := li0_cw hli B1 p1.2.2 (by decide)
  refine lv_pop hx hb dL_law_1144 rfl (hp_n (n := 1145) rfl ?_)
  obtain ⟨hB, hG, hKx, hM, hR, hE, hRo⟩ := id hli1
  have hcs : cells + 0 ≤ 986 ∧ slots + 0 ≤ 148568 := by rcases hRo with ⟨-, h1, h2⟩ | ⟨-, h1, h2⟩ <;> omega
  refine lv_aload_n hx hb dL_law_1145 rfl (lv_at hl 2 rfl) (hp_n (n := 1146) rfl ?_)
  refine l_arg (j := 1) (nj := 1) (q0 := 0) (q3 := 3) (pc' := 1151) C hB hX hbl hbA hl rfl rfl (by decide) hi hi2 hi3 dL_law_1146 dL_law_1147 rfl dL_law_1148 dL_law_1149 dL_law_1150 rfl rfl rfl rfl rfl (fun w1 ew1 => ?_)
  refine l_arg (j := 2) (nj := 2) (q0 := 0) (q3 := 3) (pc' := 1156) C hB hX hbl hbA hl rfl rfl (by decide) hi hi2 hi3 dL_law_1151 dL_law_1152 rfl dL_law_1153 dL_law_1154 dL_law_1155 rfl rfl rfl rfl rfl (fun w2 ew2 => ?_)
  refine l_arg (j := 3) (nj := 3) (q0 := 0) (q3 := 3) (pc' := 1161) C hB hX hbl hbA hl rfl rfl (by decide) hi hi2 hi3 dL_law_1156 dL_law_1157 rfl dL_law_1158 dL_law_1159 dL_law_1160 rfl rfl rfl rfl rfl (fun w3 ew3 => ?_)
  rw [← eu1] at ew1; have ew1 := ew1.symm; subst ew1
  rw [← eu2] at ew2; have ew2 := ew2.symm; subst ew2
  rw [← eu3] at ew3; have ew3 := ew3.symm; subst ew3
  obtain ⟨⟨r2, τ⟩, hq, hp⟩ := ws_pr (ws_pr (s_bundle 70000 (by decide) σ hR u1 u2 u3) (zc_bundle 70000 σ u1 u2 u3)) (v_bundle 70000 (by decide) σ hR.2 u1 u2 u3)
  refine q_ci (pc' := 1164) hB (l_runV (As := [.int u1, .int u2, .int u3]) (rest := []) C hB (m_X12_bundle 70000 Γ l _ y ρ σ hM u1 u2 u3 (r2, τ) hq) lb_X12_bundle lv_X12_bundle lk_L_130 hM.1 (Nat.le_of_ble_eq_true rfl) (Nat.le_of_ble_eq_true rfl) ⟨Nat.le_trans (Nat.add_le_add_right hcs.1 _) (Nat.le_of_ble_eq_true rfl), Nat.le_trans (Nat.add_le_add_right hcs.2 _) (Nat.le_of_ble_eq_true rfl)⟩ rfl hl.1 rfl (Nat.le_of_ble_eq_true rfl) dL_law_1161) (fun _ _ _ => trivial) rfl (fun r3 γ H2 L2 p2 B2 => ?_)
  have hli2 := li0_mo hli1 B2 p2.2.1 p2.2.2 hp.1.1.1 ⟨lx_kpd (LX_cw hE0.1 p1.2.2 (by decide)) p2.2.1 hp.1.2 hp.1.1.2 hp.1.1.1, CX_m (CX_pad hE0.2 p1.2.2 (by decide) (by rw [p1.2.1]; exact hv2) hp.2.2) p2.2.1⟩
  refine lv_pop hx hb dL_law_1164 rfl (hp_n (n := 1165) rfl ?_)
  refine lv_goto (tgt := 2391) hx hb dL_law_1165 (by decide) ?_
  exact kk _ _ _ _ _ _ hli2
set_option maxRecDepth 100000 in
set_option maxHeartbeats 4000000 in
theorem lc_28 {p : Program} {l : Launch} {e : Env} {s : State} {m : MethodId} {below : List Frame} {meth : Method} {c : Code} {Γ : hp_G} {b Ln x y : Nat} {xs : Nat → Int32} {ρ : Nat → Nat} (C : hp_C Γ p m c cL_law 4 s #[Value.ref b] RL) (hX : va_X b Ln xs s s.heap) (hbl : b < s.heap.size) (hbA : ¬ hp_A Γ b) (hLn : Ln ≤ 3072) {α : hp_T} {σ : ms_T} {H : Heap} {L : List Loc} {cells slots : Nat} (hli : li Γ s x y ρ α σ H L cells slots) (i : Int32) (hi : 0 ≤ i.toInt) (hi2 : i.toInt + 6 ≤ (Ln : Int)) (ls : Array Slot) (hl : lv_has ls 4 [(0, .ref b), (1, .ref x), (2, .ref y), (3, .int i)]) (kk : ∀ (α : hp_T) (σ : ms_T) (H : Heap) (L : List Loc) (cells slots : Nat), li Γ s x y ρ α σ H L cells slots → W p l e room_1 s m #[Value.ref b] below meth c H L cells slots (lw_Z below #[Value.ref b] s) (F0 m 2391 ls [])) : W p l e room_1 s m #[Value.ref b] below meth c H L cells slots (lw_Z below #[Value.ref b] s) (F0 m 1168 ls []) := by
  have hx := C.1.1
  have hb := C.1.2.1
  have hi3 : (Ln : Int) ≤ 3072 := by omega
  have hcs : cells ≤ 986 ∧ slots ≤ 148568 := by rcases hli.2.2.2.2.2.2 with ⟨-, h1, h2⟩ | ⟨-, h1, h2⟩ <;> omega
  obtain ⟨hB, hG, hKx, hM, hR, hE, hRo⟩ := id hli
  refine lv_aload_n hx hb dL_law_1168 rfl (lv_at hl 1 rfl) (hp_n (n := 1169) rfl ?_)
  refine l_arg (j := 1) (nj := 1) (q0 := 0) (q3 := 3) (pc' := 1174) C hB hX hbl hbA hl rfl rfl (by decide) hi hi2 hi3 dL_law_1169 dL_law_1170 rfl dL_law_1171 dL_law_1172 dL_law_1173 rfl rfl rfl rfl rfl (fun u1 eu1 => ?_)
  refine l_arg (j := 2) (nj := 2) (q0 := 0) (q3 := 3) (pc' := 1179) C hB hX hbl hbA hl rfl rfl (by decide) hi hi2 hi3 dL_law_1174 dL_law_1175 rfl dL_law_1176 dL_law_1177 dL_law_1178 rfl rfl rfl rfl rfl (fun u2 eu2 => ?_)
  have hE0 := hE
  obtain ⟨res1, hq1, hv1, hv2, -⟩ := k_peaks 70000 (by decide) α x (ms_E σ 40) hR.2 (RWX_Z hG hE.1.2.2.1) hE.1.2.1.1 hE.1.2.1.2.1 _ hE.2.2.2 u1 u2
  refine q_ci (pc' := 1182) hB (l_runV (As := [.int u1, .int u2]) (rest := []) C hB (n_X11_peaks 70000 Γ l α hG x hKx u1 u2 res1 hq1) lb_X11_peaks lv_X11_peaks lk_L_131 hKx (Nat.le_of_ble_eq_true rfl) (Nat.le_of_ble_eq_true rfl) ⟨Nat.le_trans (Nat.add_le_add_right hcs.1 _) (Nat.le_of_ble_eq_true rfl), Nat.le_trans (Nat.add_le_add_right hcs.2 _) (Nat.le_of_ble_eq_true rfl)⟩ rfl hl.1 rfl (Nat.le_of_ble_eq_true rfl) dL_law_1179) (fun _ _ _ => trivial) rfl (fun r1 β H1 L1 p1 B1 => ?_)
  have hli1 := li0_cw hli B1 p1.2.2 (by decide)
  refine lv_pop hx hb dL_law_1182 rfl (hp_n (n := 1183) rfl ?_)
  obtain ⟨hB, hG, hKx, hM, hR, hE, hRo⟩ := id hli1
  have hcs : cells + 0 ≤ 986 ∧ slots + 0 ≤ 148568 := by rcases hRo with ⟨-, h1, h2⟩ | ⟨-, h1, h2⟩ <;> omega
  refine lv_aload_n hx hb dL_law_1183 rfl (lv_at hl 2 rfl) (hp_n (n := 1184) rfl ?_)
  refine l_arg (j := 1) (nj := 1) (q0 := 0) (q3 := 3) (pc' := 1189) C hB hX hbl hbA hl rfl rfl (by decide) hi hi2 hi3 dL_law_1184 dL_law_1185 rfl dL_law_1186 dL_law_1187 dL_law_1188 rfl rfl rfl rfl rfl (fun w1 ew1 => ?_)
  refine l_arg (j := 2) (nj := 2) (q0 := 0) (q3 := 3) (pc' := 1194) C hB hX hbl hbA hl rfl rfl (by decide) hi hi2 hi3 dL_law_1189 dL_law_1190 rfl dL_law_1191 dL_law_1192 dL_law_1193 rfl rfl rfl rfl rfl (fun w2 ew2 => ?_)
  rw [← eu1] at ew1; have ew1 := ew1.symm; subst ew1
  rw [← eu2] at ew2; have ew2 := ew2.symm; subst ew2
  obtain ⟨⟨r2, τ⟩, hq, hp⟩ := ws_pr (ws_pr (s_peaks 70000 (by decide) σ hR u1 u2) (zc_peaks 70000 σ u1 u2)) (v_peaks 70000 σ hR.2 u1 u2)
  refine q_ci (pc' := 1197) hB (l_runV (As := [.int u1, .int u2]) (rest := []) C hB (m_X12_peaks 70000 Γ l _ y ρ σ hM u1 u2 (r2, τ) hq) lb_X12_peaks lv_X12_peaks lk_L_134 hM.1 (Nat.le_of_ble_eq_true rfl) (Nat.le_of_ble_eq_true rfl) ⟨Nat.le_trans (Nat.add_le_add_right hcs.1 _) (Nat.le_of_ble_eq_true rfl), Nat.le_trans (Nat.add_le_add_right hcs.2 _) (Nat.le_of_ble_eq_true rfl)⟩ rfl hl.1 rfl (Nat.le_of_ble_eq_true rfl) dL_law_1194) (fun _ _ _ => trivial) rfl (fun r3 γ H2 L2 p2 B2 => ?_)
  have hli2 := li0_mo hli1 B2 p2.2.1 p2.2.2 hp.1.1.1 ⟨lx_kpd (LX_cw hE0.1 p1.2.2 (by decide)) p2.2.1 hp.1.2 hp.1.1.2 hp.1.1.1, CX_m (CX_pad hE0.2 p1.2.2 (by decide) (by rw [p1.2.1]; exact hv2) hp.2.2) p2.2.1⟩
  refine lv_pop hx hb dL_law_1197 rfl (hp_n (n := 1198) rfl ?_)
  refine lv_goto (tgt := 2391) hx hb dL_law_1198 (by decide) ?_
  exact kk _ _ _ _ _ _ hli2
set_option maxRecDepth 100000 in
set_option maxHeartbeats 4000000 in
theorem lc_29 {p : Program} {l : Launch} {e : Env} {s : State} {m : MethodId} {below : List Frame} {meth : Method} {c : Code} {Γ : hp_G} {b Ln x y : Nat} {xs : Nat → Int32} {ρ : Nat → Nat} (C : hp_C Γ p m c cL_law 4 s #[Value.ref b] RL) (hX : va_X b Ln xs s s.heap) (hbl : b < s.heap.size) (hbA : ¬ hp_A Γ b) (hLn : Ln ≤ 3072) {α : hp_T} {σ : ms_T} {H : Heap} {L : List Loc} {cells slots : Nat} (hli : li Γ s x y ρ α σ H L cells slots) (i : Int32) (hi : 0 ≤ i.toInt) (hi2 : i.toInt + 6 ≤ (Ln : Int)) (ls : Array Slot) (hl : lv_has ls 4 [(0, .ref b), (1, .ref x), (2, .ref y), (3, .int i)]) (kk : ∀ (α : hp_T) (σ : ms_T) (H : Heap) (L : List Loc) (cells slots : Nat), li Γ s x y ρ α σ H L cells slots → W p l e room_1 s m #[Value.ref b] below meth c H L cells slots (lw_Z below #[Value.ref b] s) (F0 m 2391 ls [])) : W p l e room_1 s m #[Value.ref b] below meth c H L cells slots (lw_Z below #[Value.ref b] s) (F0 m 1201 ls []) := by
  have hx := C.1.1
  have hb := C.1.2.1
  have hi3 : (Ln : Int) ≤ 3072 := by omega
  have hcs : cells ≤ 986 ∧ slots ≤ 148568 := by rcases hli.2.2.2.2.2.2 with ⟨-, h1, h2⟩ | ⟨-, h1, h2⟩ <;> omega
  obtain ⟨hB, hG, hKx, hM, hR, hE, hRo⟩ := id hli
  refine lv_aload_n hx hb dL_law_1201 rfl (lv_at hl 1 rfl) (hp_n (n := 1202) rfl ?_)
  refine l_arg (j := 1) (nj := 1) (q0 := 0) (q3 := 3) (pc' := 1207) C hB hX hbl hbA hl rfl rfl (by decide) hi hi2 hi3 dL_law_1202 dL_law_1203 rfl dL_law_1204 dL_law_1205 dL_law_1206 rfl rfl rfl rfl rfl (fun u1 eu1 => ?_)
  refine l_arg (j := 2) (nj := 2) (q0 := 0) (q3 := 3) (pc' := 1212) C hB hX hbl hbA hl rfl rfl (by decide) hi hi2 hi3 dL_law_1207 dL_law_1208 rfl dL_law_1209 dL_law_1210 dL_law_1211 rfl rfl rfl rfl rfl (fun u2 eu2 => ?_)
  have hE0 := hE
  obtain ⟨res1, hq1, hv1, hv2, -⟩ := k_extend 70000 (by decide) α x (ms_E σ 40) hR.2 (RWX_Z hG hE.1.2.2.1) hE.1.2.1.1 hE.1.2.1.2.1 hE.2.2.2 u1 u2
  refine q_ci (pc' := 1215) hB (l_runV (As := [.int u1, .int u2]) (rest := []) C hB (n_X11_extend 70000 Γ l α hG x hKx u1 u2 res1 hq1) lb_X11_extend lv_X11_extend lk_L_135 hKx (Nat.le_of_ble_eq_true rfl) (Nat.le_of_ble_eq_true rfl) ⟨Nat.le_trans (Nat.add_le_add_right hcs.1 _) (Nat.le_of_ble_eq_true rfl), Nat.le_trans (Nat.add_le_add_right hcs.2 _) (Nat.le_of_ble_eq_true rfl)⟩ rfl hl.1 rfl (Nat.le_of_ble_eq_true rfl) dL_law_1212) (fun _ _ _ => trivial) rfl (fun r1 β H1 L1 p1 B1 => ?_)
  have hli1 := li0_cw hli B1 p1.2.2 (by decide)
  refine lv_pop hx hb dL_law_1215 rfl (hp_n (n := 1216) rfl ?_)
  obtain ⟨hB, hG, hKx, hM, hR, hE, hRo⟩ := id hli1
  have hcs : cells + 0 ≤ 986 ∧ slots + 0 ≤ 148568 := by rcases hRo with ⟨-, h1, h2⟩ | ⟨-, h1, h2⟩ <;> omega
  refine lv_aload_n hx hb dL_law_1216 rfl (lv_at hl 2 rfl) (hp_n (n := 1217) rfl ?_)
  refine l_arg (j := 1) (nj := 1) (q0 := 0) (q3 := 3) (pc' := 1222) C hB hX hbl hbA hl rfl rfl (by decide) hi hi2 hi3 dL_law_1217 dL_law_1218 rfl dL_law_1219 dL_law_1220 dL_law_1221 rfl rfl rfl rfl rfl (fun w1 ew1 => ?_)
  refine l_arg (j := 2) (nj := 2) (q0 := 0) (q3 := 3) (pc' := 1227) C hB hX hbl hbA hl rfl rfl (by decide) hi hi2 hi3 dL_law_1222 dL_law_1223 rfl dL_law_1224 dL_law_1225 dL_law_1226 rfl rfl rfl rfl rfl (fun w2 ew2 => ?_)
  rw [← eu1] at ew1; have ew1 := ew1.symm; subst ew1
  rw [← eu2] at ew2; have ew2 := ew2.symm; subst ew2
  obtain ⟨⟨r2, τ⟩, hq, hp⟩ := ws_pr (ws_pr (s_extend 70000 (by decide) σ hR u1 u2) (zc_extend 70000 (by decide) σ hR u1 u2)) (v_extend 70000 σ hR.2 u1 u2)
  refine q_ci (pc' := 1230) hB (l_runV (As := [.int u1, .int u2]) (rest := []) C hB (m_X12_extend 70000 Γ l _ y ρ σ hM u1 u2 (r2, τ) hq) lb_X12_extend lv_X12_extend lk_L_138 hM.1 (Nat.le_of_ble_eq_true rfl) (Nat.le_of_ble_eq_true rfl) ⟨Nat.le_trans (Nat.add_le_add_right hcs.1 _) (Nat.le_of_ble_eq_true rfl), Nat.le_trans (Nat.add_le_add_right hcs.2 _) (Nat.le_of_ble_eq_true rfl)⟩ rfl hl.1 rfl (Nat.le_of_ble_eq_true rfl) dL_law_1227) (fun _ _ _ => trivial) rfl (fun r3 γ H2 L2 p2 B2 => ?_)
  have hli2 := li0_mo hli1 B2 p2.2.1 p2.2.2 hp.1.1.1 ⟨lx_kpd (LX_cw hE0.1 p1.2.2 (by decide)) p2.2.1 hp.1.2 hp.1.1.2 hp.1.1.1, CX_m (CX_pad hE0.2 p1.2.2 (by decide) (by rw [p1.2.1]; exact hv2) hp.2.2) p2.2.1⟩
  refine lv_pop hx hb dL_law_1230 rfl (hp_n (n := 1231) rfl ?_)
  refine lv_goto (tgt := 2391) hx hb dL_law_1231 (by decide) ?_
  exact kk _ _ _ _ _ _ hli2
set_option maxRecDepth 100000 in
set_option maxHeartbeats 4000000 in
theorem lc_30 {p : Program} {l : Launch} {e : Env} {s : State} {m : MethodId} {below : List Frame} {meth : Method} {c : Code} {Γ : hp_G} {b Ln x y : Nat} {xs : Nat → Int32} {ρ : Nat → Nat} (C : hp_C Γ p m c cL_law 4 s #[Value.ref b] RL) (hX : va_X b Ln xs s s.heap) (hbl : b < s.heap.size) (hbA : ¬ hp_A Γ b) (hLn : Ln ≤ 3072) {α : hp_T} {σ : ms_T} {H : Heap} {L : List Loc} {cells slots : Nat} (hli : li Γ s x y ρ α σ H L cells slots) (i : Int32) (hi : 0 ≤ i.toInt) (hi2 : i.toInt + 6 ≤ (Ln : Int)) (ls : Array Slot) (hl : lv_has ls 4 [(0, .ref b), (1, .ref x), (2, .ref y), (3, .int i)]) (kk : ∀ (α : hp_T) (σ : ms_T) (H : Heap) (L : List Loc) (cells slots : Nat), li Γ s x y ρ α σ H L cells slots → W p l e room_1 s m #[Value.ref b] below meth c H L cells slots (lw_Z below #[Value.ref b] s) (F0 m 2391 ls [])) : W p l e room_1 s m #[Value.ref b] below meth c H L cells slots (lw_Z below #[Value.ref b] s) (F0 m 1234 ls []) := by
  have hx := C.1.1
  have hb := C.1.2.1
  have hi3 : (Ln : Int) ≤ 3072 := by omega
  have hcs : cells ≤ 986 ∧ slots ≤ 148568 := by rcases hli.2.2.2.2.2.2 with ⟨-, h1, h2⟩ | ⟨-, h1, h2⟩ <;> omega
  obtain ⟨hB, hG, hKx, hM, hR, hE, hRo⟩ := id hli
  refine lv_aload_n hx hb dL_law_1234 rfl (lv_at hl 1 rfl) (hp_n (n := 1235) rfl ?_)
  refine l_arg (j := 1) (nj := 1) (q0 := 0) (q3 := 3) (pc' := 1240) C hB hX hbl hbA hl rfl rfl (by decide) hi hi2 hi3 dL_law_1235 dL_law_1236 rfl dL_law_1237 dL_law_1238 dL_law_1239 rfl rfl rfl rfl rfl (fun u1 eu1 => ?_)
  refine l_arg (j := 2) (nj := 2) (q0 := 0) (q3 := 3) (pc' := 1245) C hB hX hbl hbA hl rfl rfl (by decide) hi hi2 hi3 dL_law_1240 dL_law_1241 rfl dL_law_1242 dL_law_1243 dL_law_1244 rfl rfl rfl rfl rfl (fun u2 eu2 => ?_)
  refine l_arg (j := 3) (nj := 3) (q0 := 0) (q3 := 3) (pc' := 1250) C hB hX hbl hbA hl rfl rfl (by decide) hi hi2 hi3 dL_law_1245 dL_law_1246 rfl dL_law_1247 dL_law_1248 dL_law_1249 rfl rfl rfl rfl rfl (fun u3 eu3 => ?_)
  refine l_arg (j := 4) (nj := 4) (q0 := 0) (q3 := 3) (pc' := 1255) C hB hX hbl hbA hl rfl rfl (by decide) hi hi2 hi3 dL_law_1250 dL_law_1251 rfl dL_law_1252 dL_law_1253 dL_law_1254 rfl rfl rfl rfl rfl (fun u4 eu4 => ?_)
  have hE0 := hE
  obtain ⟨res1, hq1, hv1⟩ := k_checks 70000 (by decide) α x (ms_E σ 40) hR.2 (RWX_Z hG hE.1.2.2.1) hE.1.2.1.1 hE0.2.2.2 u1 u2 u3 u4
  refine q_ci (pc' := 1258) hB (l_runV (As := [.int u1, .int u2, .int u3, .int u4]) (rest := []) C hB (n_X11_checks 70000 Γ l α hG x hKx u1 u2 u3 u4 res1 hq1) lb_X11_checks lv_X11_checks lk_L_139 hKx (Nat.le_of_ble_eq_true rfl) (Nat.le_of_ble_eq_true rfl) ⟨Nat.le_trans (Nat.add_le_add_right hcs.1 _) (Nat.le_of_ble_eq_true rfl), Nat.le_trans (Nat.add_le_add_right hcs.2 _) (Nat.le_of_ble_eq_true rfl)⟩ rfl hl.1 rfl (Nat.le_of_ble_eq_true rfl) dL_law_1255) (fun _ _ _ => trivial) rfl (fun r1 β H1 L1 p1 B1 => ?_)
  have hli1 := li_cw hli B1 p1.2.2 (by decide)
  obtain ⟨hB, hG, hKx, hM, hR, hE, hRo⟩ := id hli1
  have hcs : cells + 0 ≤ 986 ∧ slots + 0 ≤ 148568 := by rcases hRo with ⟨-, h1, h2⟩ | ⟨-, h1, h2⟩ <;> omega
  refine lv_aload_n hx hb dL_law_1258 rfl (lv_at hl 2 rfl) (hp_n (n := 1259) rfl ?_)
  refine l_arg (j := 1) (nj := 1) (q0 := 0) (q3 := 3) (pc' := 1264) C hB hX hbl hbA hl rfl rfl (by decide) hi hi2 hi3 dL_law_1259 dL_law_1260 rfl dL_law_1261 dL_law_1262 dL_law_1263 rfl rfl rfl rfl rfl (fun w1 ew1 => ?_)
  refine l_arg (j := 2) (nj := 2) (q0 := 0) (q3 := 3) (pc' := 1269) C hB hX hbl hbA hl rfl rfl (by decide) hi hi2 hi3 dL_law_1264 dL_law_1265 rfl dL_law_1266 dL_law_1267 dL_law_1268 rfl rfl rfl rfl rfl (fun w2 ew2 => ?_)
  refine l_arg (j := 3) (nj := 3) (q0 := 0) (q3 := 3) (pc' := 1274) C hB hX hbl hbA hl rfl rfl (by decide) hi hi2 hi3 dL_law_1269 dL_law_1270 rfl dL_law_1271 dL_law_1272 dL_law_1273 rfl rfl rfl rfl rfl (fun w3 ew3 => ?_)
  refine l_arg (j := 4) (nj := 4) (q0 := 0) (q3 := 3) (pc' := 1279) C hB hX hbl hbA hl rfl rfl (by decide) hi hi2 hi3 dL_law_1274 dL_law_1275 rfl dL_law_1276 dL_law_1277 dL_law_1278 rfl rfl rfl rfl rfl (fun w4 ew4 => ?_)
  rw [← eu1] at ew1; have ew1 := ew1.symm; subst ew1
  rw [← eu2] at ew2; have ew2 := ew2.symm; subst ew2
  rw [← eu3] at ew3; have ew3 := ew3.symm; subst ew3
  rw [← eu4] at ew4; have ew4 := ew4.symm; subst ew4
  obtain ⟨⟨r2, τ⟩, hq, hp⟩ := ws_pr (ws_pr (ws_pr (s_checks 70000 (by decide) σ hR u1 u2 u3 u4) (z_X12_checks kq_rf)) (v_checks 70000 σ hR.2 u1 u2 u3 u4)) (x_X12_checks kf_rf)
  refine q_ci (pc' := 1282) hB (l_runV (As := [.int u1, .int u2, .int u3, .int u4]) (rest := [.int r1]) C hB (m_X12_checks 70000 Γ l _ y ρ σ hM u1 u2 u3 u4 (r2, τ) hq) lb_X12_checks lv_X12_checks lk_L_142 hM.1 (Nat.le_of_ble_eq_true rfl) (Nat.le_of_ble_eq_true rfl) ⟨Nat.le_trans (Nat.add_le_add_right hcs.1 _) (Nat.le_of_ble_eq_true rfl), Nat.le_trans (Nat.add_le_add_right hcs.2 _) (Nat.le_of_ble_eq_true rfl)⟩ rfl hl.1 rfl (Nat.le_of_ble_eq_true rfl) dL_law_1279) (fun _ _ _ => trivial) rfl (fun r3 γ H2 L2 p2 B2 => ?_)
  have hli2 := li0_mo (li_0 hli1) B2 p2.2.1 p2.2.2 hp.1.1.1.1 ⟨lx_kq hli1.2.2.2.2.2.1.1 p2.2.1 hp.1.1.2 hp.1.1.1.2 hp.1.1.1.1, CX_k hli1.2.2.2.2.2.1.2 p2.2.1 hp.2⟩
  refine lv_icmp_eq (tgt := 2391) hx hb dL_law_1282 (by decide) (fun cq => ?_) (fun cq => ?_)
  · exact kk _ _ _ _ _ _ hli2
  · exact absurd (p1.1.trans (hv1.trans (hp.1.2.symm.trans p2.1.symm))) cq
set_option maxRecDepth 100000 in
set_option maxHeartbeats 4000000 in
theorem lc_31 {p : Program} {l : Launch} {e : Env} {s : State} {m : MethodId} {below : List Frame} {meth : Method} {c : Code} {Γ : hp_G} {b Ln x y : Nat} {xs : Nat → Int32} {ρ : Nat → Nat} (C : hp_C Γ p m c cL_law 4 s #[Value.ref b] RL) (hX : va_X b Ln xs s s.heap) (hbl : b < s.heap.size) (hbA : ¬ hp_A Γ b) (hLn : Ln ≤ 3072) {α : hp_T} {σ : ms_T} {H : Heap} {L : List Loc} {cells slots : Nat} (hli : li Γ s x y ρ α σ H L cells slots) (i : Int32) (hi : 0 ≤ i.toInt) (hi2 : i.toInt + 6 ≤ (Ln : Int)) (ls : Array Slot) (hl : lv_has ls 4 [(0, .ref b), (1, .ref x), (2, .ref y), (3, .int i)]) (kk : ∀ (α : hp_T) (σ : ms_T) (H : Heap) (L : List Loc) (cells slots : Nat), li Γ s x y ρ α σ H L cells slots → W p l e room_1 s m #[Value.ref b] below meth c H L cells slots (lw_Z below #[Value.ref b] s) (F0 m 2391 ls [])) : W p l e room_1 s m #[Value.ref b] below meth c H L cells slots (lw_Z below #[Value.ref b] s) (F0 m 1287 ls []) := by
  have hx := C.1.1
  have hb := C.1.2.1
  have hi3 : (Ln : Int) ≤ 3072 := by omega
  have hcs : cells ≤ 986 ∧ slots ≤ 148568 := by rcases hli.2.2.2.2.2.2 with ⟨-, h1, h2⟩ | ⟨-, h1, h2⟩ <;> omega
  obtain ⟨hB, hG, hKx, hM, hR, hE, hRo⟩ := id hli
  refine lv_aload_n hx hb dL_law_1287 rfl (lv_at hl 1 rfl) (hp_n (n := 1288) rfl ?_)
  refine l_arg (j := 1) (nj := 1) (q0 := 0) (q3 := 3) (pc' := 1293) C hB hX hbl hbA hl rfl rfl (by decide) hi hi2 hi3 dL_law_1288 dL_law_1289 rfl dL_law_1290 dL_law_1291 dL_law_1292 rfl rfl rfl rfl rfl (fun u1 eu1 => ?_)
  refine l_arg (j := 2) (nj := 2) (q0 := 0) (q3 := 3) (pc' := 1298) C hB hX hbl hbA hl rfl rfl (by decide) hi hi2 hi3 dL_law_1293 dL_law_1294 rfl dL_law_1295 dL_law_1296 dL_law_1297 rfl rfl rfl rfl rfl (fun u2 eu2 => ?_)
  refine l_arg (j := 3) (nj := 3) (q0 := 0) (q3 := 3) (pc' := 1303) C hB hX hbl hbA hl rfl rfl (by decide) hi hi2 hi3 dL_law_1298 dL_law_1299 rfl dL_law_1300 dL_law_1301 dL_law_1302 rfl rfl rfl rfl rfl (fun u3 eu3 => ?_)
  refine l_arg (j := 4) (nj := 4) (q0 := 0) (q3 := 3) (pc' := 1308) C hB hX hbl hbA hl rfl rfl (by decide) hi hi2 hi3 dL_law_1303 dL_law_1304 rfl dL_law_1305 dL_law_1306 dL_law_1307 rfl rfl rfl rfl rfl (fun u4 eu4 => ?_)
  have hE0 := hE
  refine q_ci (pc' := 1311) hB (l_runV (As := [.int u1, .int u2, .int u3, .int u4]) (rest := []) C hB (t_X11_growth Γ l α hG x hKx u1 u2 u3 u4) lb_X11_growth lv_X11_growth lk_L_143 hKx (Nat.le_of_ble_eq_true rfl) (Nat.le_of_ble_eq_true rfl) ⟨Nat.le_trans (Nat.add_le_add_right hcs.1 _) (Nat.le_of_ble_eq_true rfl), Nat.le_trans (Nat.add_le_add_right hcs.2 _) (Nat.le_of_ble_eq_true rfl)⟩ rfl hl.1 rfl (Nat.le_of_ble_eq_true rfl) dL_law_1308) (fun _ _ _ => trivial) rfl (fun r1 β H1 L1 p1 B1 => ?_)
  have hli1 := li_cw hli B1 p1 (by decide)
  refine lv_pop hx hb dL_law_1311 rfl (hp_n (n := 1312) rfl ?_)
  obtain ⟨hB, hG, hKx, hM, hR, hE, hRo⟩ := id hli1
  have hcs : cells + 0 ≤ 986 ∧ slots + 0 ≤ 148568 := by rcases hRo with ⟨-, h1, h2⟩ | ⟨-, h1, h2⟩ <;> omega
  refine lv_aload_n hx hb dL_law_1312 rfl (lv_at hl 2 rfl) (hp_n (n := 1313) rfl ?_)
  refine l_arg (j := 1) (nj := 1) (q0 := 0) (q3 := 3) (pc' := 1318) C hB hX hbl hbA hl rfl rfl (by decide) hi hi2 hi3 dL_law_1313 dL_law_1314 rfl dL_law_1315 dL_law_1316 dL_law_1317 rfl rfl rfl rfl rfl (fun w1 ew1 => ?_)
  refine l_arg (j := 2) (nj := 2) (q0 := 0) (q3 := 3) (pc' := 1323) C hB hX hbl hbA hl rfl rfl (by decide) hi hi2 hi3 dL_law_1318 dL_law_1319 rfl dL_law_1320 dL_law_1321 dL_law_1322 rfl rfl rfl rfl rfl (fun w2 ew2 => ?_)
  refine l_arg (j := 3) (nj := 3) (q0 := 0) (q3 := 3) (pc' := 1328) C hB hX hbl hbA hl rfl rfl (by decide) hi hi2 hi3 dL_law_1323 dL_law_1324 rfl dL_law_1325 dL_law_1326 dL_law_1327 rfl rfl rfl rfl rfl (fun w3 ew3 => ?_)
  refine l_arg (j := 4) (nj := 4) (q0 := 0) (q3 := 3) (pc' := 1333) C hB hX hbl hbA hl rfl rfl (by decide) hi hi2 hi3 dL_law_1328 dL_law_1329 rfl dL_law_1330 dL_law_1331 dL_law_1332 rfl rfl rfl rfl rfl (fun w4 ew4 => ?_)
  rw [← eu1] at ew1; have ew1 := ew1.symm; subst ew1
  rw [← eu2] at ew2; have ew2 := ew2.symm; subst ew2
  rw [← eu3] at ew3; have ew3 := ew3.symm; subst ew3
  rw [← eu4] at ew4; have ew4 := ew4.symm; subst ew4
  obtain ⟨⟨r2, τ⟩, hq, hp⟩ := ws_pr (ws_pr (s_growth_ 70000 (by decide) σ hR u1 u2 u3 u4) (z_X12_growth_ kq_rf)) (x_X12_growth_ kf_rf)
  refine q_ci (pc' := 1336) hB (l_runV (As := [.int u1, .int u2, .int u3, .int u4]) (rest := []) C hB (m_X12_growth_ 70000 Γ l _ y ρ σ hM u1 u2 u3 u4 (r2, τ) hq) lb_X12_growth_ lv_X12_growth_ lk_L_146 hM.1 (Nat.le_of_ble_eq_true rfl) (Nat.le_of_ble_eq_true rfl) ⟨Nat.le_trans (Nat.add_le_add_right hcs.1 _) (Nat.le_of_ble_eq_true rfl), Nat.le_trans (Nat.add_le_add_right hcs.2 _) (Nat.le_of_ble_eq_true rfl)⟩ rfl hl.1 rfl (Nat.le_of_ble_eq_true rfl) dL_law_1333) (fun _ _ _ => trivial) rfl (fun r3 γ H2 L2 p2 B2 => ?_)
  have hli2 := li0_mo (li_0 hli1) B2 p2.2.1 p2.2.2 hp.1.1.1 (lxc_kq hli1.2.2.2.2.2.1 p2.2.1 hp.1.2 hp.2 hp.1.1.2 hp.1.1.1)
  refine lv_pop hx hb dL_law_1336 rfl (hp_n (n := 1337) rfl ?_)
  refine lv_goto (tgt := 2391) hx hb dL_law_1337 (by decide) ?_
  exact kk _ _ _ _ _ _ hli2
set_option maxRecDepth 100000 in
set_option maxHeartbeats 4000000 in
theorem lc_32 {p : Program} {l : Launch} {e : Env} {s : State} {m : MethodId} {below : List Frame} {meth : Method} {c : Code} {Γ : hp_G} {b Ln x y : Nat} {xs : Nat → Int32} {ρ : Nat → Nat} (C : hp_C Γ p m c cL_law 4 s #[Value.ref b] RL) (hX : va_X b Ln xs s s.heap) (hbl : b < s.heap.size) (hbA : ¬ hp_A Γ b) (hLn : Ln ≤ 3072) {α : hp_T} {σ : ms_T} {H : Heap} {L : List Loc} {cells slots : Nat} (hli : li Γ s x y ρ α σ H L cells slots) (i : Int32) (hi : 0 ≤ i.toInt) (hi2 : i.toInt + 6 ≤ (Ln : Int)) (ls : Array Slot) (hl : lv_has ls 4 [(0, .ref b), (1, .ref x), (2, .ref y), (3, .int i)]) (kk : ∀ (α : hp_T) (σ : ms_T) (H : Heap) (L : List Loc) (cells slots : Nat), li Γ s x y ρ α σ H L cells slots → W p l e room_1 s m #[Value.ref b] below meth c H L cells slots (lw_Z below #[Value.ref b] s) (F0 m 2391 ls [])) : W p l e room_1 s m #[Value.ref b] below meth c H L cells slots (lw_Z below #[Value.ref b] s) (F0 m 1340 ls []) := by
  have hx := C.1.1
  have hb := C.1.2.1
  have hi3 : (Ln : Int) ≤ 3072 := by omega
  have hcs : cells ≤ 986 ∧ slots ≤ 148568 := by rcases hli.2.2.2.2.2.2 with ⟨-, h1, h2⟩ | ⟨-, h1, h2⟩ <;> omega
  obtain ⟨hB, hG, hKx, hM, hR, hE, hRo⟩ := id hli
  refine lv_aload_n hx hb dL_law_1340 rfl (lv_at hl 1 rfl) (hp_n (n := 1341) rfl ?_)
  refine l_arg (j := 1) (nj := 1) (q0 := 0) (q3 := 3) (pc' := 1346) C hB hX hbl hbA hl rfl rfl (by decide) hi hi2 hi3 dL_law_1341 dL_law_1342 rfl dL_law_1343 dL_law_1344 dL_law_1345 rfl rfl rfl rfl rfl (fun u1 eu1 => ?_)
  refine l_arg (j := 2) (nj := 2) (q0 := 0) (q3 := 3) (pc' := 1351) C hB hX hbl hbA hl rfl rfl (by decide) hi hi2 hi3 dL_law_1346 dL_law_1347 rfl dL_law_1348 dL_law_1349 dL_law_1350 rfl rfl rfl rfl rfl (fun u2 eu2 => ?_)
  refine l_arg (j := 3) (nj := 3) (q0 := 0) (q3 := 3) (pc' := 1356) C hB hX hbl hbA hl rfl rfl (by decide) hi hi2 hi3 dL_law_1351 dL_law_1352 rfl dL_law_1353 dL_law_1354 dL_law_1355 rfl rfl rfl rfl rfl (fun u3 eu3 => ?_)
  have hE0 := hE
  refine q_ci (pc' := 1359) hB (l_runV (As := [.int u1, .int u2, .int u3]) (rest := []) C hB (t_X11_bundled Γ l α hG x hKx u1 u2 u3) lb_X11_bundled lv_X11_bundled lk_L_147 hKx (Nat.le_of_ble_eq_true rfl) (Nat.le_of_ble_eq_true rfl) ⟨Nat.le_trans (Nat.add_le_add_right hcs.1 _) (Nat.le_of_ble_eq_true rfl), Nat.le_trans (Nat.add_le_add_right hcs.2 _) (Nat.le_of_ble_eq_true rfl)⟩ rfl hl.1 rfl (Nat.le_of_ble_eq_true rfl) dL_law_1356) (fun _ _ _ => trivial) rfl (fun r1 β H1 L1 p1 B1 => ?_)
  have hli1 := li_cw hli B1 p1 (by decide)
  refine lv_pop hx hb dL_law_1359 rfl (hp_n (n := 1360) rfl ?_)
  obtain ⟨hB, hG, hKx, hM, hR, hE, hRo⟩ := id hli1
  have hcs : cells + 0 ≤ 986 ∧ slots + 0 ≤ 148568 := by rcases hRo with ⟨-, h1, h2⟩ | ⟨-, h1, h2⟩ <;> omega
  refine lv_aload_n hx hb dL_law_1360 rfl (lv_at hl 2 rfl) (hp_n (n := 1361) rfl ?_)
  refine l_arg (j := 1) (nj := 1) (q0 := 0) (q3 := 3) (pc' := 1366) C hB hX hbl hbA hl rfl rfl (by decide) hi hi2 hi3 dL_law_1361 dL_law_1362 rfl dL_law_1363 dL_law_1364 dL_law_1365 rfl rfl rfl rfl rfl (fun w1 ew1 => ?_)
  refine l_arg (j := 2) (nj := 2) (q0 := 0) (q3 := 3) (pc' := 1371) C hB hX hbl hbA hl rfl rfl (by decide) hi hi2 hi3 dL_law_1366 dL_law_1367 rfl dL_law_1368 dL_law_1369 dL_law_1370 rfl rfl rfl rfl rfl (fun w2 ew2 => ?_)
  refine l_arg (j := 3) (nj := 3) (q0 := 0) (q3 := 3) (pc' := 1376) C hB hX hbl hbA hl rfl rfl (by decide) hi hi2 hi3 dL_law_1371 dL_law_1372 rfl dL_law_1373 dL_law_1374 dL_law_1375 rfl rfl rfl rfl rfl (fun w3 ew3 => ?_)
  rw [← eu1] at ew1; have ew1 := ew1.symm; subst ew1
  rw [← eu2] at ew2; have ew2 := ew2.symm; subst ew2
  rw [← eu3] at ew3; have ew3 := ew3.symm; subst ew3
  obtain ⟨⟨r2, τ⟩, hq, hp⟩ := ws_pr (ws_pr (s_bundled 70000 (by decide) σ hR u1 u2 u3) (z_X12_bundled kq_rf)) (x_X12_bundled kf_rf)
  refine q_ci (pc' := 1379) hB (l_runV (As := [.int u1, .int u2, .int u3]) (rest := []) C hB (m_X12_bundled 70000 Γ l _ y ρ σ hM u1 u2 u3 (r2, τ) hq) lb_X12_bundled lv_X12_bundled lk_L_150 hM.1 (Nat.le_of_ble_eq_true rfl) (Nat.le_of_ble_eq_true rfl) ⟨Nat.le_trans (Nat.add_le_add_right hcs.1 _) (Nat.le_of_ble_eq_true rfl), Nat.le_trans (Nat.add_le_add_right hcs.2 _) (Nat.le_of_ble_eq_true rfl)⟩ rfl hl.1 rfl (Nat.le_of_ble_eq_true rfl) dL_law_1376) (fun _ _ _ => trivial) rfl (fun r3 γ H2 L2 p2 B2 => ?_)
  have hli2 := li0_mo (li_0 hli1) B2 p2.2.1 p2.2.2 hp.1.1.1 (lxc_kq hli1.2.2.2.2.2.1 p2.2.1 hp.1.2 hp.2 hp.1.1.2 hp.1.1.1)
  refine lv_pop hx hb dL_law_1379 rfl (hp_n (n := 1380) rfl ?_)
  refine lv_goto (tgt := 2391) hx hb dL_law_1380 (by decide) ?_
  exact kk _ _ _ _ _ _ hli2
set_option maxRecDepth 100000 in
set_option maxHeartbeats 4000000 in
theorem lc_33 {p : Program} {l : Launch} {e : Env} {s : State} {m : MethodId} {below : List Frame} {meth : Method} {c : Code} {Γ : hp_G} {b Ln x y : Nat} {xs : Nat → Int32} {ρ : Nat → Nat} (C : hp_C Γ p m c cL_law 4 s #[Value.ref b] RL) (hX : va_X b Ln xs s s.heap) (hbl : b < s.heap.size) (hbA : ¬ hp_A Γ b) (hLn : Ln ≤ 3072) {α : hp_T} {σ : ms_T} {H : Heap} {L : List Loc} {cells slots : Nat} (hli : li Γ s x y ρ α σ H L cells slots) (i : Int32) (hi : 0 ≤ i.toInt) (hi2 : i.toInt + 6 ≤ (Ln : Int)) (ls : Array Slot) (hl : lv_has ls 4 [(0, .ref b), (1, .ref x), (2, .ref y), (3, .int i)]) (kk : ∀ (α : hp_T) (σ : ms_T) (H : Heap) (L : List Loc) (cells slots : Nat), li Γ s x y ρ α σ H L cells slots → W p l e room_1 s m #[Value.ref b] below meth c H L cells slots (lw_Z below #[Value.ref b] s) (F0 m 2391 ls [])) : W p l e room_1 s m #[Value.ref b] below meth c H L cells slots (lw_Z below #[Value.ref b] s) (F0 m 1383 ls []) := by
  have hx := C.1.1
  have hb := C.1.2.1
  have hi3 : (Ln : Int) ≤ 3072 := by omega
  have hcs : cells ≤ 986 ∧ slots ≤ 148568 := by rcases hli.2.2.2.2.2.2 with ⟨-, h1, h2⟩ | ⟨-, h1, h2⟩ <;> omega
  obtain ⟨hB, hG, hKx, hM, hR, hE, hRo⟩ := id hli
  refine lv_aload_n hx hb dL_law_1383 rfl (lv_at hl 1 rfl) (hp_n (n := 1384) rfl ?_)
  have hE0 := hE
  refine q_ci (pc' := 1387) hB (l_runV (As := []) (rest := []) C hB (t_X11_fold Γ l α hG x hKx ) lb_X11_fold lv_X11_fold lk_L_151 hKx (Nat.le_of_ble_eq_true rfl) (Nat.le_of_ble_eq_true rfl) ⟨Nat.le_trans (Nat.add_le_add_right hcs.1 _) (Nat.le_of_ble_eq_true rfl), Nat.le_trans (Nat.add_le_add_right hcs.2 _) (Nat.le_of_ble_eq_true rfl)⟩ rfl hl.1 rfl (Nat.le_of_ble_eq_true rfl) dL_law_1384) (fun _ _ _ => trivial) rfl (fun r1 β H1 L1 p1 B1 => ?_)
  have hli1 := li_cw hli B1 p1 (by decide)
  refine lv_pop hx hb dL_law_1387 rfl (hp_n (n := 1388) rfl ?_)
  obtain ⟨hB, hG, hKx, hM, hR, hE, hRo⟩ := id hli1
  have hcs : cells + 0 ≤ 986 ∧ slots + 0 ≤ 148568 := by rcases hRo with ⟨-, h1, h2⟩ | ⟨-, h1, h2⟩ <;> omega
  refine lv_aload_n hx hb dL_law_1388 rfl (lv_at hl 2 rfl) (hp_n (n := 1389) rfl ?_)
  obtain ⟨⟨r2, τ⟩, hq, hp⟩ := ws_pr (ws_pr (s_fold 70000 (by decide) σ hR ) (z_X12_fold kq_rf)) (x_X12_fold kf_rf)
  refine q_ci (pc' := 1392) hB (l_runV (As := []) (rest := []) C hB (m_X12_fold 70000 Γ l _ y ρ σ hM  (r2, τ) hq) lb_X12_fold lv_X12_fold lk_L_154 hM.1 (Nat.le_of_ble_eq_true rfl) (Nat.le_of_ble_eq_true rfl) ⟨Nat.le_trans (Nat.add_le_add_right hcs.1 _) (Nat.le_of_ble_eq_true rfl), Nat.le_trans (Nat.add_le_add_right hcs.2 _) (Nat.le_of_ble_eq_true rfl)⟩ rfl hl.1 rfl (Nat.le_of_ble_eq_true rfl) dL_law_1389) (fun _ _ _ => trivial) rfl (fun r3 γ H2 L2 p2 B2 => ?_)
  have hli2 := li0_mo (li_0 hli1) B2 p2.2.1 p2.2.2 hp.1.1.1 (lxc_kq hli1.2.2.2.2.2.1 p2.2.1 hp.1.2 hp.2 hp.1.1.2 hp.1.1.1)
  refine lv_pop hx hb dL_law_1392 rfl (hp_n (n := 1393) rfl ?_)
  refine lv_goto (tgt := 2391) hx hb dL_law_1393 (by decide) ?_
  exact kk _ _ _ _ _ _ hli2
set_option maxRecDepth 100000 in
set_option maxHeartbeats 4000000 in
theorem lc_34 {p : Program} {l : Launch} {e : Env} {s : State} {m : MethodId} {below : List Frame} {meth : Method} {c : Code} {Γ : hp_G} {b Ln x y : Nat} {xs : Nat → Int32} {ρ : Nat → Nat} (C : hp_C Γ p m c cL_law 4 s #[Value.ref b] RL) (hX : va_X b Ln xs s s.heap) (hbl : b < s.heap.size) (hbA : ¬ hp_A Γ b) (hLn : Ln ≤ 3072) {α : hp_T} {σ : ms_T} {H : Heap} {L : List Loc} {cells slots : Nat} (hli : li Γ s x y ρ α σ H L cells slots) (i : Int32) (hi : 0 ≤ i.toInt) (hi2 : i.toInt + 6 ≤ (Ln : Int)) (ls : Array Slot) (hl : lv_has ls 4 [(0, .ref b), (1, .ref x), (2, .ref y), (3, .int i)]) (kk : ∀ (α : hp_T) (σ : ms_T) (H : Heap) (L : List Loc) (cells slots : Nat), li Γ s x y ρ α σ H L cells slots → W p l e room_1 s m #[Value.ref b] below meth c H L cells slots (lw_Z below #[Value.ref b] s) (F0 m 2391 ls [])) : W p l e room_1 s m #[Value.ref b] below meth c H L cells slots (lw_Z below #[Value.ref b] s) (F0 m 1396 ls []) := by
  have hx := C.1.1
  have hb := C.1.2.1
  have hi3 : (Ln : Int) ≤ 3072 := by omega
  have hcs : cells ≤ 986 ∧ slots ≤ 148568 := by rcases hli.2.2.2.2.2.2 with ⟨-, h1, h2⟩ | ⟨-, h1, h2⟩ <;> omega
  obtain ⟨hB, hG, hKx, hM, hR, hE, hRo⟩ := id hli
  refine lv_aload_n hx hb dL_law_1396 rfl (lv_at hl 1 rfl) (hp_n (n := 1397) rfl ?_)
  refine l_arg (j := 1) (nj := 1) (q0 := 0) (q3 := 3) (pc' := 1402) C hB hX hbl hbA hl rfl rfl (by decide) hi hi2 hi3 dL_law_1397 dL_law_1398 rfl dL_law_1399 dL_law_1400 dL_law_1401 rfl rfl rfl rfl rfl (fun u1 eu1 => ?_)
  refine l_arg (j := 2) (nj := 2) (q0 := 0) (q3 := 3) (pc' := 1407) C hB hX hbl hbA hl rfl rfl (by decide) hi hi2 hi3 dL_law_1402 dL_law_1403 rfl dL_law_1404 dL_law_1405 dL_law_1406 rfl rfl rfl rfl rfl (fun u2 eu2 => ?_)
  have hE0 := hE
  refine q_ci (pc' := 1410) hB (l_runV (As := [.int u1, .int u2]) (rest := []) C hB (t_X11_steps Γ l α hG x hKx u1 u2) lb_X11_steps lv_X11_steps lk_L_155 hKx (Nat.le_of_ble_eq_true rfl) (Nat.le_of_ble_eq_true rfl) ⟨Nat.le_trans (Nat.add_le_add_right hcs.1 _) (Nat.le_of_ble_eq_true rfl), Nat.le_trans (Nat.add_le_add_right hcs.2 _) (Nat.le_of_ble_eq_true rfl)⟩ rfl hl.1 rfl (Nat.le_of_ble_eq_true rfl) dL_law_1407) (fun _ _ _ => trivial) rfl (fun r1 β H1 L1 p1 B1 => ?_)
  have hli1 := li_cw hli B1 p1 (by decide)
  refine lv_pop hx hb dL_law_1410 rfl (hp_n (n := 1411) rfl ?_)
  obtain ⟨hB, hG, hKx, hM, hR, hE, hRo⟩ := id hli1
  have hcs : cells + 0 ≤ 986 ∧ slots + 0 ≤ 148568 := by rcases hRo with ⟨-, h1, h2⟩ | ⟨-, h1, h2⟩ <;> omega
  refine lv_aload_n hx hb dL_law_1411 rfl (lv_at hl 2 rfl) (hp_n (n := 1412) rfl ?_)
  refine l_arg (j := 1) (nj := 1) (q0 := 0) (q3 := 3) (pc' := 1417) C hB hX hbl hbA hl rfl rfl (by decide) hi hi2 hi3 dL_law_1412 dL_law_1413 rfl dL_law_1414 dL_law_1415 dL_law_1416 rfl rfl rfl rfl rfl (fun w1 ew1 => ?_)
  refine l_arg (j := 2) (nj := 2) (q0 := 0) (q3 := 3) (pc' := 1422) C hB hX hbl hbA hl rfl rfl (by decide) hi hi2 hi3 dL_law_1417 dL_law_1418 rfl dL_law_1419 dL_law_1420 dL_law_1421 rfl rfl rfl rfl rfl (fun w2 ew2 => ?_)
  rw [← eu1] at ew1; have ew1 := ew1.symm; subst ew1
  rw [← eu2] at ew2; have ew2 := ew2.symm; subst ew2
  obtain ⟨⟨r2, τ⟩, hq, hp⟩ := ws_pr (ws_pr (s_steps 70000 (by decide) σ hR u1 u2) (z_X12_steps kq_rf)) (x_X12_steps kf_rf)
  refine q_ci (pc' := 1425) hB (l_runV (As := [.int u1, .int u2]) (rest := []) C hB (m_X12_steps 70000 Γ l _ y ρ σ hM u1 u2 (r2, τ) hq) lb_X12_steps lv_X12_steps lk_L_158 hM.1 (Nat.le_of_ble_eq_true rfl) (Nat.le_of_ble_eq_true rfl) ⟨Nat.le_trans (Nat.add_le_add_right hcs.1 _) (Nat.le_of_ble_eq_true rfl), Nat.le_trans (Nat.add_le_add_right hcs.2 _) (Nat.le_of_ble_eq_true rfl)⟩ rfl hl.1 rfl (Nat.le_of_ble_eq_true rfl) dL_law_1422) (fun _ _ _ => trivial) rfl (fun r3 γ H2 L2 p2 B2 => ?_)
  have hli2 := li0_mo (li_0 hli1) B2 p2.2.1 p2.2.2 hp.1.1.1 (lxc_kq hli1.2.2.2.2.2.1 p2.2.1 hp.1.2 hp.2 hp.1.1.2 hp.1.1.1)
  refine lv_pop hx hb dL_law_1425 rfl (hp_n (n := 1426) rfl ?_)
  refine lv_goto (tgt := 2391) hx hb dL_law_1426 (by decide) ?_
  exact kk _ _ _ _ _ _ hli2
set_option maxRecDepth 100000 in
set_option maxHeartbeats 4000000 in
theorem lc_35 {p : Program} {l : Launch} {e : Env} {s : State} {m : MethodId} {below : List Frame} {meth : Method} {c : Code} {Γ : hp_G} {b Ln x y : Nat} {xs : Nat → Int32} {ρ : Nat → Nat} (C : hp_C Γ p m c cL_law 4 s #[Value.ref b] RL) (hX : va_X b Ln xs s s.heap) (hbl : b < s.heap.size) (hbA : ¬ hp_A Γ b) (hLn : Ln ≤ 3072) {α : hp_T} {σ : ms_T} {H : Heap} {L : List Loc} {cells slots : Nat} (hli : li Γ s x y ρ α σ H L cells slots) (i : Int32) (hi : 0 ≤ i.toInt) (hi2 : i.toInt + 6 ≤ (Ln : Int)) (ls : Array Slot) (hl : lv_has ls 4 [(0, .ref b), (1, .ref x), (2, .ref y), (3, .int i)]) (kk : ∀ (α : hp_T) (σ : ms_T) (H : Heap) (L : List Loc) (cells slots : Nat), li Γ s x y ρ α σ H L cells slots → W p l e room_1 s m #[Value.ref b] below meth c H L cells slots (lw_Z below #[Value.ref b] s) (F0 m 2391 ls [])) : W p l e room_1 s m #[Value.ref b] below meth c H L cells slots (lw_Z below #[Value.ref b] s) (F0 m 1429 ls []) := by
  have hx := C.1.1
  have hb := C.1.2.1
  have hi3 : (Ln : Int) ≤ 3072 := by omega
  have hcs : cells ≤ 986 ∧ slots ≤ 148568 := by rcases hli.2.2.2.2.2.2 with ⟨-, h1, h2⟩ | ⟨-, h1, h2⟩ <;> omega
  obtain ⟨hB, hG, hKx, hM, hR, hE, hRo⟩ := id hli
  refine lv_aload_n hx hb dL_law_1429 rfl (lv_at hl 1 rfl) (hp_n (n := 1430) rfl ?_)
  refine l_arg (j := 1) (nj := 1) (q0 := 0) (q3 := 3) (pc' := 1435) C hB hX hbl hbA hl rfl rfl (by decide) hi hi2 hi3 dL_law_1430 dL_law_1431 rfl dL_law_1432 dL_law_1433 dL_law_1434 rfl rfl rfl rfl rfl (fun u1 eu1 => ?_)
  refine l_arg (j := 2) (nj := 2) (q0 := 0) (q3 := 3) (pc' := 1440) C hB hX hbl hbA hl rfl rfl (by decide) hi hi2 hi3 dL_law_1435 dL_law_1436 rfl dL_law_1437 dL_law_1438 dL_law_1439 rfl rfl rfl rfl rfl (fun u2 eu2 => ?_)
  have hE0 := hE
  refine q_ci (pc' := 1443) hB (l_runV (As := [.int u1, .int u2]) (rest := []) C hB (t_X11_climbs Γ l α hG x hKx u1 u2) lb_X11_climbs lv_X11_climbs lk_L_159 hKx (Nat.le_of_ble_eq_true rfl) (Nat.le_of_ble_eq_true rfl) ⟨Nat.le_trans (Nat.add_le_add_right hcs.1 _) (Nat.le_of_ble_eq_true rfl), Nat.le_trans (Nat.add_le_add_right hcs.2 _) (Nat.le_of_ble_eq_true rfl)⟩ rfl hl.1 rfl (Nat.le_of_ble_eq_true rfl) dL_law_1440) (fun _ _ _ => trivial) rfl (fun r1 β H1 L1 p1 B1 => ?_)
  have hli1 := li_cw hli B1 p1 (by decide)
  refine lv_pop hx hb dL_law_1443 rfl (hp_n (n := 1444) rfl ?_)
  obtain ⟨hB, hG, hKx, hM, hR, hE, hRo⟩ := id hli1
  have hcs : cells + 0 ≤ 986 ∧ slots + 0 ≤ 148568 := by rcases hRo with ⟨-, h1, h2⟩ | ⟨-, h1, h2⟩ <;> omega
  refine lv_aload_n hx hb dL_law_1444 rfl (lv_at hl 2 rfl) (hp_n (n := 1445) rfl ?_)
  refine l_arg (j := 1) (nj := 1) (q0 := 0) (q3 := 3) (pc' := 1450) C hB hX hbl hbA hl rfl rfl (by decide) hi hi2 hi3 dL_law_1445 dL_law_1446 rfl dL_law_1447 dL_law_1448 dL_law_1449 rfl rfl rfl rfl rfl (fun w1 ew1 => ?_)
  refine l_arg (j := 2) (nj := 2) (q0 := 0) (q3 := 3) (pc' := 1455) C hB hX hbl hbA hl rfl rfl (by decide) hi hi2 hi3 dL_law_1450 dL_law_1451 rfl dL_law_1452 dL_law_1453 dL_law_1454 rfl rfl rfl rfl rfl (fun w2 ew2 => ?_)
  rw [← eu1] at ew1; have ew1 := ew1.symm; subst ew1
  rw [← eu2] at ew2; have ew2 := ew2.symm; subst ew2
  obtain ⟨⟨r2, τ⟩, hq, hp⟩ := ws_pr (ws_pr (s_climbs 70000 (by decide) σ hR u1 u2) (z_X12_climbs kq_rf)) (x_X12_climbs kf_rf)
  refine q_ci (pc' := 1458) hB (l_runV (As := [.int u1, .int u2]) (rest := []) C hB (m_X12_climbs 70000 Γ l _ y ρ σ hM u1 u2 (r2, τ) hq) lb_X12_climbs lv_X12_climbs lk_L_162 hM.1 (Nat.le_of_ble_eq_true rfl) (Nat.le_of_ble_eq_true rfl) ⟨Nat.le_trans (Nat.add_le_add_right hcs.1 _) (Nat.le_of_ble_eq_true rfl), Nat.le_trans (Nat.add_le_add_right hcs.2 _) (Nat.le_of_ble_eq_true rfl)⟩ rfl hl.1 rfl (Nat.le_of_ble_eq_true rfl) dL_law_1455) (fun _ _ _ => trivial) rfl (fun r3 γ H2 L2 p2 B2 => ?_)
  have hli2 := li0_mo (li_0 hli1) B2 p2.2.1 p2.2.2 hp.1.1.1 (lxc_kq hli1.2.2.2.2.2.1 p2.2.1 hp.1.2 hp.2 hp.1.1.2 hp.1.1.1)
  refine lv_pop hx hb dL_law_1458 rfl (hp_n (n := 1459) rfl ?_)
  refine lv_goto (tgt := 2391) hx hb dL_law_1459 (by decide) ?_
  exact kk _ _ _ _ _ _ hli2
set_option maxRecDepth 100000 in
set_option maxHeartbeats 4000000 in
theorem lc_36 {p : Program} {l : Launch} {e : Env} {s : State} {m : MethodId} {below : List Frame} {meth : Method} {c : Code} {Γ : hp_G} {b Ln x y : Nat} {xs : Nat → Int32} {ρ : Nat → Nat} (C : hp_C Γ p m c cL_law 4 s #[Value.ref b] RL) (hX : va_X b Ln xs s s.heap) (hbl : b < s.heap.size) (hbA : ¬ hp_A Γ b) (hLn : Ln ≤ 3072) {α : hp_T} {σ : ms_T} {H : Heap} {L : List Loc} {cells slots : Nat} (hli : li Γ s x y ρ α σ H L cells slots) (i : Int32) (hi : 0 ≤ i.toInt) (hi2 : i.toInt + 6 ≤ (Ln : Int)) (ls : Array Slot) (hl : lv_has ls 4 [(0, .ref b), (1, .ref x), (2, .ref y), (3, .int i)]) (kk : ∀ (α : hp_T) (σ : ms_T) (H : Heap) (L : List Loc) (cells slots : Nat), li Γ s x y ρ α σ H L cells slots → W p l e room_1 s m #[Value.ref b] below meth c H L cells slots (lw_Z below #[Value.ref b] s) (F0 m 2391 ls [])) : W p l e room_1 s m #[Value.ref b] below meth c H L cells slots (lw_Z below #[Value.ref b] s) (F0 m 1462 ls []) := by
  have hx := C.1.1
  have hb := C.1.2.1
  have hi3 : (Ln : Int) ≤ 3072 := by omega
  have hcs : cells ≤ 986 ∧ slots ≤ 148568 := by rcases hli.2.2.2.2.2.2 with ⟨-, h1, h2⟩ | ⟨-, h1, h2⟩ <;> omega
  obtain ⟨hB, hG, hKx, hM, hR, hE, hRo⟩ := id hli
  refine lv_aload_n hx hb dL_law_1462 rfl (lv_at hl 1 rfl) (hp_n (n := 1463) rfl ?_)
  refine l_arg (j := 1) (nj := 1) (q0 := 0) (q3 := 3) (pc' := 1468) C hB hX hbl hbA hl rfl rfl (by decide) hi hi2 hi3 dL_law_1463 dL_law_1464 rfl dL_law_1465 dL_law_1466 dL_law_1467 rfl rfl rfl rfl rfl (fun u1 eu1 => ?_)
  refine l_arg (j := 2) (nj := 2) (q0 := 0) (q3 := 3) (pc' := 1473) C hB hX hbl hbA hl rfl rfl (by decide) hi hi2 hi3 dL_law_1468 dL_law_1469 rfl dL_law_1470 dL_law_1471 dL_law_1472 rfl rfl rfl rfl rfl (fun u2 eu2 => ?_)
  have hE0 := hE
  refine q_ci (pc' := 1476) hB (l_runV (As := [.int u1, .int u2]) (rest := []) C hB (t_X11_agree Γ l α hG x hKx u1 u2) lb_X11_agree lv_X11_agree lk_L_163 hKx (Nat.le_of_ble_eq_true rfl) (Nat.le_of_ble_eq_true rfl) ⟨Nat.le_trans (Nat.add_le_add_right hcs.1 _) (Nat.le_of_ble_eq_true rfl), Nat.le_trans (Nat.add_le_add_right hcs.2 _) (Nat.le_of_ble_eq_true rfl)⟩ rfl hl.1 rfl (Nat.le_of_ble_eq_true rfl) dL_law_1473) (fun _ _ _ => trivial) rfl (fun r1 β H1 L1 p1 B1 => ?_)
  have hli1 := li_cw hli B1 p1 (by decide)
  refine lv_pop hx hb dL_law_1476 rfl (hp_n (n := 1477) rfl ?_)
  obtain ⟨hB, hG, hKx, hM, hR, hE, hRo⟩ := id hli1
  have hcs : cells + 0 ≤ 986 ∧ slots + 0 ≤ 148568 := by rcases hRo with ⟨-, h1, h2⟩ | ⟨-, h1, h2⟩ <;> omega
  refine lv_aload_n hx hb dL_law_1477 rfl (lv_at hl 2 rfl) (hp_n (n := 1478) rfl ?_)
  refine l_arg (j := 1) (nj := 1) (q0 := 0) (q3 := 3) (pc' := 1483) C hB hX hbl hbA hl rfl rfl (by decide) hi hi2 hi3 dL_law_1478 dL_law_1479 rfl dL_law_1480 dL_law_1481 dL_law_1482 rfl rfl rfl rfl rfl (fun w1 ew1 => ?_)
  refine l_arg (j := 2) (nj := 2) (q0 := 0) (q3 := 3) (pc' := 1488) C hB hX hbl hbA hl rfl rfl (by decide) hi hi2 hi3 dL_law_1483 dL_law_1484 rfl dL_law_1485 dL_law_1486 dL_law_1487 rfl rfl rfl rfl rfl (fun w2 ew2 => ?_)
  rw [← eu1] at ew1; have ew1 := ew1.symm; subst ew1
  rw [← eu2] at ew2; have ew2 := ew2.symm; subst ew2
  obtain ⟨⟨r2, τ⟩, hq, hp⟩ := ws_pr (ws_pr (s_agree 70000 (by decide) σ hR u1 u2) (z_X12_agree kq_rf)) (x_X12_agree kf_rf)
  refine q_ci (pc' := 1491) hB (l_runV (As := [.int u1, .int u2]) (rest := []) C hB (m_X12_agree 70000 Γ l _ y ρ σ hM u1 u2 (r2, τ) hq) lb_X12_agree lv_X12_agree lk_L_166 hM.1 (Nat.le_of_ble_eq_true rfl) (Nat.le_of_ble_eq_true rfl) ⟨Nat.le_trans (Nat.add_le_add_right hcs.1 _) (Nat.le_of_ble_eq_true rfl), Nat.le_trans (Nat.add_le_add_right hcs.2 _) (Nat.le_of_ble_eq_true rfl)⟩ rfl hl.1 rfl (Nat.le_of_ble_eq_true rfl) dL_law_1488) (fun _ _ _ => trivial) rfl (fun r3 γ H2 L2 p2 B2 => ?_)
  have hli2 := li0_mo (li_0 hli1) B2 p2.2.1 p2.2.2 hp.1.1.1 (lxc_kq hli1.2.2.2.2.2.1 p2.2.1 hp.1.2 hp.2 hp.1.1.2 hp.1.1.1)
  refine lv_pop hx hb dL_law_1491 rfl (hp_n (n := 1492) rfl ?_)
  refine lv_goto (tgt := 2391) hx hb dL_law_1492 (by decide) ?_
  exact kk _ _ _ _ _ _ hli2
set_option maxRecDepth 100000 in
set_option maxHeartbeats 4000000 in
theorem lc_37 {p : Program} {l : Launch} {e : Env} {s : State} {m : MethodId} {below : List Frame} {meth : Method} {c : Code} {Γ : hp_G} {b Ln x y : Nat} {xs : Nat → Int32} {ρ : Nat → Nat} (C : hp_C Γ p m c cL_law 4 s #[Value.ref b] RL) (hX : va_X b Ln xs s s.heap) (hbl : b < s.heap.size) (hbA : ¬ hp_A Γ b) (hLn : Ln ≤ 3072) {α : hp_T} {σ : ms_T} {H : Heap} {L : List Loc} {cells slots : Nat} (hli : li Γ s x y ρ α σ H L cells slots) (i : Int32) (hi : 0 ≤ i.toInt) (hi2 : i.toInt + 6 ≤ (Ln : Int)) (ls : Array Slot) (hl : lv_has ls 4 [(0, .ref b), (1, .ref x), (2, .ref y), (3, .int i)]) (kk : ∀ (α : hp_T) (σ : ms_T) (H : Heap) (L : List Loc) (cells slots : Nat), li Γ s x y ρ α σ H L cells slots → W p l e room_1 s m #[Value.ref b] below meth c H L cells slots (lw_Z below #[Value.ref b] s) (F0 m 2391 ls [])) : W p l e room_1 s m #[Value.ref b] below meth c H L cells slots (lw_Z below #[Value.ref b] s) (F0 m 1495 ls []) := by
  have hx := C.1.1
  have hb := C.1.2.1
  have hi3 : (Ln : Int) ≤ 3072 := by omega
  have hcs : cells ≤ 986 ∧ slots ≤ 148568 := by rcases hli.2.2.2.2.2.2 with ⟨-, h1, h2⟩ | ⟨-, h1, h2⟩ <;> omega
  obtain ⟨hB, hG, hKx, hM, hR, hE, hRo⟩ := id hli
  refine lv_aload_n hx hb dL_law_1495 rfl (lv_at hl 1 rfl) (hp_n (n := 1496) rfl ?_)
  refine l_arg (j := 1) (nj := 1) (q0 := 0) (q3 := 3) (pc' := 1501) C hB hX hbl hbA hl rfl rfl (by decide) hi hi2 hi3 dL_law_1496 dL_law_1497 rfl dL_law_1498 dL_law_1499 dL_law_1500 rfl rfl rfl rfl rfl (fun u1 eu1 => ?_)
  refine l_arg (j := 2) (nj := 2) (q0 := 0) (q3 := 3) (pc' := 1506) C hB hX hbl hbA hl rfl rfl (by decide) hi hi2 hi3 dL_law_1501 dL_law_1502 rfl dL_law_1503 dL_law_1504 dL_law_1505 rfl rfl rfl rfl rfl (fun u2 eu2 => ?_)
  have hE0 := hE
  refine q_ci (pc' := 1509) hB (l_runV (As := [.int u1, .int u2]) (rest := []) C hB (t_X11_where Γ l α hG x hKx u1 u2) lb_X11_where lv_X11_where lk_L_167 hKx (Nat.le_of_ble_eq_true rfl) (Nat.le_of_ble_eq_true rfl) ⟨Nat.le_trans (Nat.add_le_add_right hcs.1 _) (Nat.le_of_ble_eq_true rfl), Nat.le_trans (Nat.add_le_add_right hcs.2 _) (Nat.le_of_ble_eq_true rfl)⟩ rfl hl.1 rfl (Nat.le_of_ble_eq_true rfl) dL_law_1506) (fun _ _ _ => trivial) rfl (fun r1 β H1 L1 p1 B1 => ?_)
  have hli1 := li_cw hli B1 p1 (by decide)
  refine lv_pop hx hb dL_law_1509 rfl (hp_n (n := 1510) rfl ?_)
  obtain ⟨hB, hG, hKx, hM, hR, hE, hRo⟩ := id hli1
  have hcs : cells + 0 ≤ 986 ∧ slots + 0 ≤ 148568 := by rcases hRo with ⟨-, h1, h2⟩ | ⟨-, h1, h2⟩ <;> omega
  refine lv_aload_n hx hb dL_law_1510 rfl (lv_at hl 2 rfl) (hp_n (n := 1511) rfl ?_)
  refine l_arg (j := 1) (nj := 1) (q0 := 0) (q3 := 3) (pc' := 1516) C hB hX hbl hbA hl rfl rfl (by decide) hi hi2 hi3 dL_law_1511 dL_law_1512 rfl dL_law_1513 dL_law_1514 dL_law_1515 rfl rfl rfl rfl rfl (fun w1 ew1 => ?_)
  refine l_arg (j := 2) (nj := 2) (q0 := 0) (q3 := 3) (pc' := 1521) C hB hX hbl hbA hl rfl rfl (by decide) hi hi2 hi3 dL_law_1516 dL_law_1517 rfl dL_law_1518 dL_law_1519 dL_law_1520 rfl rfl rfl rfl rfl (fun w2 ew2 => ?_)
  rw [← eu1] at ew1; have ew1 := ew1.symm; subst ew1
  rw [← eu2] at ew2; have ew2 := ew2.symm; subst ew2
  obtain ⟨⟨r2, τ⟩, hq, hp⟩ := ws_pr (ws_pr (s_where 70000 (by decide) σ hR u1 u2) (z_X12_where kq_rf)) (x_X12_where kf_rf)
  refine q_ci (pc' := 1524) hB (l_runV (As := [.int u1, .int u2]) (rest := []) C hB (m_X12_where 70000 Γ l _ y ρ σ hM u1 u2 (r2, τ) hq) lb_X12_where lv_X12_where lk_L_170 hM.1 (Nat.le_of_ble_eq_true rfl) (Nat.le_of_ble_eq_true rfl) ⟨Nat.le_trans (Nat.add_le_add_right hcs.1 _) (Nat.le_of_ble_eq_true rfl), Nat.le_trans (Nat.add_le_add_right hcs.2 _) (Nat.le_of_ble_eq_true rfl)⟩ rfl hl.1 rfl (Nat.le_of_ble_eq_true rfl) dL_law_1521) (fun _ _ _ => trivial) rfl (fun r3 γ H2 L2 p2 B2 => ?_)
  have hli2 := li0_mo (li_0 hli1) B2 p2.2.1 p2.2.2 hp.1.1.1 (lxc_kq hli1.2.2.2.2.2.1 p2.2.1 hp.1.2 hp.2 hp.1.1.2 hp.1.1.1)
  refine lv_pop hx hb dL_law_1524 rfl (hp_n (n := 1525) rfl ?_)
  refine lv_goto (tgt := 2391) hx hb dL_law_1525 (by decide) ?_
  exact kk _ _ _ _ _ _ hli2
set_option maxRecDepth 100000 in
set_option maxHeartbeats 4000000 in
theorem lc_38 {p : Program} {l : Launch} {e : Env} {s : State} {m : MethodId} {below : List Frame} {meth : Method} {c : Code} {Γ : hp_G} {b Ln x y : Nat} {xs : Nat → Int32} {ρ : Nat → Nat} (C : hp_C Γ p m c cL_law 4 s #[Value.ref b] RL) (hX : va_X b Ln xs s s.heap) (hbl : b < s.heap.size) (hbA : ¬ hp_A Γ b) (hLn : Ln ≤ 3072) {α : hp_T} {σ : ms_T} {H : Heap} {L : List Loc} {cells slots : Nat} (hli : li Γ s x y ρ α σ H L cells slots) (i : Int32) (hi : 0 ≤ i.toInt) (hi2 : i.toInt + 6 ≤ (Ln : Int)) (ls : Array Slot) (hl : lv_has ls 4 [(0, .ref b), (1, .ref x), (2, .ref y), (3, .int i)]) (kk : ∀ (α : hp_T) (σ : ms_T) (H : Heap) (L : List Loc) (cells slots : Nat), li Γ s x y ρ α σ H L cells slots → W p l e room_1 s m #[Value.ref b] below meth c H L cells slots (lw_Z below #[Value.ref b] s) (F0 m 2391 ls [])) : W p l e room_1 s m #[Value.ref b] below meth c H L cells slots (lw_Z below #[Value.ref b] s) (F0 m 1528 ls []) := by
  have hx := C.1.1
  have hb := C.1.2.1
  have hi3 : (Ln : Int) ≤ 3072 := by omega
  have hcs : cells ≤ 986 ∧ slots ≤ 148568 := by rcases hli.2.2.2.2.2.2 with ⟨-, h1, h2⟩ | ⟨-, h1, h2⟩ <;> omega
  obtain ⟨hB, hG, hKx, hM, hR, hE, hRo⟩ := id hli
  refine lv_aload_n hx hb dL_law_1528 rfl (lv_at hl 1 rfl) (hp_n (n := 1529) rfl ?_)
  refine l_arg (j := 1) (nj := 1) (q0 := 0) (q3 := 3) (pc' := 1534) C hB hX hbl hbA hl rfl rfl (by decide) hi hi2 hi3 dL_law_1529 dL_law_1530 rfl dL_law_1531 dL_law_1532 dL_law_1533 rfl rfl rfl rfl rfl (fun u1 eu1 => ?_)
  refine l_arg (j := 2) (nj := 2) (q0 := 0) (q3 := 3) (pc' := 1539) C hB hX hbl hbA hl rfl rfl (by decide) hi hi2 hi3 dL_law_1534 dL_law_1535 rfl dL_law_1536 dL_law_1537 dL_law_1538 rfl rfl rfl rfl rfl (fun u2 eu2 => ?_)
  refine l_arg (j := 3) (nj := 3) (q0 := 0) (q3 := 3) (pc' := 1544) C hB hX hbl hbA hl rfl rfl (by decide) hi hi2 hi3 dL_law_1539 dL_law_1540 rfl dL_law_1541 dL_law_1542 dL_law_1543 rfl rfl rfl rfl rfl (fun u3 eu3 => ?_)
  refine l_arg (j := 4) (nj := 4) (q0 := 0) (q3 := 3) (pc' := 1549) C hB hX hbl hbA hl rfl rfl (by decide) hi hi2 hi3 dL_law_1544 dL_law_1545 rfl dL_law_1546 dL_law_1547 dL_law_1548 rfl rfl rfl rfl rfl (fun u4 eu4 => ?_)
  have hE0 := hE
  refine q_ci (pc' := 1552) hB (l_runV (As := [.int u1, .int u2, .int u3, .int u4]) (rest := []) C hB (t_X11_tree Γ l α hG x hKx u1 u2 u3 u4) lb_X11_tree lv_X11_tree lk_L_171 hKx (Nat.le_of_ble_eq_true rfl) (Nat.le_of_ble_eq_true rfl) ⟨Nat.le_trans (Nat.add_le_add_right hcs.1 _) (Nat.le_of_ble_eq_true rfl), Nat.le_trans (Nat.add_le_add_right hcs.2 _) (Nat.le_of_ble_eq_true rfl)⟩ rfl hl.1 rfl (Nat.le_of_ble_eq_true rfl) dL_law_1549) (fun _ _ _ => trivial) rfl (fun r1 β H1 L1 p1 B1 => ?_)
  have hli1 := li_cw hli B1 p1 (by decide)
  refine lv_pop hx hb dL_law_1552 rfl (hp_n (n := 1553) rfl ?_)
  obtain ⟨hB, hG, hKx, hM, hR, hE, hRo⟩ := id hli1
  have hcs : cells + 0 ≤ 986 ∧ slots + 0 ≤ 148568 := by rcases hRo with ⟨-, h1, h2⟩ | ⟨-, h1, h2⟩ <;> omega
  refine lv_aload_n hx hb dL_law_1553 rfl (lv_at hl 2 rfl) (hp_n (n := 1554) rfl ?_)
  refine l_arg (j := 1) (nj := 1) (q0 := 0) (q3 := 3) (pc' := 1559) C hB hX hbl hbA hl rfl rfl (by decide) hi hi2 hi3 dL_law_1554 dL_law_1555 rfl dL_law_1556 dL_law_1557 dL_law_1558 rfl rfl rfl rfl rfl (fun w1 ew1 => ?_)
  refine l_arg (j := 2) (nj := 2) (q0 := 0) (q3 := 3) (pc' := 1564) C hB hX hbl hbA hl rfl rfl (by decide) hi hi2 hi3 dL_law_1559 dL_law_1560 rfl dL_law_1561 dL_law_1562 dL_law_1563 rfl rfl rfl rfl rfl (fun w2 ew2 => ?_)
  refine l_arg (j := 3) (nj := 3) (q0 := 0) (q3 := 3) (pc' := 1569) C hB hX hbl hbA hl rfl rfl (by decide) hi hi2 hi3 dL_law_1564 dL_law_1565 rfl dL_law_1566 dL_law_1567 dL_law_1568 rfl rfl rfl rfl rfl (fun w3 ew3 => ?_)
  refine l_arg (j := 4) (nj := 4) (q0 := 0) (q3 := 3) (pc' := 1574) C hB hX hbl hbA hl rfl rfl (by decide) hi hi2 hi3 dL_law_1569 dL_law_1570 rfl dL_law_1571 dL_law_1572 dL_law_1573 rfl rfl rfl rfl rfl (fun w4 ew4 => ?_)
  rw [← eu1] at ew1; have ew1 := ew1.symm; subst ew1
  rw [← eu2] at ew2; have ew2 := ew2.symm; subst ew2
  rw [← eu3] at ew3; have ew3 := ew3.symm; subst ew3
  rw [← eu4] at ew4; have ew4 := ew4.symm; subst ew4
  obtain ⟨⟨r2, τ⟩, hq, hp⟩ := ws_pr (ws_pr (s_tree 70000 (by decide) σ hR u1 u2 u3 u4) (z_X12_tree kq_rf)) (x_X12_tree kf_rf)
  refine q_ci (pc' := 1577) hB (l_runV (As := [.int u1, .int u2, .int u3, .int u4]) (rest := []) C hB (m_X12_tree 70000 Γ l _ y ρ σ hM u1 u2 u3 u4 (r2, τ) hq) lb_X12_tree lv_X12_tree lk_L_174 hM.1 (Nat.le_of_ble_eq_true rfl) (Nat.le_of_ble_eq_true rfl) ⟨Nat.le_trans (Nat.add_le_add_right hcs.1 _) (Nat.le_of_ble_eq_true rfl), Nat.le_trans (Nat.add_le_add_right hcs.2 _) (Nat.le_of_ble_eq_true rfl)⟩ rfl hl.1 rfl (Nat.le_of_ble_eq_true rfl) dL_law_1574) (fun _ _ _ => trivial) rfl (fun r3 γ H2 L2 p2 B2 => ?_)
  have hli2 := li0_mo (li_0 hli1) B2 p2.2.1 p2.2.2 hp.1.1.1 (lxc_kq hli1.2.2.2.2.2.1 p2.2.1 hp.1.2 hp.2 hp.1.1.2 hp.1.1.1)
  refine lv_pop hx hb dL_law_1577 rfl (hp_n (n := 1578) rfl ?_)
  refine lv_goto (tgt := 2391) hx hb dL_law_1578 (by decide) ?_
  exact kk _ _ _ _ _ _ hli2
set_option maxRecDepth 100000 in
set_option maxHeartbeats 4000000 in
theorem lc_39 {p : Program} {l : Launch} {e : Env} {s : State} {m : MethodId} {below : List Frame} {meth : Method} {c : Code} {Γ : hp_G} {b Ln x y : Nat} {xs : Nat → Int32} {ρ : Nat → Nat} (C : hp_C Γ p m c cL_law 4 s #[Value.ref b] RL) (hX : va_X b Ln xs s s.heap) (hbl : b < s.heap.size) (hbA : ¬ hp_A Γ b) (hLn : Ln ≤ 3072) {α : hp_T} {σ : ms_T} {H : Heap} {L : List Loc} {cells slots : Nat} (hli : li Γ s x y ρ α σ H L cells slots) (i : Int32) (hi : 0 ≤ i.toInt) (hi2 : i.toInt + 6 ≤ (Ln : Int)) (ls : Array Slot) (hl : lv_has ls 4 [(0, .ref b), (1, .ref x), (2, .ref y), (3, .int i)]) (kk : ∀ (α : hp_T) (σ : ms_T) (H : Heap) (L : List Loc) (cells slots : Nat), li Γ s x y ρ α σ H L cells slots → W p l e room_1 s m #[Value.ref b] below meth c H L cells slots (lw_Z below #[Value.ref b] s) (F0 m 2391 ls [])) : W p l e room_1 s m #[Value.ref b] below meth c H L cells slots (lw_Z below #[Value.ref b] s) (F0 m 1581 ls []) := by
  have hx := C.1.1
  have hb := C.1.2.1
  have hi3 : (Ln : Int) ≤ 3072 := by omega
  have hcs : cells ≤ 986 ∧ slots ≤ 148568 := by rcases hli.2.2.2.2.2.2 with ⟨-, h1, h2⟩ | ⟨-, h1, h2⟩ <;> omega
  obtain ⟨hB, hG, hKx, hM, hR, hE, hRo⟩ := id hli
  refine lv_aload_n hx hb dL_law_1581 rfl (lv_at hl 1 rfl) (hp_n (n := 1582) rfl ?_)
  refine l_arg (j := 1) (nj := 1) (q0 := 0) (q3 := 3) (pc' := 1587) C hB hX hbl hbA hl rfl rfl (by decide) hi hi2 hi3 dL_law_1582 dL_law_1583 rfl dL_law_1584 dL_law_1585 dL_law_1586 rfl rfl rfl rfl rfl (fun u1 eu1 => ?_)
  refine l_arg (j := 2) (nj := 2) (q0 := 0) (q3 := 3) (pc' := 1592) C hB hX hbl hbA hl rfl rfl (by decide) hi hi2 hi3 dL_law_1587 dL_law_1588 rfl dL_law_1589 dL_law_1590 dL_law_1591 rfl rfl rfl rfl rfl (fun u2 eu2 => ?_)
  have hE0 := hE
  refine q_ci (pc' := 1595) hB (l_runV (As := [.int u1, .int u2]) (rest := []) C hB (t_X11_proves_R (ra := [x + 6, x + 465]) (rb := [x + 7, x + 466]) Γ l α hG x hKx u1 u2 (PRV hE.1.2.2.1).1 (PRV hE.1.2.2.1).2) lb_X11_proves lv_X11_proves lk_L_175 hKx (Nat.le_of_ble_eq_true rfl) (Nat.le_of_ble_eq_true rfl) ⟨Nat.le_trans (Nat.add_le_add_right hcs.1 _) (Nat.le_of_ble_eq_true rfl), Nat.le_trans (Nat.add_le_add_right hcs.2 _) (Nat.le_of_ble_eq_true rfl)⟩ rfl hl.1 rfl (Nat.le_of_ble_eq_true rfl) dL_law_1592) (fun _ _ _ => trivial) rfl (fun r1 β H1 L1 p1 B1 => ?_)
  have hli1 := li0_cw hli B1 p1.1 (by decide)
  refine lv_pop hx hb dL_law_1595 rfl (hp_n (n := 1596) rfl ?_)
  obtain ⟨hB, hG, hKx, hM, hR, hE, hRo⟩ := id hli1
  have hcs : cells + 0 ≤ 986 ∧ slots + 0 ≤ 148568 := by rcases hRo with ⟨-, h1, h2⟩ | ⟨-, h1, h2⟩ <;> omega
  refine lv_aload_n hx hb dL_law_1596 rfl (lv_at hl 2 rfl) (hp_n (n := 1597) rfl ?_)
  refine l_arg (j := 1) (nj := 1) (q0 := 0) (q3 := 3) (pc' := 1602) C hB hX hbl hbA hl rfl rfl (by decide) hi hi2 hi3 dL_law_1597 dL_law_1598 rfl dL_law_1599 dL_law_1600 dL_law_1601 rfl rfl rfl rfl rfl (fun w1 ew1 => ?_)
  refine l_arg (j := 2) (nj := 2) (q0 := 0) (q3 := 3) (pc' := 1607) C hB hX hbl hbA hl rfl rfl (by decide) hi hi2 hi3 dL_law_1602 dL_law_1603 rfl dL_law_1604 dL_law_1605 dL_law_1606 rfl rfl rfl rfl rfl (fun w2 ew2 => ?_)
  rw [← eu1] at ew1; have ew1 := ew1.symm; subst ew1
  rw [← eu2] at ew2; have ew2 := ew2.symm; subst ew2
  obtain ⟨⟨r2, τ⟩, hq, hp⟩ := ws_pr (s_proves 70000 (by decide) σ hR u1 u2) (z_X12_proves kq_rf)
  refine q_ci (pc' := 1610) hB (l_runV (As := [.int u1, .int u2]) (rest := []) C hB (m_X12_proves 70000 Γ l _ y ρ σ hM u1 u2 (r2, τ) hq) lb_X12_proves lv_X12_proves lk_L_178 hM.1 (Nat.le_of_ble_eq_true rfl) (Nat.le_of_ble_eq_true rfl) ⟨Nat.le_trans (Nat.add_le_add_right hcs.1 _) (Nat.le_of_ble_eq_true rfl), Nat.le_trans (Nat.add_le_add_right hcs.2 _) (Nat.le_of_ble_eq_true rfl)⟩ rfl hl.1 rfl (Nat.le_of_ble_eq_true rfl) dL_law_1607) (fun _ _ _ => trivial) rfl (fun r3 γ H2 L2 p2 B2 => ?_)
  have hli2 := li0_mo hli1 B2 p2.2.1 p2.2.2 hp.1.1 ⟨lx_kq (LX_cw hE0.1 p1.1 (by decide)) p2.2.1 hp.2 hp.1.2 hp.1.1, CX_kq (CX_R hE0.2 p1 (by decide) n_19.2.2.1 n_19.2.2.2) p2.2.1 hp.2⟩
  refine lv_pop hx hb dL_law_1610 rfl (hp_n (n := 1611) rfl ?_)
  refine lv_goto (tgt := 2391) hx hb dL_law_1611 (by decide) ?_
  exact kk _ _ _ _ _ _ hli2
set_option maxRecDepth 100000 in
set_option maxHeartbeats 4000000 in
theorem lc_40 {p : Program} {l : Launch} {e : Env} {s : State} {m : MethodId} {below : List Frame} {meth : Method} {c : Code} {Γ : hp_G} {b Ln x y : Nat} {xs : Nat → Int32} {ρ : Nat → Nat} (C : hp_C Γ p m c cL_law 4 s #[Value.ref b] RL) (hX : va_X b Ln xs s s.heap) (hbl : b < s.heap.size) (hbA : ¬ hp_A Γ b) (hLn : Ln ≤ 3072) {α : hp_T} {σ : ms_T} {H : Heap} {L : List Loc} {cells slots : Nat} (hli : li Γ s x y ρ α σ H L cells slots) (i : Int32) (hi : 0 ≤ i.toInt) (hi2 : i.toInt + 6 ≤ (Ln : Int)) (ls : Array Slot) (hl : lv_has ls 4 [(0, .ref b), (1, .ref x), (2, .ref y), (3, .int i)]) (kk : ∀ (α : hp_T) (σ : ms_T) (H : Heap) (L : List Loc) (cells slots : Nat), li Γ s x y ρ α σ H L cells slots → W p l e room_1 s m #[Value.ref b] below meth c H L cells slots (lw_Z below #[Value.ref b] s) (F0 m 2391 ls [])) : W p l e room_1 s m #[Value.ref b] below meth c H L cells slots (lw_Z below #[Value.ref b] s) (F0 m 1614 ls []) := by
  have hx := C.1.1
  have hb := C.1.2.1
  have hi3 : (Ln : Int) ≤ 3072 := by omega
  have hcs : cells ≤ 986 ∧ slots ≤ 148568 := by rcases hli.2.2.2.2.2.2 with ⟨-, h1, h2⟩ | ⟨-, h1, h2⟩ <;> omega
  obtain ⟨hB, hG, hKx, hM, hR, hE, hRo⟩ := id hli
  refine lv_aload_n hx hb dL_law_1614 rfl (lv_at hl 1 rfl) (hp_n (n := 1615) rfl ?_)
  refine l_arg (j := 1) (nj := 1) (q0 := 0) (q3 := 3) (pc' := 1620) C hB hX hbl hbA hl rfl rfl (by decide) hi hi2 hi3 dL_law_1615 dL_law_1616 rfl dL_law_1617 dL_law_1618 dL_law_1619 rfl rfl rfl rfl rfl (fun u1 eu1 => ?_)
  refine l_arg (j := 2) (nj := 2) (q0 := 0) (q3 := 3) (pc' := 1625) C hB hX hbl hbA hl rfl rfl (by decide) hi hi2 hi3 dL_law_1620 dL_law_1621 rfl dL_law_1622 dL_law_1623 dL_law_1624 rfl rfl rfl rfl rfl (fun u2 eu2 => ?_)
  have hE0 := hE
  refine q_ci (pc' := 1628) hB (l_runV (As := [.int u1, .int u2]) (rest := []) C hB (t_X11_longest Γ l α hG x hKx u1 u2) lb_X11_longest lv_X11_longest lk_L_179 hKx (Nat.le_of_ble_eq_true rfl) (Nat.le_of_ble_eq_true rfl) ⟨Nat.le_trans (Nat.add_le_add_right hcs.1 _) (Nat.le_of_ble_eq_true rfl), Nat.le_trans (Nat.add_le_add_right hcs.2 _) (Nat.le_of_ble_eq_true rfl)⟩ rfl hl.1 rfl (Nat.le_of_ble_eq_true rfl) dL_law_1625) (fun _ _ _ => trivial) rfl (fun r1 β H1 L1 p1 B1 => ?_)
  have hli1 := li_cw hli B1 p1 (by decide)
  refine lv_pop hx hb dL_law_1628 rfl (hp_n (n := 1629) rfl ?_)
  obtain ⟨hB, hG, hKx, hM, hR, hE, hRo⟩ := id hli1
  have hcs : cells + 0 ≤ 986 ∧ slots + 0 ≤ 148568 := by rcases hRo with ⟨-, h1, h2⟩ | ⟨-, h1, h2⟩ <;> omega
  refine lv_aload_n hx hb dL_law_1629 rfl (lv_at hl 2 rfl) (hp_n (n := 1630) rfl ?_)
  refine l_arg (j := 1) (nj := 1) (q0 := 0) (q3 := 3) (pc' := 1635) C hB hX hbl hbA hl rfl rfl (by decide) hi hi2 hi3 dL_law_1630 dL_law_1631 rfl dL_law_1632 dL_law_1633 dL_law_1634 rfl rfl rfl rfl rfl (fun w1 ew1 => ?_)
  refine l_arg (j := 2) (nj := 2) (q0 := 0) (q3 := 3) (pc' := 1640) C hB hX hbl hbA hl rfl rfl (by decide) hi hi2 hi3 dL_law_1635 dL_law_1636 rfl dL_law_1637 dL_law_1638 dL_law_1639 rfl rfl rfl rfl rfl (fun w2 ew2 => ?_)
  rw [← eu1] at ew1; have ew1 := ew1.symm; subst ew1
  rw [← eu2] at ew2; have ew2 := ew2.symm; subst ew2
  obtain ⟨⟨r2, τ⟩, hq, hp⟩ := ws_pr (ws_pr (s_longest 70000 (by decide) σ hR u1 u2) (z_X12_longest kq_rf)) (x_X12_longest kf_rf)
  refine q_ci (pc' := 1643) hB (l_runV (As := [.int u1, .int u2]) (rest := []) C hB (m_X12_longest 70000 Γ l _ y ρ σ hM u1 u2 (r2, τ) hq) lb_X12_longest lv_X12_longest lk_L_182 hM.1 (Nat.le_of_ble_eq_true rfl) (Nat.le_of_ble_eq_true rfl) ⟨Nat.le_trans (Nat.add_le_add_right hcs.1 _) (Nat.le_of_ble_eq_true rfl), Nat.le_trans (Nat.add_le_add_right hcs.2 _) (Nat.le_of_ble_eq_true rfl)⟩ rfl hl.1 rfl (Nat.le_of_ble_eq_true rfl) dL_law_1640) (fun _ _ _ => trivial) rfl (fun r3 γ H2 L2 p2 B2 => ?_)
  have hli2 := li0_mo (li_0 hli1) B2 p2.2.1 p2.2.2 hp.1.1.1 (lxc_kq hli1.2.2.2.2.2.1 p2.2.1 hp.1.2 hp.2 hp.1.1.2 hp.1.1.1)
  refine lv_pop hx hb dL_law_1643 rfl (hp_n (n := 1644) rfl ?_)
  refine lv_goto (tgt := 2391) hx hb dL_law_1644 (by decide) ?_
  exact kk _ _ _ _ _ _ hli2
set_option maxRecDepth 100000 in
set_option maxHeartbeats 4000000 in
theorem lc_41 {p : Program} {l : Launch} {e : Env} {s : State} {m : MethodId} {below : List Frame} {meth : Method} {c : Code} {Γ : hp_G} {b Ln x y : Nat} {xs : Nat → Int32} {ρ : Nat → Nat} (C : hp_C Γ p m c cL_law 4 s #[Value.ref b] RL) (hX : va_X b Ln xs s s.heap) (hbl : b < s.heap.size) (hbA : ¬ hp_A Γ b) (hLn : Ln ≤ 3072) {α : hp_T} {σ : ms_T} {H : Heap} {L : List Loc} {cells slots : Nat} (hli : li Γ s x y ρ α σ H L cells slots) (i : Int32) (hi : 0 ≤ i.toInt) (hi2 : i.toInt + 6 ≤ (Ln : Int)) (ls : Array Slot) (hl : lv_has ls 4 [(0, .ref b), (1, .ref x), (2, .ref y), (3, .int i)]) (kk : ∀ (α : hp_T) (σ : ms_T) (H : Heap) (L : List Loc) (cells slots : Nat), li Γ s x y ρ α σ H L cells slots → W p l e room_1 s m #[Value.ref b] below meth c H L cells slots (lw_Z below #[Value.ref b] s) (F0 m 2391 ls [])) : W p l e room_1 s m #[Value.ref b] below meth c H L cells slots (lw_Z below #[Value.ref b] s) (F0 m 1647 ls []) := by
  have hx := C.1.1
  have hb := C.1.2.1
  have hi3 : (Ln : Int) ≤ 3072 := by omega
  have hcs : cells ≤ 986 ∧ slots ≤ 148568 := by rcases hli.2.2.2.2.2.2 with ⟨-, h1, h2⟩ | ⟨-, h1, h2⟩ <;> omega
  obtain ⟨hB, hG, hKx, hM, hR, hE, hRo⟩ := id hli
  refine lv_aload_n hx hb dL_law_1647 rfl (lv_at hl 1 rfl) (hp_n (n := 1648) rfl ?_)
  refine l_arg (j := 1) (nj := 1) (q0 := 0) (q3 := 3) (pc' := 1653) C hB hX hbl hbA hl rfl rfl (by decide) hi hi2 hi3 dL_law_1648 dL_law_1649 rfl dL_law_1650 dL_law_1651 dL_law_1652 rfl rfl rfl rfl rfl (fun u1 eu1 => ?_)
  refine l_arg (j := 2) (nj := 2) (q0 := 0) (q3 := 3) (pc' := 1658) C hB hX hbl hbA hl rfl rfl (by decide) hi hi2 hi3 dL_law_1653 dL_law_1654 rfl dL_law_1655 dL_law_1656 dL_law_1657 rfl rfl rfl rfl rfl (fun u2 eu2 => ?_)
  refine l_arg (j := 3) (nj := 3) (q0 := 0) (q3 := 3) (pc' := 1663) C hB hX hbl hbA hl rfl rfl (by decide) hi hi2 hi3 dL_law_1658 dL_law_1659 rfl dL_law_1660 dL_law_1661 dL_law_1662 rfl rfl rfl rfl rfl (fun u3 eu3 => ?_)
  have hE0 := hE
  refine q_ci (pc' := 1666) hB (l_runV (As := [.int u1, .int u2, .int u3]) (rest := []) C hB (t_X11_part Γ l α hG x hKx u1 u2 u3) lb_X11_part lv_X11_part lk_L_183 hKx (Nat.le_of_ble_eq_true rfl) (Nat.le_of_ble_eq_true rfl) ⟨Nat.le_trans (Nat.add_le_add_right hcs.1 _) (Nat.le_of_ble_eq_true rfl), Nat.le_trans (Nat.add_le_add_right hcs.2 _) (Nat.le_of_ble_eq_true rfl)⟩ rfl hl.1 rfl (Nat.le_of_ble_eq_true rfl) dL_law_1663) (fun _ _ _ => trivial) rfl (fun r1 β H1 L1 p1 B1 => ?_)
  have hli1 := li_cw hli B1 p1 (by decide)
  refine lv_pop hx hb dL_law_1666 rfl (hp_n (n := 1667) rfl ?_)
  obtain ⟨hB, hG, hKx, hM, hR, hE, hRo⟩ := id hli1
  have hcs : cells + 0 ≤ 986 ∧ slots + 0 ≤ 148568 := by rcases hRo with ⟨-, h1, h2⟩ | ⟨-, h1, h2⟩ <;> omega
  refine lv_aload_n hx hb dL_law_1667 rfl (lv_at hl 2 rfl) (hp_n (n := 1668) rfl ?_)
  refine l_arg (j := 1) (nj := 1) (q0 := 0) (q3 := 3) (pc' := 1673) C hB hX hbl hbA hl rfl rfl (by decide) hi hi2 hi3 dL_law_1668 dL_law_1669 rfl dL_law_1670 dL_law_1671 dL_law_1672 rfl rfl rfl rfl rfl (fun w1 ew1 => ?_)
  refine l_arg (j := 2) (nj := 2) (q0 := 0) (q3 := 3) (pc' := 1678) C hB hX hbl hbA hl rfl rfl (by decide) hi hi2 hi3 dL_law_1673 dL_law_1674 rfl dL_law_1675 dL_law_1676 dL_law_1677 rfl rfl rfl rfl rfl (fun w2 ew2 => ?_)
  refine l_arg (j := 3) (nj := 3) (q0 := 0) (q3 := 3) (pc' := 1683) C hB hX hbl hbA hl rfl rfl (by decide) hi hi2 hi3 dL_law_1678 dL_law_1679 rfl dL_law_1680 dL_law_1681 dL_law_1682 rfl rfl rfl rfl rfl (fun w3 ew3 => ?_)
  rw [← eu1] at ew1; have ew1 := ew1.symm; subst ew1
  rw [← eu2] at ew2; have ew2 := ew2.symm; subst ew2
  rw [← eu3] at ew3; have ew3 := ew3.symm; subst ew3
  obtain ⟨⟨r2, τ⟩, hq, hp⟩ := ws_pr (ws_pr (s_part 70000 (by decide) σ hR u1 u2 u3) (z_X12_part kq_rf)) (x_X12_part kf_rf)
  refine q_ci (pc' := 1686) hB (l_runV (As := [.int u1, .int u2, .int u3]) (rest := []) C hB (m_X12_part 70000 Γ l _ y ρ σ hM u1 u2 u3 (r2, τ) hq) lb_X12_part lv_X12_part lk_L_186 hM.1 (Nat.le_of_ble_eq_true rfl) (Nat.le_of_ble_eq_true rfl) ⟨Nat.le_trans (Nat.add_le_add_right hcs.1 _) (Nat.le_of_ble_eq_true rfl), Nat.le_trans (Nat.add_le_add_right hcs.2 _) (Nat.le_of_ble_eq_true rfl)⟩ rfl hl.1 rfl (Nat.le_of_ble_eq_true rfl) dL_law_1683) (fun _ _ _ => trivial) rfl (fun r3 γ H2 L2 p2 B2 => ?_)
  have hli2 := li0_mo (li_0 hli1) B2 p2.2.1 p2.2.2 hp.1.1.1 (lxc_kq hli1.2.2.2.2.2.1 p2.2.1 hp.1.2 hp.2 hp.1.1.2 hp.1.1.1)
  refine lv_pop hx hb dL_law_1686 rfl (hp_n (n := 1687) rfl ?_)
  refine lv_goto (tgt := 2391) hx hb dL_law_1687 (by decide) ?_
  exact kk _ _ _ _ _ _ hli2
set_option maxRecDepth 100000 in
set_option maxHeartbeats 4000000 in
theorem lc_42 {p : Program} {l : Launch} {e : Env} {s : State} {m : MethodId} {below : List Frame} {meth : Method} {c : Code} {Γ : hp_G} {b Ln x y : Nat} {xs : Nat → Int32} {ρ : Nat → Nat} (C : hp_C Γ p m c cL_law 4 s #[Value.ref b] RL) (hX : va_X b Ln xs s s.heap) (hbl : b < s.heap.size) (hbA : ¬ hp_A Γ b) (hLn : Ln ≤ 3072) {α : hp_T} {σ : ms_T} {H : Heap} {L : List Loc} {cells slots : Nat} (hli : li Γ s x y ρ α σ H L cells slots) (i : Int32) (hi : 0 ≤ i.toInt) (hi2 : i.toInt + 6 ≤ (Ln : Int)) (ls : Array Slot) (hl : lv_has ls 4 [(0, .ref b), (1, .ref x), (2, .ref y), (3, .int i)]) (kk : ∀ (α : hp_T) (σ : ms_T) (H : Heap) (L : List Loc) (cells slots : Nat), li Γ s x y ρ α σ H L cells slots → W p l e room_1 s m #[Value.ref b] below meth c H L cells slots (lw_Z below #[Value.ref b] s) (F0 m 2391 ls [])) : W p l e room_1 s m #[Value.ref b] below meth c H L cells slots (lw_Z below #[Value.ref b] s) (F0 m 1690 ls []) := by
  have hx := C.1.1
  have hb := C.1.2.1
  have hi3 : (Ln : Int) ≤ 3072 := by omega
  have hcs : cells ≤ 986 ∧ slots ≤ 148568 := by rcases hli.2.2.2.2.2.2 with ⟨-, h1, h2⟩ | ⟨-, h1, h2⟩ <;> omega
  obtain ⟨hB, hG, hKx, hM, hR, hE, hRo⟩ := id hli
  refine lv_aload_n hx hb dL_law_1690 rfl (lv_at hl 1 rfl) (hp_n (n := 1691) rfl ?_)
  refine l_arg (j := 1) (nj := 1) (q0 := 0) (q3 := 3) (pc' := 1696) C hB hX hbl hbA hl rfl rfl (by decide) hi hi2 hi3 dL_law_1691 dL_law_1692 rfl dL_law_1693 dL_law_1694 dL_law_1695 rfl rfl rfl rfl rfl (fun u1 eu1 => ?_)
  refine l_arg (j := 2) (nj := 2) (q0 := 0) (q3 := 3) (pc' := 1701) C hB hX hbl hbA hl rfl rfl (by decide) hi hi2 hi3 dL_law_1696 dL_law_1697 rfl dL_law_1698 dL_law_1699 dL_law_1700 rfl rfl rfl rfl rfl (fun u2 eu2 => ?_)
  have hE0 := hE
  refine q_ci (pc' := 1704) hB (l_runV (As := [.int u1, .int u2]) (rest := []) C hB (t_X11_blame Γ l α hG x hKx u1 u2) lb_X11_blame lv_X11_blame lk_L_187 hKx (Nat.le_of_ble_eq_true rfl) (Nat.le_of_ble_eq_true rfl) ⟨Nat.le_trans (Nat.add_le_add_right hcs.1 _) (Nat.le_of_ble_eq_true rfl), Nat.le_trans (Nat.add_le_add_right hcs.2 _) (Nat.le_of_ble_eq_true rfl)⟩ rfl hl.1 rfl (Nat.le_of_ble_eq_true rfl) dL_law_1701) (fun _ _ _ => trivial) rfl (fun r1 β H1 L1 p1 B1 => ?_)
  have hli1 := li_cw hli B1 p1 (by decide)
  refine lv_pop hx hb dL_law_1704 rfl (hp_n (n := 1705) rfl ?_)
  obtain ⟨hB, hG, hKx, hM, hR, hE, hRo⟩ := id hli1
  have hcs : cells + 0 ≤ 986 ∧ slots + 0 ≤ 148568 := by rcases hRo with ⟨-, h1, h2⟩ | ⟨-, h1, h2⟩ <;> omega
  refine lv_aload_n hx hb dL_law_1705 rfl (lv_at hl 2 rfl) (hp_n (n := 1706) rfl ?_)
  refine l_arg (j := 1) (nj := 1) (q0 := 0) (q3 := 3) (pc' := 1711) C hB hX hbl hbA hl rfl rfl (by decide) hi hi2 hi3 dL_law_1706 dL_law_1707 rfl dL_law_1708 dL_law_1709 dL_law_1710 rfl rfl rfl rfl rfl (fun w1 ew1 => ?_)
  refine l_arg (j := 2) (nj := 2) (q0 := 0) (q3 := 3) (pc' := 1716) C hB hX hbl hbA hl rfl rfl (by decide) hi hi2 hi3 dL_law_1711 dL_law_1712 rfl dL_law_1713 dL_law_1714 dL_law_1715 rfl rfl rfl rfl rfl (fun w2 ew2 => ?_)
  rw [← eu1] at ew1; have ew1 := ew1.symm; subst ew1
  rw [← eu2] at ew2; have ew2 := ew2.symm; subst ew2
  obtain ⟨⟨r2, τ⟩, hq, hp⟩ := ws_pr (ws_pr (s_blame 70000 (by decide) σ hR u1 u2) (z_X12_blame kq_rf)) (x_X12_blame kf_rf)
  refine q_ci (pc' := 1719) hB (l_runV (As := [.int u1, .int u2]) (rest := []) C hB (m_X12_blame 70000 Γ l _ y ρ σ hM u1 u2 (r2, τ) hq) lb_X12_blame lv_X12_blame lk_L_190 hM.1 (Nat.le_of_ble_eq_true rfl) (Nat.le_of_ble_eq_true rfl) ⟨Nat.le_trans (Nat.add_le_add_right hcs.1 _) (Nat.le_of_ble_eq_true rfl), Nat.le_trans (Nat.add_le_add_right hcs.2 _) (Nat.le_of_ble_eq_true rfl)⟩ rfl hl.1 rfl (Nat.le_of_ble_eq_true rfl) dL_law_1716) (fun _ _ _ => trivial) rfl (fun r3 γ H2 L2 p2 B2 => ?_)
  have hli2 := li0_mo (li_0 hli1) B2 p2.2.1 p2.2.2 hp.1.1.1 (lxc_kq hli1.2.2.2.2.2.1 p2.2.1 hp.1.2 hp.2 hp.1.1.2 hp.1.1.1)
  refine lv_pop hx hb dL_law_1719 rfl (hp_n (n := 1720) rfl ?_)
  refine lv_goto (tgt := 2391) hx hb dL_law_1720 (by decide) ?_
  exact kk _ _ _ _ _ _ hli2
set_option maxRecDepth 100000 in
set_option maxHeartbeats 4000000 in
theorem lc_43 {p : Program} {l : Launch} {e : Env} {s : State} {m : MethodId} {below : List Frame} {meth : Method} {c : Code} {Γ : hp_G} {b Ln x y : Nat} {xs : Nat → Int32} {ρ : Nat → Nat} (C : hp_C Γ p m c cL_law 4 s #[Value.ref b] RL) (hX : va_X b Ln xs s s.heap) (hbl : b < s.heap.size) (hbA : ¬ hp_A Γ b) (hLn : Ln ≤ 3072) {α : hp_T} {σ : ms_T} {H : Heap} {L : List Loc} {cells slots : Nat} (hli : li Γ s x y ρ α σ H L cells slots) (i : Int32) (hi : 0 ≤ i.toInt) (hi2 : i.toInt + 6 ≤ (Ln : Int)) (ls : Array Slot) (hl : lv_has ls 4 [(0, .ref b), (1, .ref x), (2, .ref y), (3, .int i)]) (kk : ∀ (α : hp_T) (σ : ms_T) (H : Heap) (L : List Loc) (cells slots : Nat), li Γ s x y ρ α σ H L cells slots → W p l e room_1 s m #[Value.ref b] below meth c H L cells slots (lw_Z below #[Value.ref b] s) (F0 m 2391 ls [])) : W p l e room_1 s m #[Value.ref b] below meth c H L cells slots (lw_Z below #[Value.ref b] s) (F0 m 1723 ls []) := by
  have hx := C.1.1
  have hb := C.1.2.1
  have hi3 : (Ln : Int) ≤ 3072 := by omega
  have hcs : cells ≤ 986 ∧ slots ≤ 148568 := by rcases hli.2.2.2.2.2.2 with ⟨-, h1, h2⟩ | ⟨-, h1, h2⟩ <;> omega
  obtain ⟨hB, hG, hKx, hM, hR, hE, hRo⟩ := id hli
  refine lv_aload_n hx hb dL_law_1723 rfl (lv_at hl 1 rfl) (hp_n (n := 1724) rfl ?_)
  refine l_arg (j := 1) (nj := 1) (q0 := 0) (q3 := 3) (pc' := 1729) C hB hX hbl hbA hl rfl rfl (by decide) hi hi2 hi3 dL_law_1724 dL_law_1725 rfl dL_law_1726 dL_law_1727 dL_law_1728 rfl rfl rfl rfl rfl (fun u1 eu1 => ?_)
  refine l_arg (j := 2) (nj := 2) (q0 := 0) (q3 := 3) (pc' := 1734) C hB hX hbl hbA hl rfl rfl (by decide) hi hi2 hi3 dL_law_1729 dL_law_1730 rfl dL_law_1731 dL_law_1732 dL_law_1733 rfl rfl rfl rfl rfl (fun u2 eu2 => ?_)
  refine l_arg (j := 3) (nj := 3) (q0 := 0) (q3 := 3) (pc' := 1739) C hB hX hbl hbA hl rfl rfl (by decide) hi hi2 hi3 dL_law_1734 dL_law_1735 rfl dL_law_1736 dL_law_1737 dL_law_1738 rfl rfl rfl rfl rfl (fun u3 eu3 => ?_)
  refine l_arg (j := 4) (nj := 4) (q0 := 0) (q3 := 3) (pc' := 1744) C hB hX hbl hbA hl rfl rfl (by decide) hi hi2 hi3 dL_law_1739 dL_law_1740 rfl dL_law_1741 dL_law_1742 dL_law_1743 rfl rfl rfl rfl rfl (fun u4 eu4 => ?_)
  have hE0 := hE
  cases hN : hp_N α 618 x with
  | none =>
    refine l_ciZ (pc' := 1747) hB (l_runH (As := [.int u1, .int u2, .int u3, .int u4]) (rest := []) C hB (t_X11_weak_N_R (ra := [x + 939]) (rb := [x + 940]) Γ l α hG H x hKx u1 u2 u3 u4 hN (by rw [hE.2.2.1.1]; exact List.mem_cons_self) (by rw [hE.2.2.1.1, hE.2.2.1.2.1]; exact List.mem_cons_self)) lb_X11_weak lv_X11_weak lk_L_191 hKx (Nat.le_of_ble_eq_true rfl) (Nat.le_of_ble_eq_true rfl) ⟨Nat.le_trans (Nat.add_le_add_right hcs.1 _) (Nat.le_of_ble_eq_true rfl), Nat.le_trans (Nat.add_le_add_right hcs.2 _) (Nat.le_of_ble_eq_true rfl)⟩ rfl hl.1 rfl (Nat.le_of_ble_eq_true rfl) dL_law_1744) rfl (fun r1 β H1 L1 p1 n1 B1 => ?_) (fun r1 β H1 L1 p1 n1 B1 => ?_)
    · have hli1 : li Γ s x y ρ β σ H1 L1 cells slots := ⟨⟨B1.1, B1.2.1, trivial⟩, p1.1.1, (p1.1.2.1 x (by rw [hKx]; decide)).trans hKx, hm_cg hM p1.1 (by decide), hR, ⟨LX_cg hG hKx hE.1 p1.1 (by decide), CX_g hG hKx hE.1.2.1 hE.2 p1 (by decide) n_19.1 n_19.2.1⟩, Or.inl ⟨n1, by rcases hRo with h | h; exact h.2; exact absurd hN h.1⟩⟩
      refine lv_pop hx hb dL_law_1747 rfl (hp_n (n := 1748) rfl ?_)
      obtain ⟨hB, hG, hKx, hM, hR, hE, hRo⟩ := id hli1
      have hcs : cells ≤ 986 ∧ slots ≤ 148568 := by rcases hRo with ⟨-, h1, h2⟩ | ⟨-, h1, h2⟩ <;> omega
      refine lv_aload_n hx hb dL_law_1748 rfl (lv_at hl 2 rfl) (hp_n (n := 1749) rfl ?_)
      refine l_arg (j := 1) (nj := 1) (q0 := 0) (q3 := 3) (pc' := 1754) C hB hX hbl hbA hl rfl rfl (by decide) hi hi2 hi3 dL_law_1749 dL_law_1750 rfl dL_law_1751 dL_law_1752 dL_law_1753 rfl rfl rfl rfl rfl (fun w1 ew1 => ?_)
      refine l_arg (j := 2) (nj := 2) (q0 := 0) (q3 := 3) (pc' := 1759) C hB hX hbl hbA hl rfl rfl (by decide) hi hi2 hi3 dL_law_1754 dL_law_1755 rfl dL_law_1756 dL_law_1757 dL_law_1758 rfl rfl rfl rfl rfl (fun w2 ew2 => ?_)
      refine l_arg (j := 3) (nj := 3) (q0 := 0) (q3 := 3) (pc' := 1764) C hB hX hbl hbA hl rfl rfl (by decide) hi hi2 hi3 dL_law_1759 dL_law_1760 rfl dL_law_1761 dL_law_1762 dL_law_1763 rfl rfl rfl rfl rfl (fun w3 ew3 => ?_)
      refine l_arg (j := 4) (nj := 4) (q0 := 0) (q3 := 3) (pc' := 1769) C hB hX hbl hbA hl rfl rfl (by decide) hi hi2 hi3 dL_law_1764 dL_law_1765 rfl dL_law_1766 dL_law_1767 dL_law_1768 rfl rfl rfl rfl rfl (fun w4 ew4 => ?_)
      rw [← eu1] at ew1; have ew1 := ew1.symm; subst ew1
      rw [← eu2] at ew2; have ew2 := ew2.symm; subst ew2
      rw [← eu3] at ew3; have ew3 := ew3.symm; subst ew3
      rw [← eu4] at ew4; have ew4 := ew4.symm; subst ew4
      obtain ⟨⟨r2, τ⟩, hq, hp⟩ := ws_pr (ws_pr (s_weak 70000 (by decide) σ hR u1 u2 u3 u4) (z_X12_weak kq_rf)) (x_X12_weak kf_rf)
      refine q_ci (pc' := 1772) hB (l_runV (As := [.int u1, .int u2, .int u3, .int u4]) (rest := []) C hB (m_X12_weak 70000 Γ l _ y ρ σ hM u1 u2 u3 u4 (r2, τ) hq) lb_X12_weak lv_X12_weak lk_L_194 hM.1 (Nat.le_of_ble_eq_true rfl) (Nat.le_of_ble_eq_true rfl) ⟨Nat.le_trans (Nat.add_le_add_right hcs.1 _) (Nat.le_of_ble_eq_true rfl), Nat.le_trans (Nat.add_le_add_right hcs.2 _) (Nat.le_of_ble_eq_true rfl)⟩ rfl hl.1 rfl (Nat.le_of_ble_eq_true rfl) dL_law_1769) (fun _ _ _ => trivial) rfl (fun r3 γ H2 L2 p2 B2 => ?_)
      have hli2 := li0_mo (li_0 hli1) B2 p2.2.1 p2.2.2 hp.1.1.1 (lxc_kq hli1.2.2.2.2.2.1 p2.2.1 hp.1.2 hp.2 hp.1.1.2 hp.1.1.1)
      refine lv_pop hx hb dL_law_1772 rfl (hp_n (n := 1773) rfl ?_)
      refine lv_goto (tgt := 2391) hx hb dL_law_1773 (by decide) ?_
      exact kk _ _ _ _ _ _ hli2
    · have hli1 : li Γ s x y ρ β σ H1 L1 (cells + 9) (slots + 131316) := ⟨⟨B1.1, B1.2.1, trivial⟩, p1.1.1, (p1.1.2.1 x (by rw [hKx]; decide)).trans hKx, hm_cg hM p1.1 (by decide), hR, ⟨LX_cg hG hKx hE.1 p1.1 (by decide), CX_g hG hKx hE.1.2.1 hE.2 p1 (by decide) n_19.1 n_19.2.1⟩, Or.inr ⟨n1, by rcases hRo with h | h; omega; exact absurd hN h.1⟩⟩
      refine lv_pop hx hb dL_law_1747 rfl (hp_n (n := 1748) rfl ?_)
      obtain ⟨hB, hG, hKx, hM, hR, hE, hRo⟩ := id hli1
      have hcs : cells + 9 ≤ 986 ∧ slots + 131316 ≤ 148568 := by rcases hRo with ⟨-, h1, h2⟩ | ⟨-, h1, h2⟩ <;> omega
      refine lv_aload_n hx hb dL_law_1748 rfl (lv_at hl 2 rfl) (hp_n (n := 1749) rfl ?_)
      refine l_arg (j := 1) (nj := 1) (q0 := 0) (q3 := 3) (pc' := 1754) C hB hX hbl hbA hl rfl rfl (by decide) hi hi2 hi3 dL_law_1749 dL_law_1750 rfl dL_law_1751 dL_law_1752 dL_law_1753 rfl rfl rfl rfl rfl (fun w1 ew1 => ?_)
      refine l_arg (j := 2) (nj := 2) (q0 := 0) (q3 := 3) (pc' := 1759) C hB hX hbl hbA hl rfl rfl (by decide) hi hi2 hi3 dL_law_1754 dL_law_1755 rfl dL_law_1756 dL_law_1757 dL_law_1758 rfl rfl rfl rfl rfl (fun w2 ew2 => ?_)
      refine l_arg (j := 3) (nj := 3) (q0 := 0) (q3 := 3) (pc' := 1764) C hB hX hbl hbA hl rfl rfl (by decide) hi hi2 hi3 dL_law_1759 dL_law_1760 rfl dL_law_1761 dL_law_1762 dL_law_1763 rfl rfl rfl rfl rfl (fun w3 ew3 => ?_)
      refine l_arg (j := 4) (nj := 4) (q0 := 0) (q3 := 3) (pc' := 1769) C hB hX hbl hbA hl rfl rfl (by decide) hi hi2 hi3 dL_law_1764 dL_law_1765 rfl dL_law_1766 dL_law_1767 dL_law_1768 rfl rfl rfl rfl rfl (fun w4 ew4 => ?_)
      rw [← eu1] at ew1; have ew1 := ew1.symm; subst ew1
      rw [← eu2] at ew2; have ew2 := ew2.symm; subst ew2
      rw [← eu3] at ew3; have ew3 := ew3.symm; subst ew3
      rw [← eu4] at ew4; have ew4 := ew4.symm; subst ew4
      obtain ⟨⟨r2, τ⟩, hq, hp⟩ := ws_pr (ws_pr (s_weak 70000 (by decide) σ hR u1 u2 u3 u4) (z_X12_weak kq_rf)) (x_X12_weak kf_rf)
      refine q_ci (pc' := 1772) hB (l_runV (As := [.int u1, .int u2, .int u3, .int u4]) (rest := []) C hB (m_X12_weak 70000 Γ l _ y ρ σ hM u1 u2 u3 u4 (r2, τ) hq) lb_X12_weak lv_X12_weak lk_L_194 hM.1 (Nat.le_of_ble_eq_true rfl) (Nat.le_of_ble_eq_true rfl) ⟨Nat.le_trans (Nat.add_le_add_right hcs.1 _) (Nat.le_of_ble_eq_true rfl), Nat.le_trans (Nat.add_le_add_right hcs.2 _) (Nat.le_of_ble_eq_true rfl)⟩ rfl hl.1 rfl (Nat.le_of_ble_eq_true rfl) dL_law_1769) (fun _ _ _ => trivial) rfl (fun r3 γ H2 L2 p2 B2 => ?_)
      have hli2 := li0_mo (li_0 hli1) B2 p2.2.1 p2.2.2 hp.1.1.1 (lxc_kq hli1.2.2.2.2.2.1 p2.2.1 hp.1.2 hp.2 hp.1.1.2 hp.1.1.1)
      refine lv_pop hx hb dL_law_1772 rfl (hp_n (n := 1773) rfl ?_)
      refine lv_goto (tgt := 2391) hx hb dL_law_1773 (by decide) ?_
      exact kk _ _ _ _ _ _ hli2
  | some b0 =>
    refine q_ci (pc' := 1747) hB (l_runV (As := [.int u1, .int u2, .int u3, .int u4]) (rest := []) C hB (t_X11_weak_S_R (ra := [x + 939]) (rb := [x + 940]) Γ l α hG x hKx u1 u2 u3 u4 b0 hN (by rw [hE.2.2.1.1]; exact List.mem_cons_self) (by rw [hE.2.2.1.1, hE.2.2.1.2.1]; exact List.mem_cons_self)) lb_X11_weak lv_X11_weak lk_L_191 hKx (Nat.le_of_ble_eq_true rfl) (Nat.le_of_ble_eq_true rfl) ⟨Nat.le_trans (Nat.add_le_add_right hcs.1 _) (Nat.le_of_ble_eq_true rfl), Nat.le_trans (Nat.add_le_add_right hcs.2 _) (Nat.le_of_ble_eq_true rfl)⟩ rfl hl.1 rfl (Nat.le_of_ble_eq_true rfl) dL_law_1744) (fun _ _ _ => trivial) rfl (fun r1 β H1 L1 p1 B1 => ?_)
    have hli1 : li Γ s x y ρ β σ H1 L1 (cells + 0) (slots + 0) := ⟨⟨B1.1, B1.2.1, trivial⟩, p1.1.1, by rw [p1.1.2.1]; exact hKx, hm_cg hM (cg_cw p1.1) (by decide), hR, ⟨LX_cw hE0.1 p1.1 (by decide), CX_R hE0.2 p1 (by decide) n_19.1 n_19.2.1⟩, by rw [p1.1.2.2.1]; exact hRo⟩
    refine lv_pop hx hb dL_law_1747 rfl (hp_n (n := 1748) rfl ?_)
    obtain ⟨hB, hG, hKx, hM, hR, hE, hRo⟩ := id hli1
    have hcs : cells + 0 ≤ 986 ∧ slots + 0 ≤ 148568 := by rcases hRo with ⟨-, h1, h2⟩ | ⟨-, h1, h2⟩ <;> omega
    refine lv_aload_n hx hb dL_law_1748 rfl (lv_at hl 2 rfl) (hp_n (n := 1749) rfl ?_)
    refine l_arg (j := 1) (nj := 1) (q0 := 0) (q3 := 3) (pc' := 1754) C hB hX hbl hbA hl rfl rfl (by decide) hi hi2 hi3 dL_law_1749 dL_law_1750 rfl dL_law_1751 dL_law_1752 dL_law_1753 rfl rfl rfl rfl rfl (fun w1 ew1 => ?_)
    refine l_arg (j := 2) (nj := 2) (q0 := 0) (q3 := 3) (pc' := 1759) C hB hX hbl hbA hl rfl rfl (by decide) hi hi2 hi3 dL_law_1754 dL_law_1755 rfl dL_law_1756 dL_law_1757 dL_law_1758 rfl rfl rfl rfl rfl (fun w2 ew2 => ?_)
    refine l_arg (j := 3) (nj := 3) (q0 := 0) (q3 := 3) (pc' := 1764) C hB hX hbl hbA hl rfl rfl (by decide) hi hi2 hi3 dL_law_1759 dL_law_1760 rfl dL_law_1761 dL_law_1762 dL_law_1763 rfl rfl rfl rfl rfl (fun w3 ew3 => ?_)
    refine l_arg (j := 4) (nj := 4) (q0 := 0) (q3 := 3) (pc' := 1769) C hB hX hbl hbA hl rfl rfl (by decide) hi hi2 hi3 dL_law_1764 dL_law_1765 rfl dL_law_1766 dL_law_1767 dL_law_1768 rfl rfl rfl rfl rfl (fun w4 ew4 => ?_)
    rw [← eu1] at ew1; have ew1 := ew1.symm; subst ew1
    rw [← eu2] at ew2; have ew2 := ew2.symm; subst ew2
    rw [← eu3] at ew3; have ew3 := ew3.symm; subst ew3
    rw [← eu4] at ew4; have ew4 := ew4.symm; subst ew4
    obtain ⟨⟨r2, τ⟩, hq, hp⟩ := ws_pr (ws_pr (s_weak 70000 (by decide) σ hR u1 u2 u3 u4) (z_X12_weak kq_rf)) (x_X12_weak kf_rf)
    refine q_ci (pc' := 1772) hB (l_runV (As := [.int u1, .int u2, .int u3, .int u4]) (rest := []) C hB (m_X12_weak 70000 Γ l _ y ρ σ hM u1 u2 u3 u4 (r2, τ) hq) lb_X12_weak lv_X12_weak lk_L_194 hM.1 (Nat.le_of_ble_eq_true rfl) (Nat.le_of_ble_eq_true rfl) ⟨Nat.le_trans (Nat.add_le_add_right hcs.1 _) (Nat.le_of_ble_eq_true rfl), Nat.le_trans (Nat.add_le_add_right hcs.2 _) (Nat.le_of_ble_eq_true rfl)⟩ rfl hl.1 rfl (Nat.le_of_ble_eq_true rfl) dL_law_1769) (fun _ _ _ => trivial) rfl (fun r3 γ H2 L2 p2 B2 => ?_)
    have hli2 := li0_mo (li_0 hli1) B2 p2.2.1 p2.2.2 hp.1.1.1 (lxc_kq hli1.2.2.2.2.2.1 p2.2.1 hp.1.2 hp.2 hp.1.1.2 hp.1.1.1)
    refine lv_pop hx hb dL_law_1772 rfl (hp_n (n := 1773) rfl ?_)
    refine lv_goto (tgt := 2391) hx hb dL_law_1773 (by decide) ?_
    exact kk _ _ _ _ _ _ hli2
set_option maxRecDepth 100000 in
set_option maxHeartbeats 4000000 in
theorem lc_44 {p : Program} {l : Launch} {e : Env} {s : State} {m : MethodId} {below : List Frame} {meth : Method} {c : Code} {Γ : hp_G} {b Ln x y : Nat} {xs : Nat → Int32} {ρ : Nat → Nat} (C : hp_C Γ p m c cL_law 4 s #[Value.ref b] RL) (hX : va_X b Ln xs s s.heap) (hbl : b < s.heap.size) (hbA : ¬ hp_A Γ b) (hLn : Ln ≤ 3072) {α : hp_T} {σ : ms_T} {H : Heap} {L : List Loc} {cells slots : Nat} (hli : li Γ s x y ρ α σ H L cells slots) (i : Int32) (hi : 0 ≤ i.toInt) (hi2 : i.toInt + 6 ≤ (Ln : Int)) (ls : Array Slot) (hl : lv_has ls 4 [(0, .ref b), (1, .ref x), (2, .ref y), (3, .int i)]) (kk : ∀ (α : hp_T) (σ : ms_T) (H : Heap) (L : List Loc) (cells slots : Nat), li Γ s x y ρ α σ H L cells slots → W p l e room_1 s m #[Value.ref b] below meth c H L cells slots (lw_Z below #[Value.ref b] s) (F0 m 2391 ls [])) : W p l e room_1 s m #[Value.ref b] below meth c H L cells slots (lw_Z below #[Value.ref b] s) (F0 m 1776 ls []) := by
  have hx := C.1.1
  have hb := C.1.2.1
  have hi3 : (Ln : Int) ≤ 3072 := by omega
  have hcs : cells ≤ 986 ∧ slots ≤ 148568 := by rcases hli.2.2.2.2.2.2 with ⟨-, h1, h2⟩ | ⟨-, h1, h2⟩ <;> omega
  obtain ⟨hB, hG, hKx, hM, hR, hE, hRo⟩ := id hli
  refine lv_aload_n hx hb dL_law_1776 rfl (lv_at hl 1 rfl) (hp_n (n := 1777) rfl ?_)
  refine l_arg (j := 1) (nj := 1) (q0 := 0) (q3 := 3) (pc' := 1782) C hB hX hbl hbA hl rfl rfl (by decide) hi hi2 hi3 dL_law_1777 dL_law_1778 rfl dL_law_1779 dL_law_1780 dL_law_1781 rfl rfl rfl rfl rfl (fun u1 eu1 => ?_)
  refine l_arg (j := 2) (nj := 2) (q0 := 0) (q3 := 3) (pc' := 1787) C hB hX hbl hbA hl rfl rfl (by decide) hi hi2 hi3 dL_law_1782 dL_law_1783 rfl dL_law_1784 dL_law_1785 dL_law_1786 rfl rfl rfl rfl rfl (fun u2 eu2 => ?_)
  refine l_arg (j := 3) (nj := 3) (q0 := 0) (q3 := 3) (pc' := 1792) C hB hX hbl hbA hl rfl rfl (by decide) hi hi2 hi3 dL_law_1787 dL_law_1788 rfl dL_law_1789 dL_law_1790 dL_law_1791 rfl rfl rfl rfl rfl (fun u3 eu3 => ?_)
  refine l_arg (j := 4) (nj := 4) (q0 := 0) (q3 := 3) (pc' := 1797) C hB hX hbl hbA hl rfl rfl (by decide) hi hi2 hi3 dL_law_1792 dL_law_1793 rfl dL_law_1794 dL_law_1795 dL_law_1796 rfl rfl rfl rfl rfl (fun u4 eu4 => ?_)
  refine l_arg (j := 5) (nj := 5) (q0 := 0) (q3 := 3) (pc' := 1802) C hB hX hbl hbA hl rfl rfl (by decide) hi hi2 hi3 dL_law_1797 dL_law_1798 rfl dL_law_1799 dL_law_1800 dL_law_1801 rfl rfl rfl rfl rfl (fun u5 eu5 => ?_)
  have hE0 := hE
  refine q_ci (pc' := 1805) hB (l_runV (As := [.int u1, .int u2, .int u3, .int u4, .int u5]) (rest := []) C hB (t_X11_clash_R (ra := [x + 939]) (rb := [x + 940]) Γ l α hG x hKx u1 u2 u3 u4 u5 (by rw [hE.2.2.1.1]; exact List.mem_cons_self) (by rw [hE.2.2.1.1, hE.2.2.1.2.1]; exact List.mem_cons_self)) lb_X11_clash lv_X11_clash lk_L_195 hKx (Nat.le_of_ble_eq_true rfl) (Nat.le_of_ble_eq_true rfl) ⟨Nat.le_trans (Nat.add_le_add_right hcs.1 _) (Nat.le_of_ble_eq_true rfl), Nat.le_trans (Nat.add_le_add_right hcs.2 _) (Nat.le_of_ble_eq_true rfl)⟩ rfl hl.1 rfl (Nat.le_of_ble_eq_true rfl) dL_law_1802) (fun _ _ _ => trivial) rfl (fun r1 β H1 L1 p1 B1 => ?_)
  have hli1 := li0_cw hli B1 p1.1 (by decide)
  refine lv_pop hx hb dL_law_1805 rfl (hp_n (n := 1806) rfl ?_)
  obtain ⟨hB, hG, hKx, hM, hR, hE, hRo⟩ := id hli1
  have hcs : cells + 0 ≤ 986 ∧ slots + 0 ≤ 148568 := by rcases hRo with ⟨-, h1, h2⟩ | ⟨-, h1, h2⟩ <;> omega
  refine lv_aload_n hx hb dL_law_1806 rfl (lv_at hl 2 rfl) (hp_n (n := 1807) rfl ?_)
  refine l_arg (j := 1) (nj := 1) (q0 := 0) (q3 := 3) (pc' := 1812) C hB hX hbl hbA hl rfl rfl (by decide) hi hi2 hi3 dL_law_1807 dL_law_1808 rfl dL_law_1809 dL_law_1810 dL_law_1811 rfl rfl rfl rfl rfl (fun w1 ew1 => ?_)
  refine l_arg (j := 2) (nj := 2) (q0 := 0) (q3 := 3) (pc' := 1817) C hB hX hbl hbA hl rfl rfl (by decide) hi hi2 hi3 dL_law_1812 dL_law_1813 rfl dL_law_1814 dL_law_1815 dL_law_1816 rfl rfl rfl rfl rfl (fun w2 ew2 => ?_)
  refine l_arg (j := 3) (nj := 3) (q0 := 0) (q3 := 3) (pc' := 1822) C hB hX hbl hbA hl rfl rfl (by decide) hi hi2 hi3 dL_law_1817 dL_law_1818 rfl dL_law_1819 dL_law_1820 dL_law_1821 rfl rfl rfl rfl rfl (fun w3 ew3 => ?_)
  refine l_arg (j := 4) (nj := 4) (q0 := 0) (q3 := 3) (pc' := 1827) C hB hX hbl hbA hl rfl rfl (by decide) hi hi2 hi3 dL_law_1822 dL_law_1823 rfl dL_law_1824 dL_law_1825 dL_law_1826 rfl rfl rfl rfl rfl (fun w4 ew4 => ?_)
  refine l_arg (j := 5) (nj := 5) (q0 := 0) (q3 := 3) (pc' := 1832) C hB hX hbl hbA hl rfl rfl (by decide) hi hi2 hi3 dL_law_1827 dL_law_1828 rfl dL_law_1829 dL_law_1830 dL_law_1831 rfl rfl rfl rfl rfl (fun w5 ew5 => ?_)
  rw [← eu1] at ew1; have ew1 := ew1.symm; subst ew1
  rw [← eu2] at ew2; have ew2 := ew2.symm; subst ew2
  rw [← eu3] at ew3; have ew3 := ew3.symm; subst ew3
  rw [← eu4] at ew4; have ew4 := ew4.symm; subst ew4
  rw [← eu5] at ew5; have ew5 := ew5.symm; subst ew5
  obtain ⟨⟨r2, τ⟩, hq, hp⟩ := ws_pr (s_clash 70000 (by decide) σ hR u1 u2 u3 u4 u5) (z_X12_clash kq_rf)
  refine q_ci (pc' := 1835) hB (l_runV (As := [.int u1, .int u2, .int u3, .int u4, .int u5]) (rest := []) C hB (m_X12_clash 70000 Γ l _ y ρ σ hM u1 u2 u3 u4 u5 (r2, τ) hq) lb_X12_clash lv_X12_clash lk_L_198 hM.1 (Nat.le_of_ble_eq_true rfl) (Nat.le_of_ble_eq_true rfl) ⟨Nat.le_trans (Nat.add_le_add_right hcs.1 _) (Nat.le_of_ble_eq_true rfl), Nat.le_trans (Nat.add_le_add_right hcs.2 _) (Nat.le_of_ble_eq_true rfl)⟩ rfl hl.1 rfl (Nat.le_of_ble_eq_true rfl) dL_law_1832) (fun _ _ _ => trivial) rfl (fun r3 γ H2 L2 p2 B2 => ?_)
  have hli2 := li0_mo hli1 B2 p2.2.1 p2.2.2 hp.1.1 ⟨lx_kq (LX_cw hE0.1 p1.1 (by decide)) p2.2.1 hp.2 hp.1.2 hp.1.1, CX_kq (CX_R hE0.2 p1 (by decide) n_19.1 n_19.2.1) p2.2.1 hp.2⟩
  refine lv_pop hx hb dL_law_1835 rfl (hp_n (n := 1836) rfl ?_)
  refine lv_goto (tgt := 2391) hx hb dL_law_1836 (by decide) ?_
  exact kk _ _ _ _ _ _ hli2
set_option maxRecDepth 100000 in
set_option maxHeartbeats 4000000 in
theorem lc_45 {p : Program} {l : Launch} {e : Env} {s : State} {m : MethodId} {below : List Frame} {meth : Method} {c : Code} {Γ : hp_G} {b Ln x y : Nat} {xs : Nat → Int32} {ρ : Nat → Nat} (C : hp_C Γ p m c cL_law 4 s #[Value.ref b] RL) (hX : va_X b Ln xs s s.heap) (hbl : b < s.heap.size) (hbA : ¬ hp_A Γ b) (hLn : Ln ≤ 3072) {α : hp_T} {σ : ms_T} {H : Heap} {L : List Loc} {cells slots : Nat} (hli : li Γ s x y ρ α σ H L cells slots) (i : Int32) (hi : 0 ≤ i.toInt) (hi2 : i.toInt + 6 ≤ (Ln : Int)) (ls : Array Slot) (hl : lv_has ls 4 [(0, .ref b), (1, .ref x), (2, .ref y), (3, .int i)]) (kk : ∀ (α : hp_T) (σ : ms_T) (H : Heap) (L : List Loc) (cells slots : Nat), li Γ s x y ρ α σ H L cells slots → W p l e room_1 s m #[Value.ref b] below meth c H L cells slots (lw_Z below #[Value.ref b] s) (F0 m 2391 ls [])) : W p l e room_1 s m #[Value.ref b] below meth c H L cells slots (lw_Z below #[Value.ref b] s) (F0 m 1839 ls []) := by
  have hx := C.1.1
  have hb := C.1.2.1
  have hi3 : (Ln : Int) ≤ 3072 := by omega
  have hcs : cells ≤ 986 ∧ slots ≤ 148568 := by rcases hli.2.2.2.2.2.2 with ⟨-, h1, h2⟩ | ⟨-, h1, h2⟩ <;> omega
  obtain ⟨hB, hG, hKx, hM, hR, hE, hRo⟩ := id hli
  refine lv_aload_n hx hb dL_law_1839 rfl (lv_at hl 1 rfl) (hp_n (n := 1840) rfl ?_)
  refine l_arg (j := 1) (nj := 1) (q0 := 0) (q3 := 3) (pc' := 1845) C hB hX hbl hbA hl rfl rfl (by decide) hi hi2 hi3 dL_law_1840 dL_law_1841 rfl dL_law_1842 dL_law_1843 dL_law_1844 rfl rfl rfl rfl rfl (fun u1 eu1 => ?_)
  refine l_arg (j := 2) (nj := 2) (q0 := 0) (q3 := 3) (pc' := 1850) C hB hX hbl hbA hl rfl rfl (by decide) hi hi2 hi3 dL_law_1845 dL_law_1846 rfl dL_law_1847 dL_law_1848 dL_law_1849 rfl rfl rfl rfl rfl (fun u2 eu2 => ?_)
  refine l_arg (j := 3) (nj := 3) (q0 := 0) (q3 := 3) (pc' := 1855) C hB hX hbl hbA hl rfl rfl (by decide) hi hi2 hi3 dL_law_1850 dL_law_1851 rfl dL_law_1852 dL_law_1853 dL_law_1854 rfl rfl rfl rfl rfl (fun u3 eu3 => ?_)
  refine l_arg (j := 4) (nj := 4) (q0 := 0) (q3 := 3) (pc' := 1860) C hB hX hbl hbA hl rfl rfl (by decide) hi hi2 hi3 dL_law_1855 dL_law_1856 rfl dL_law_1857 dL_law_1858 dL_law_1859 rfl rfl rfl rfl rfl (fun u4 eu4 => ?_)
  refine l_arg (j := 5) (nj := 5) (q0 := 0) (q3 := 3) (pc' := 1865) C hB hX hbl hbA hl rfl rfl (by decide) hi hi2 hi3 dL_law_1860 dL_law_1861 rfl dL_law_1862 dL_law_1863 dL_law_1864 rfl rfl rfl rfl rfl (fun u5 eu5 => ?_)
  have hE0 := hE
  cases hN : hp_N α 618 x with
  | none =>
    refine l_ciZ (pc' := 1868) hB (l_runH (As := [.int u1, .int u2, .int u3, .int u4, .int u5]) (rest := []) C hB (t_X11_forge_N Γ l α hG H x hKx u1 u2 u3 u4 u5 hN) lb_X11_forge lv_X11_forge lk_L_199 hKx (Nat.le_of_ble_eq_true rfl) (Nat.le_of_ble_eq_true rfl) ⟨Nat.le_trans (Nat.add_le_add_right hcs.1 _) (Nat.le_of_ble_eq_true rfl), Nat.le_trans (Nat.add_le_add_right hcs.2 _) (Nat.le_of_ble_eq_true rfl)⟩ rfl hl.1 rfl (Nat.le_of_ble_eq_true rfl) dL_law_1865) rfl (fun r1 β H1 L1 p1 n1 B1 => ?_) (fun r1 β H1 L1 p1 n1 B1 => ?_)
    · have hli1 : li Γ s x y ρ β σ H1 L1 cells slots := ⟨⟨B1.1, B1.2.1, trivial⟩, p1.1, (p1.2.1 x (by rw [hKx]; decide)).trans hKx, hm_cg hM p1 (by decide), hR, ⟨LX_cg hG hKx hE.1 p1 (by decide), CX_cg hG hKx hE.1.2.1 hE.2 p1 (by decide)⟩, Or.inl ⟨n1, by rcases hRo with h | h; exact h.2; exact absurd hN h.1⟩⟩
      refine lv_pop hx hb dL_law_1868 rfl (hp_n (n := 1869) rfl ?_)
      obtain ⟨hB, hG, hKx, hM, hR, hE, hRo⟩ := id hli1
      have hcs : cells ≤ 986 ∧ slots ≤ 148568 := by rcases hRo with ⟨-, h1, h2⟩ | ⟨-, h1, h2⟩ <;> omega
      refine lv_aload_n hx hb dL_law_1869 rfl (lv_at hl 2 rfl) (hp_n (n := 1870) rfl ?_)
      refine l_arg (j := 1) (nj := 1) (q0 := 0) (q3 := 3) (pc' := 1875) C hB hX hbl hbA hl rfl rfl (by decide) hi hi2 hi3 dL_law_1870 dL_law_1871 rfl dL_law_1872 dL_law_1873 dL_law_1874 rfl rfl rfl rfl rfl (fun w1 ew1 => ?_)
      refine l_arg (j := 2) (nj := 2) (q0 := 0) (q3 := 3) (pc' := 1880) C hB hX hbl hbA hl rfl rfl (by decide) hi hi2 hi3 dL_law_1875 dL_law_1876 rfl dL_law_1877 dL_law_1878 dL_law_1879 rfl rfl rfl rfl rfl (fun w2 ew2 => ?_)
      refine l_arg (j := 3) (nj := 3) (q0 := 0) (q3 := 3) (pc' := 1885) C hB hX hbl hbA hl rfl rfl (by decide) hi hi2 hi3 dL_law_1880 dL_law_1881 rfl dL_law_1882 dL_law_1883 dL_law_1884 rfl rfl rfl rfl rfl (fun w3 ew3 => ?_)
      refine l_arg (j := 4) (nj := 4) (q0 := 0) (q3 := 3) (pc' := 1890) C hB hX hbl hbA hl rfl rfl (by decide) hi hi2 hi3 dL_law_1885 dL_law_1886 rfl dL_law_1887 dL_law_1888 dL_law_1889 rfl rfl rfl rfl rfl (fun w4 ew4 => ?_)
      refine l_arg (j := 5) (nj := 5) (q0 := 0) (q3 := 3) (pc' := 1895) C hB hX hbl hbA hl rfl rfl (by decide) hi hi2 hi3 dL_law_1890 dL_law_1891 rfl dL_law_1892 dL_law_1893 dL_law_1894 rfl rfl rfl rfl rfl (fun w5 ew5 => ?_)
      rw [← eu1] at ew1; have ew1 := ew1.symm; subst ew1
      rw [← eu2] at ew2; have ew2 := ew2.symm; subst ew2
      rw [← eu3] at ew3; have ew3 := ew3.symm; subst ew3
      rw [← eu4] at ew4; have ew4 := ew4.symm; subst ew4
      rw [← eu5] at ew5; have ew5 := ew5.symm; subst ew5
      obtain ⟨⟨r2, τ⟩, hq, hp⟩ := ws_pr (ws_pr (s_forge 70000 (by decide) σ hR u1 u2 u3 u4 u5) (z_X12_forge kq_rf)) (x_X12_forge kf_rf)
      refine q_ci (pc' := 1898) hB (l_runV (As := [.int u1, .int u2, .int u3, .int u4, .int u5]) (rest := []) C hB (m_X12_forge 70000 Γ l _ y ρ σ hM u1 u2 u3 u4 u5 (r2, τ) hq) lb_X12_forge lv_X12_forge lk_L_202 hM.1 (Nat.le_of_ble_eq_true rfl) (Nat.le_of_ble_eq_true rfl) ⟨Nat.le_trans (Nat.add_le_add_right hcs.1 _) (Nat.le_of_ble_eq_true rfl), Nat.le_trans (Nat.add_le_add_right hcs.2 _) (Nat.le_of_ble_eq_true rfl)⟩ rfl hl.1 rfl (Nat.le_of_ble_eq_true rfl) dL_law_1895) (fun _ _ _ => trivial) rfl (fun r3 γ H2 L2 p2 B2 => ?_)
      have hli2 := li0_mo (li_0 hli1) B2 p2.2.1 p2.2.2 hp.1.1.1 (lxc_kq hli1.2.2.2.2.2.1 p2.2.1 hp.1.2 hp.2 hp.1.1.2 hp.1.1.1)
      refine lv_pop hx hb dL_law_1898 rfl (hp_n (n := 1899) rfl ?_)
      refine lv_goto (tgt := 2391) hx hb dL_law_1899 (by decide) ?_
      exact kk _ _ _ _ _ _ hli2
    · have hli1 : li Γ s x y ρ β σ H1 L1 (cells + 9) (slots + 131316) := ⟨⟨B1.1, B1.2.1, trivial⟩, p1.1, (p1.2.1 x (by rw [hKx]; decide)).trans hKx, hm_cg hM p1 (by decide), hR, ⟨LX_cg hG hKx hE.1 p1 (by decide), CX_cg hG hKx hE.1.2.1 hE.2 p1 (by decide)⟩, Or.inr ⟨n1, by rcases hRo with h | h; omega; exact absurd hN h.1⟩⟩
      refine lv_pop hx hb dL_law_1868 rfl (hp_n (n := 1869) rfl ?_)
      obtain ⟨hB, hG, hKx, hM, hR, hE, hRo⟩ := id hli1
      have hcs : cells + 9 ≤ 986 ∧ slots + 131316 ≤ 148568 := by rcases hRo with ⟨-, h1, h2⟩ | ⟨-, h1, h2⟩ <;> omega
      refine lv_aload_n hx hb dL_law_1869 rfl (lv_at hl 2 rfl) (hp_n (n := 1870) rfl ?_)
      refine l_arg (j := 1) (nj := 1) (q0 := 0) (q3 := 3) (pc' := 1875) C hB hX hbl hbA hl rfl rfl (by decide) hi hi2 hi3 dL_law_1870 dL_law_1871 rfl dL_law_1872 dL_law_1873 dL_law_1874 rfl rfl rfl rfl rfl (fun w1 ew1 => ?_)
      refine l_arg (j := 2) (nj := 2) (q0 := 0) (q3 := 3) (pc' := 1880) C hB hX hbl hbA hl rfl rfl (by decide) hi hi2 hi3 dL_law_1875 dL_law_1876 rfl dL_law_1877 dL_law_1878 dL_law_1879 rfl rfl rfl rfl rfl (fun w2 ew2 => ?_)
      refine l_arg (j := 3) (nj := 3) (q0 := 0) (q3 := 3) (pc' := 1885) C hB hX hbl hbA hl rfl rfl (by decide) hi hi2 hi3 dL_law_1880 dL_law_1881 rfl dL_law_1882 dL_law_1883 dL_law_1884 rfl rfl rfl rfl rfl (fun w3 ew3 => ?_)
      refine l_arg (j := 4) (nj := 4) (q0 := 0) (q3 := 3) (pc' := 1890) C hB hX hbl hbA hl rfl rfl (by decide) hi hi2 hi3 dL_law_1885 dL_law_1886 rfl dL_law_1887 dL_law_1888 dL_law_1889 rfl rfl rfl rfl rfl (fun w4 ew4 => ?_)
      refine l_arg (j := 5) (nj := 5) (q0 := 0) (q3 := 3) (pc' := 1895) C hB hX hbl hbA hl rfl rfl (by decide) hi hi2 hi3 dL_law_1890 dL_law_1891 rfl dL_law_1892 dL_law_1893 dL_law_1894 rfl rfl rfl rfl rfl (fun w5 ew5 => ?_)
      rw [← eu1] at ew1; have ew1 := ew1.symm; subst ew1
      rw [← eu2] at ew2; have ew2 := ew2.symm; subst ew2
      rw [← eu3] at ew3; have ew3 := ew3.symm; subst ew3
      rw [← eu4] at ew4; have ew4 := ew4.symm; subst ew4
      rw [← eu5] at ew5; have ew5 := ew5.symm; subst ew5
      obtain ⟨⟨r2, τ⟩, hq, hp⟩ := ws_pr (ws_pr (s_forge 70000 (by decide) σ hR u1 u2 u3 u4 u5) (z_X12_forge kq_rf)) (x_X12_forge kf_rf)
      refine q_ci (pc' := 1898) hB (l_runV (As := [.int u1, .int u2, .int u3, .int u4, .int u5]) (rest := []) C hB (m_X12_forge 70000 Γ l _ y ρ σ hM u1 u2 u3 u4 u5 (r2, τ) hq) lb_X12_forge lv_X12_forge lk_L_202 hM.1 (Nat.le_of_ble_eq_true rfl) (Nat.le_of_ble_eq_true rfl) ⟨Nat.le_trans (Nat.add_le_add_right hcs.1 _) (Nat.le_of_ble_eq_true rfl), Nat.le_trans (Nat.add_le_add_right hcs.2 _) (Nat.le_of_ble_eq_true rfl)⟩ rfl hl.1 rfl (Nat.le_of_ble_eq_true rfl) dL_law_1895) (fun _ _ _ => trivial) rfl (fun r3 γ H2 L2 p2 B2 => ?_)
      have hli2 := li0_mo (li_0 hli1) B2 p2.2.1 p2.2.2 hp.1.1.1 (lxc_kq hli1.2.2.2.2.2.1 p2.2.1 hp.1.2 hp.2 hp.1.1.2 hp.1.1.1)
      refine lv_pop hx hb dL_law_1898 rfl (hp_n (n := 1899) rfl ?_)
      refine lv_goto (tgt := 2391) hx hb dL_law_1899 (by decide) ?_
      exact kk _ _ _ _ _ _ hli2
  | some b0 =>
    refine q_ci (pc' := 1868) hB (l_runV (As := [.int u1, .int u2, .int u3, .int u4, .int u5]) (rest := []) C hB (t_X11_forge_S Γ l α hG x hKx u1 u2 u3 u4 u5 b0 hN) lb_X11_forge lv_X11_forge lk_L_199 hKx (Nat.le_of_ble_eq_true rfl) (Nat.le_of_ble_eq_true rfl) ⟨Nat.le_trans (Nat.add_le_add_right hcs.1 _) (Nat.le_of_ble_eq_true rfl), Nat.le_trans (Nat.add_le_add_right hcs.2 _) (Nat.le_of_ble_eq_true rfl)⟩ rfl hl.1 rfl (Nat.le_of_ble_eq_true rfl) dL_law_1865) (fun _ _ _ => trivial) rfl (fun r1 β H1 L1 p1 B1 => ?_)
    have hli1 := li_cw hli B1 p1 (by decide)
    refine lv_pop hx hb dL_law_1868 rfl (hp_n (n := 1869) rfl ?_)
    obtain ⟨hB, hG, hKx, hM, hR, hE, hRo⟩ := id hli1
    have hcs : cells + 0 ≤ 986 ∧ slots + 0 ≤ 148568 := by rcases hRo with ⟨-, h1, h2⟩ | ⟨-, h1, h2⟩ <;> omega
    refine lv_aload_n hx hb dL_law_1869 rfl (lv_at hl 2 rfl) (hp_n (n := 1870) rfl ?_)
    refine l_arg (j := 1) (nj := 1) (q0 := 0) (q3 := 3) (pc' := 1875) C hB hX hbl hbA hl rfl rfl (by decide) hi hi2 hi3 dL_law_1870 dL_law_1871 rfl dL_law_1872 dL_law_1873 dL_law_1874 rfl rfl rfl rfl rfl (fun w1 ew1 => ?_)
    refine l_arg (j := 2) (nj := 2) (q0 := 0) (q3 := 3) (pc' := 1880) C hB hX hbl hbA hl rfl rfl (by decide) hi hi2 hi3 dL_law_1875 dL_law_1876 rfl dL_law_1877 dL_law_1878 dL_law_1879 rfl rfl rfl rfl rfl (fun w2 ew2 => ?_)
    refine l_arg (j := 3) (nj := 3) (q0 := 0) (q3 := 3) (pc' := 1885) C hB hX hbl hbA hl rfl rfl (by decide) hi hi2 hi3 dL_law_1880 dL_law_1881 rfl dL_law_1882 dL_law_1883 dL_law_1884 rfl rfl rfl rfl rfl (fun w3 ew3 => ?_)
    refine l_arg (j := 4) (nj := 4) (q0 := 0) (q3 := 3) (pc' := 1890) C hB hX hbl hbA hl rfl rfl (by decide) hi hi2 hi3 dL_law_1885 dL_law_1886 rfl dL_law_1887 dL_law_1888 dL_law_1889 rfl rfl rfl rfl rfl (fun w4 ew4 => ?_)
    refine l_arg (j := 5) (nj := 5) (q0 := 0) (q3 := 3) (pc' := 1895) C hB hX hbl hbA hl rfl rfl (by decide) hi hi2 hi3 dL_law_1890 dL_law_1891 rfl dL_law_1892 dL_law_1893 dL_law_1894 rfl rfl rfl rfl rfl (fun w5 ew5 => ?_)
    rw [← eu1] at ew1; have ew1 := ew1.symm; subst ew1
    rw [← eu2] at ew2; have ew2 := ew2.symm; subst ew2
    rw [← eu3] at ew3; have ew3 := ew3.symm; subst ew3
    rw [← eu4] at ew4; have ew4 := ew4.symm; subst ew4
    rw [← eu5] at ew5; have ew5 := ew5.symm; subst ew5
    obtain ⟨⟨r2, τ⟩, hq, hp⟩ := ws_pr (ws_pr (s_forge 70000 (by decide) σ hR u1 u2 u3 u4 u5) (z_X12_forge kq_rf)) (x_X12_forge kf_rf)
    refine q_ci (pc' := 1898) hB (l_runV (As := [.int u1, .int u2, .int u3, .int u4, .int u5]) (rest := []) C hB (m_X12_forge 70000 Γ l _ y ρ σ hM u1 u2 u3 u4 u5 (r2, τ) hq) lb_X12_forge lv_X12_forge lk_L_202 hM.1 (Nat.le_of_ble_eq_true rfl) (Nat.le_of_ble_eq_true rfl) ⟨Nat.le_trans (Nat.add_le_add_right hcs.1 _) (Nat.le_of_ble_eq_true rfl), Nat.le_trans (Nat.add_le_add_right hcs.2 _) (Nat.le_of_ble_eq_true rfl)⟩ rfl hl.1 rfl (Nat.le_of_ble_eq_true rfl) dL_law_1895) (fun _ _ _ => trivial) rfl (fun r3 γ H2 L2 p2 B2 => ?_)
    have hli2 := li0_mo (li_0 hli1) B2 p2.2.1 p2.2.2 hp.1.1.1 (lxc_kq hli1.2.2.2.2.2.1 p2.2.1 hp.1.2 hp.2 hp.1.1.2 hp.1.1.1)
    refine lv_pop hx hb dL_law_1898 rfl (hp_n (n := 1899) rfl ?_)
    refine lv_goto (tgt := 2391) hx hb dL_law_1899 (by decide) ?_
    exact kk _ _ _ _ _ _ hli2
set_option maxRecDepth 100000 in
set_option maxHeartbeats 4000000 in
theorem lc_46 {p : Program} {l : Launch} {e : Env} {s : State} {m : MethodId} {below : List Frame} {meth : Method} {c : Code} {Γ : hp_G} {b Ln x y : Nat} {xs : Nat → Int32} {ρ : Nat → Nat} (C : hp_C Γ p m c cL_law 4 s #[Value.ref b] RL) (hX : va_X b Ln xs s s.heap) (hbl : b < s.heap.size) (hbA : ¬ hp_A Γ b) (hLn : Ln ≤ 3072) {α : hp_T} {σ : ms_T} {H : Heap} {L : List Loc} {cells slots : Nat} (hli : li Γ s x y ρ α σ H L cells slots) (i : Int32) (hi : 0 ≤ i.toInt) (hi2 : i.toInt + 6 ≤ (Ln : Int)) (ls : Array Slot) (hl : lv_has ls 4 [(0, .ref b), (1, .ref x), (2, .ref y), (3, .int i)]) (kk : ∀ (α : hp_T) (σ : ms_T) (H : Heap) (L : List Loc) (cells slots : Nat), li Γ s x y ρ α σ H L cells slots → W p l e room_1 s m #[Value.ref b] below meth c H L cells slots (lw_Z below #[Value.ref b] s) (F0 m 2391 ls [])) : W p l e room_1 s m #[Value.ref b] below meth c H L cells slots (lw_Z below #[Value.ref b] s) (F0 m 1902 ls []) := by
  have hx := C.1.1
  have hb := C.1.2.1
  have hi3 : (Ln : Int) ≤ 3072 := by omega
  have hcs : cells ≤ 986 ∧ slots ≤ 148568 := by rcases hli.2.2.2.2.2.2 with ⟨-, h1, h2⟩ | ⟨-, h1, h2⟩ <;> omega
  obtain ⟨hB, hG, hKx, hM, hR, hE, hRo⟩ := id hli
  refine lv_aload_n hx hb dL_law_1902 rfl (lv_at hl 1 rfl) (hp_n (n := 1903) rfl ?_)
  refine l_arg (j := 1) (nj := 1) (q0 := 0) (q3 := 3) (pc' := 1908) C hB hX hbl hbA hl rfl rfl (by decide) hi hi2 hi3 dL_law_1903 dL_law_1904 rfl dL_law_1905 dL_law_1906 dL_law_1907 rfl rfl rfl rfl rfl (fun u1 eu1 => ?_)
  refine l_arg (j := 2) (nj := 2) (q0 := 0) (q3 := 3) (pc' := 1913) C hB hX hbl hbA hl rfl rfl (by decide) hi hi2 hi3 dL_law_1908 dL_law_1909 rfl dL_law_1910 dL_law_1911 dL_law_1912 rfl rfl rfl rfl rfl (fun u2 eu2 => ?_)
  refine l_arg (j := 3) (nj := 3) (q0 := 0) (q3 := 3) (pc' := 1918) C hB hX hbl hbA hl rfl rfl (by decide) hi hi2 hi3 dL_law_1913 dL_law_1914 rfl dL_law_1915 dL_law_1916 dL_law_1917 rfl rfl rfl rfl rfl (fun u3 eu3 => ?_)
  refine l_arg (j := 4) (nj := 4) (q0 := 0) (q3 := 3) (pc' := 1923) C hB hX hbl hbA hl rfl rfl (by decide) hi hi2 hi3 dL_law_1918 dL_law_1919 rfl dL_law_1920 dL_law_1921 dL_law_1922 rfl rfl rfl rfl rfl (fun u4 eu4 => ?_)
  have hE0 := hE
  refine q_ci (pc' := 1926) hB (l_runV (As := [.int u1, .int u2, .int u3, .int u4]) (rest := []) C hB (t_X11_trace Γ l α hG x hKx u1 u2 u3 u4) lb_X11_trace lv_X11_trace lk_L_203 hKx (Nat.le_of_ble_eq_true rfl) (Nat.le_of_ble_eq_true rfl) ⟨Nat.le_trans (Nat.add_le_add_right hcs.1 _) (Nat.le_of_ble_eq_true rfl), Nat.le_trans (Nat.add_le_add_right hcs.2 _) (Nat.le_of_ble_eq_true rfl)⟩ rfl hl.1 rfl (Nat.le_of_ble_eq_true rfl) dL_law_1923) (fun _ _ _ => trivial) rfl (fun r1 β H1 L1 p1 B1 => ?_)
  have hli1 := li_cw hli B1 p1 (by decide)
  refine lv_pop hx hb dL_law_1926 rfl (hp_n (n := 1927) rfl ?_)
  obtain ⟨hB, hG, hKx, hM, hR, hE, hRo⟩ := id hli1
  have hcs : cells + 0 ≤ 986 ∧ slots + 0 ≤ 148568 := by rcases hRo with ⟨-, h1, h2⟩ | ⟨-, h1, h2⟩ <;> omega
  refine lv_aload_n hx hb dL_law_1927 rfl (lv_at hl 2 rfl) (hp_n (n := 1928) rfl ?_)
  refine l_arg (j := 1) (nj := 1) (q0 := 0) (q3 := 3) (pc' := 1933) C hB hX hbl hbA hl rfl rfl (by decide) hi hi2 hi3 dL_law_1928 dL_law_1929 rfl dL_law_1930 dL_law_1931 dL_law_1932 rfl rfl rfl rfl rfl (fun w1 ew1 => ?_)
  refine l_arg (j := 2) (nj := 2) (q0 := 0) (q3 := 3) (pc' := 1938) C hB hX hbl hbA hl rfl rfl (by decide) hi hi2 hi3 dL_law_1933 dL_law_1934 rfl dL_law_1935 dL_law_1936 dL_law_1937 rfl rfl rfl rfl rfl (fun w2 ew2 => ?_)
  refine l_arg (j := 3) (nj := 3) (q0 := 0) (q3 := 3) (pc' := 1943) C hB hX hbl hbA hl rfl rfl (by decide) hi hi2 hi3 dL_law_1938 dL_law_1939 rfl dL_law_1940 dL_law_1941 dL_law_1942 rfl rfl rfl rfl rfl (fun w3 ew3 => ?_)
  refine l_arg (j := 4) (nj := 4) (q0 := 0) (q3 := 3) (pc' := 1948) C hB hX hbl hbA hl rfl rfl (by decide) hi hi2 hi3 dL_law_1943 dL_law_1944 rfl dL_law_1945 dL_law_1946 dL_law_1947 rfl rfl rfl rfl rfl (fun w4 ew4 => ?_)
  rw [← eu1] at ew1; have ew1 := ew1.symm; subst ew1
  rw [← eu2] at ew2; have ew2 := ew2.symm; subst ew2
  rw [← eu3] at ew3; have ew3 := ew3.symm; subst ew3
  rw [← eu4] at ew4; have ew4 := ew4.symm; subst ew4
  obtain ⟨⟨r2, τ⟩, hq, hp⟩ := ws_pr (ws_pr (s_trace 70000 (by decide) σ hR u1 u2 u3 u4) (z_X12_trace kq_rf)) (x_X12_trace kf_rf)
  refine q_ci (pc' := 1951) hB (l_runV (As := [.int u1, .int u2, .int u3, .int u4]) (rest := []) C hB (m_X12_trace 70000 Γ l _ y ρ σ hM u1 u2 u3 u4 (r2, τ) hq) lb_X12_trace lv_X12_trace lk_L_206 hM.1 (Nat.le_of_ble_eq_true rfl) (Nat.le_of_ble_eq_true rfl) ⟨Nat.le_trans (Nat.add_le_add_right hcs.1 _) (Nat.le_of_ble_eq_true rfl), Nat.le_trans (Nat.add_le_add_right hcs.2 _) (Nat.le_of_ble_eq_true rfl)⟩ rfl hl.1 rfl (Nat.le_of_ble_eq_true rfl) dL_law_1948) (fun _ _ _ => trivial) rfl (fun r3 γ H2 L2 p2 B2 => ?_)
  have hli2 := li0_mo (li_0 hli1) B2 p2.2.1 p2.2.2 hp.1.1.1 (lxc_kq hli1.2.2.2.2.2.1 p2.2.1 hp.1.2 hp.2 hp.1.1.2 hp.1.1.1)
  refine lv_pop hx hb dL_law_1951 rfl (hp_n (n := 1952) rfl ?_)
  refine lv_goto (tgt := 2391) hx hb dL_law_1952 (by decide) ?_
  exact kk _ _ _ _ _ _ hli2
set_option maxRecDepth 100000 in
set_option maxHeartbeats 4000000 in
theorem lc_47 {p : Program} {l : Launch} {e : Env} {s : State} {m : MethodId} {below : List Frame} {meth : Method} {c : Code} {Γ : hp_G} {b Ln x y : Nat} {xs : Nat → Int32} {ρ : Nat → Nat} (C : hp_C Γ p m c cL_law 4 s #[Value.ref b] RL) (hX : va_X b Ln xs s s.heap) (hbl : b < s.heap.size) (hbA : ¬ hp_A Γ b) (hLn : Ln ≤ 3072) {α : hp_T} {σ : ms_T} {H : Heap} {L : List Loc} {cells slots : Nat} (hli : li Γ s x y ρ α σ H L cells slots) (i : Int32) (hi : 0 ≤ i.toInt) (hi2 : i.toInt + 6 ≤ (Ln : Int)) (ls : Array Slot) (hl : lv_has ls 4 [(0, .ref b), (1, .ref x), (2, .ref y), (3, .int i)]) (kk : ∀ (α : hp_T) (σ : ms_T) (H : Heap) (L : List Loc) (cells slots : Nat), li Γ s x y ρ α σ H L cells slots → W p l e room_1 s m #[Value.ref b] below meth c H L cells slots (lw_Z below #[Value.ref b] s) (F0 m 2391 ls [])) : W p l e room_1 s m #[Value.ref b] below meth c H L cells slots (lw_Z below #[Value.ref b] s) (F0 m 1955 ls []) := by
  have hx := C.1.1
  have hb := C.1.2.1
  have hi3 : (Ln : Int) ≤ 3072 := by omega
  have hcs : cells ≤ 986 ∧ slots ≤ 148568 := by rcases hli.2.2.2.2.2.2 with ⟨-, h1, h2⟩ | ⟨-, h1, h2⟩ <;> omega
  obtain ⟨hB, hG, hKx, hM, hR, hE, hRo⟩ := id hli
  refine lv_aload_n hx hb dL_law_1955 rfl (lv_at hl 1 rfl) (hp_n (n := 1956) rfl ?_)
  refine l_arg (j := 1) (nj := 1) (q0 := 0) (q3 := 3) (pc' := 1961) C hB hX hbl hbA hl rfl rfl (by decide) hi hi2 hi3 dL_law_1956 dL_law_1957 rfl dL_law_1958 dL_law_1959 dL_law_1960 rfl rfl rfl rfl rfl (fun u1 eu1 => ?_)
  refine l_arg (j := 2) (nj := 2) (q0 := 0) (q3 := 3) (pc' := 1966) C hB hX hbl hbA hl rfl rfl (by decide) hi hi2 hi3 dL_law_1961 dL_law_1962 rfl dL_law_1963 dL_law_1964 dL_law_1965 rfl rfl rfl rfl rfl (fun u2 eu2 => ?_)
  refine l_arg (j := 3) (nj := 3) (q0 := 0) (q3 := 3) (pc' := 1971) C hB hX hbl hbA hl rfl rfl (by decide) hi hi2 hi3 dL_law_1966 dL_law_1967 rfl dL_law_1968 dL_law_1969 dL_law_1970 rfl rfl rfl rfl rfl (fun u3 eu3 => ?_)
  refine l_arg (j := 4) (nj := 4) (q0 := 0) (q3 := 3) (pc' := 1976) C hB hX hbl hbA hl rfl rfl (by decide) hi hi2 hi3 dL_law_1971 dL_law_1972 rfl dL_law_1973 dL_law_1974 dL_law_1975 rfl rfl rfl rfl rfl (fun u4 eu4 => ?_)
  have hE0 := hE
  refine q_ci (pc' := 1979) hB (l_runV (As := [.int u1, .int u2, .int u3, .int u4]) (rest := []) C hB (t_X11_span Γ l α hG x hKx u1 u2 u3 u4) lb_X11_span lv_X11_span lk_L_207 hKx (Nat.le_of_ble_eq_true rfl) (Nat.le_of_ble_eq_true rfl) ⟨Nat.le_trans (Nat.add_le_add_right hcs.1 _) (Nat.le_of_ble_eq_true rfl), Nat.le_trans (Nat.add_le_add_right hcs.2 _) (Nat.le_of_ble_eq_true rfl)⟩ rfl hl.1 rfl (Nat.le_of_ble_eq_true rfl) dL_law_1976) (fun _ _ _ => trivial) rfl (fun r1 β H1 L1 p1 B1 => ?_)
  have hli1 := li_cw hli B1 p1 (by decide)
  refine lv_pop hx hb dL_law_1979 rfl (hp_n (n := 1980) rfl ?_)
  obtain ⟨hB, hG, hKx, hM, hR, hE, hRo⟩ := id hli1
  have hcs : cells + 0 ≤ 986 ∧ slots + 0 ≤ 148568 := by rcases hRo with ⟨-, h1, h2⟩ | ⟨-, h1, h2⟩ <;> omega
  refine lv_aload_n hx hb dL_law_1980 rfl (lv_at hl 2 rfl) (hp_n (n := 1981) rfl ?_)
  refine l_arg (j := 1) (nj := 1) (q0 := 0) (q3 := 3) (pc' := 1986) C hB hX hbl hbA hl rfl rfl (by decide) hi hi2 hi3 dL_law_1981 dL_law_1982 rfl dL_law_1983 dL_law_1984 dL_law_1985 rfl rfl rfl rfl rfl (fun w1 ew1 => ?_)
  refine l_arg (j := 2) (nj := 2) (q0 := 0) (q3 := 3) (pc' := 1991) C hB hX hbl hbA hl rfl rfl (by decide) hi hi2 hi3 dL_law_1986 dL_law_1987 rfl dL_law_1988 dL_law_1989 dL_law_1990 rfl rfl rfl rfl rfl (fun w2 ew2 => ?_)
  refine l_arg (j := 3) (nj := 3) (q0 := 0) (q3 := 3) (pc' := 1996) C hB hX hbl hbA hl rfl rfl (by decide) hi hi2 hi3 dL_law_1991 dL_law_1992 rfl dL_law_1993 dL_law_1994 dL_law_1995 rfl rfl rfl rfl rfl (fun w3 ew3 => ?_)
  refine l_arg (j := 4) (nj := 4) (q0 := 0) (q3 := 3) (pc' := 2001) C hB hX hbl hbA hl rfl rfl (by decide) hi hi2 hi3 dL_law_1996 dL_law_1997 rfl dL_law_1998 dL_law_1999 dL_law_2000 rfl rfl rfl rfl rfl (fun w4 ew4 => ?_)
  rw [← eu1] at ew1; have ew1 := ew1.symm; subst ew1
  rw [← eu2] at ew2; have ew2 := ew2.symm; subst ew2
  rw [← eu3] at ew3; have ew3 := ew3.symm; subst ew3
  rw [← eu4] at ew4; have ew4 := ew4.symm; subst ew4
  obtain ⟨⟨r2, τ⟩, hq, hp⟩ := ws_pr (ws_pr (s_span 70000 (by decide) σ hR u1 u2 u3 u4) (z_X12_span kq_rf)) (x_X12_span kf_rf)
  refine q_ci (pc' := 2004) hB (l_runV (As := [.int u1, .int u2, .int u3, .int u4]) (rest := []) C hB (m_X12_span 70000 Γ l _ y ρ σ hM u1 u2 u3 u4 (r2, τ) hq) lb_X12_span lv_X12_span lk_L_210 hM.1 (Nat.le_of_ble_eq_true rfl) (Nat.le_of_ble_eq_true rfl) ⟨Nat.le_trans (Nat.add_le_add_right hcs.1 _) (Nat.le_of_ble_eq_true rfl), Nat.le_trans (Nat.add_le_add_right hcs.2 _) (Nat.le_of_ble_eq_true rfl)⟩ rfl hl.1 rfl (Nat.le_of_ble_eq_true rfl) dL_law_2001) (fun _ _ _ => trivial) rfl (fun r3 γ H2 L2 p2 B2 => ?_)
  have hli2 := li0_mo (li_0 hli1) B2 p2.2.1 p2.2.2 hp.1.1.1 (lxc_kq hli1.2.2.2.2.2.1 p2.2.1 hp.1.2 hp.2 hp.1.1.2 hp.1.1.1)
  refine lv_pop hx hb dL_law_2004 rfl (hp_n (n := 2005) rfl ?_)
  refine lv_goto (tgt := 2391) hx hb dL_law_2005 (by decide) ?_
  exact kk _ _ _ _ _ _ hli2
set_option maxRecDepth 100000 in
set_option maxHeartbeats 4000000 in
theorem lc_48 {p : Program} {l : Launch} {e : Env} {s : State} {m : MethodId} {below : List Frame} {meth : Method} {c : Code} {Γ : hp_G} {b Ln x y : Nat} {xs : Nat → Int32} {ρ : Nat → Nat} (C : hp_C Γ p m c cL_law 4 s #[Value.ref b] RL) (hX : va_X b Ln xs s s.heap) (hbl : b < s.heap.size) (hbA : ¬ hp_A Γ b) (hLn : Ln ≤ 3072) {α : hp_T} {σ : ms_T} {H : Heap} {L : List Loc} {cells slots : Nat} (hli : li Γ s x y ρ α σ H L cells slots) (i : Int32) (hi : 0 ≤ i.toInt) (hi2 : i.toInt + 6 ≤ (Ln : Int)) (ls : Array Slot) (hl : lv_has ls 4 [(0, .ref b), (1, .ref x), (2, .ref y), (3, .int i)]) (kk : ∀ (α : hp_T) (σ : ms_T) (H : Heap) (L : List Loc) (cells slots : Nat), li Γ s x y ρ α σ H L cells slots → W p l e room_1 s m #[Value.ref b] below meth c H L cells slots (lw_Z below #[Value.ref b] s) (F0 m 2391 ls [])) : W p l e room_1 s m #[Value.ref b] below meth c H L cells slots (lw_Z below #[Value.ref b] s) (F0 m 2008 ls []) := by
  have hx := C.1.1
  have hb := C.1.2.1
  have hi3 : (Ln : Int) ≤ 3072 := by omega
  have hcs : cells ≤ 986 ∧ slots ≤ 148568 := by rcases hli.2.2.2.2.2.2 with ⟨-, h1, h2⟩ | ⟨-, h1, h2⟩ <;> omega
  obtain ⟨hB, hG, hKx, hM, hR, hE, hRo⟩ := id hli
  refine lv_aload_n hx hb dL_law_2008 rfl (lv_at hl 1 rfl) (hp_n (n := 2009) rfl ?_)
  refine l_arg (j := 1) (nj := 1) (q0 := 0) (q3 := 3) (pc' := 2014) C hB hX hbl hbA hl rfl rfl (by decide) hi hi2 hi3 dL_law_2009 dL_law_2010 rfl dL_law_2011 dL_law_2012 dL_law_2013 rfl rfl rfl rfl rfl (fun u1 eu1 => ?_)
  refine l_arg (j := 2) (nj := 2) (q0 := 0) (q3 := 3) (pc' := 2019) C hB hX hbl hbA hl rfl rfl (by decide) hi hi2 hi3 dL_law_2014 dL_law_2015 rfl dL_law_2016 dL_law_2017 dL_law_2018 rfl rfl rfl rfl rfl (fun u2 eu2 => ?_)
  refine l_arg (j := 3) (nj := 3) (q0 := 0) (q3 := 3) (pc' := 2024) C hB hX hbl hbA hl rfl rfl (by decide) hi hi2 hi3 dL_law_2019 dL_law_2020 rfl dL_law_2021 dL_law_2022 dL_law_2023 rfl rfl rfl rfl rfl (fun u3 eu3 => ?_)
  refine l_arg (j := 4) (nj := 4) (q0 := 0) (q3 := 3) (pc' := 2029) C hB hX hbl hbA hl rfl rfl (by decide) hi hi2 hi3 dL_law_2024 dL_law_2025 rfl dL_law_2026 dL_law_2027 dL_law_2028 rfl rfl rfl rfl rfl (fun u4 eu4 => ?_)
  have hE0 := hE
  refine q_ci (pc' := 2032) hB (l_runV (As := [.int u1, .int u2, .int u3, .int u4]) (rest := []) C hB (t_X11_rise Γ l α hG x hKx u1 u2 u3 u4) lb_X11_rise lv_X11_rise lk_L_211 hKx (Nat.le_of_ble_eq_true rfl) (Nat.le_of_ble_eq_true rfl) ⟨Nat.le_trans (Nat.add_le_add_right hcs.1 _) (Nat.le_of_ble_eq_true rfl), Nat.le_trans (Nat.add_le_add_right hcs.2 _) (Nat.le_of_ble_eq_true rfl)⟩ rfl hl.1 rfl (Nat.le_of_ble_eq_true rfl) dL_law_2029) (fun _ _ _ => trivial) rfl (fun r1 β H1 L1 p1 B1 => ?_)
  have hli1 := li_cw hli B1 p1 (by decide)
  refine lv_pop hx hb dL_law_2032 rfl (hp_n (n := 2033) rfl ?_)
  obtain ⟨hB, hG, hKx, hM, hR, hE, hRo⟩ := id hli1
  have hcs : cells + 0 ≤ 986 ∧ slots + 0 ≤ 148568 := by rcases hRo with ⟨-, h1, h2⟩ | ⟨-, h1, h2⟩ <;> omega
  refine lv_aload_n hx hb dL_law_2033 rfl (lv_at hl 2 rfl) (hp_n (n := 2034) rfl ?_)
  refine l_arg (j := 1) (nj := 1) (q0 := 0) (q3 := 3) (pc' := 2039) C hB hX hbl hbA hl rfl rfl (by decide) hi hi2 hi3 dL_law_2034 dL_law_2035 rfl dL_law_2036 dL_law_2037 dL_law_2038 rfl rfl rfl rfl rfl (fun w1 ew1 => ?_)
  refine l_arg (j := 2) (nj := 2) (q0 := 0) (q3 := 3) (pc' := 2044) C hB hX hbl hbA hl rfl rfl (by decide) hi hi2 hi3 dL_law_2039 dL_law_2040 rfl dL_law_2041 dL_law_2042 dL_law_2043 rfl rfl rfl rfl rfl (fun w2 ew2 => ?_)
  refine l_arg (j := 3) (nj := 3) (q0 := 0) (q3 := 3) (pc' := 2049) C hB hX hbl hbA hl rfl rfl (by decide) hi hi2 hi3 dL_law_2044 dL_law_2045 rfl dL_law_2046 dL_law_2047 dL_law_2048 rfl rfl rfl rfl rfl (fun w3 ew3 => ?_)
  refine l_arg (j := 4) (nj := 4) (q0 := 0) (q3 := 3) (pc' := 2054) C hB hX hbl hbA hl rfl rfl (by decide) hi hi2 hi3 dL_law_2049 dL_law_2050 rfl dL_law_2051 dL_law_2052 dL_law_2053 rfl rfl rfl rfl rfl (fun w4 ew4 => ?_)
  rw [← eu1] at ew1; have ew1 := ew1.symm; subst ew1
  rw [← eu2] at ew2; have ew2 := ew2.symm; subst ew2
  rw [← eu3] at ew3; have ew3 := ew3.symm; subst ew3
  rw [← eu4] at ew4; have ew4 := ew4.symm; subst ew4
  obtain ⟨⟨r2, τ⟩, hq, hp⟩ := ws_pr (ws_pr (s_rise 70000 (by decide) σ hR u1 u2 u3 u4) (z_X12_rise kq_rf)) (x_X12_rise kf_rf)
  refine q_ci (pc' := 2057) hB (l_runV (As := [.int u1, .int u2, .int u3, .int u4]) (rest := []) C hB (m_X12_rise 70000 Γ l _ y ρ σ hM u1 u2 u3 u4 (r2, τ) hq) lb_X12_rise lv_X12_rise lk_L_214 hM.1 (Nat.le_of_ble_eq_true rfl) (Nat.le_of_ble_eq_true rfl) ⟨Nat.le_trans (Nat.add_le_add_right hcs.1 _) (Nat.le_of_ble_eq_true rfl), Nat.le_trans (Nat.add_le_add_right hcs.2 _) (Nat.le_of_ble_eq_true rfl)⟩ rfl hl.1 rfl (Nat.le_of_ble_eq_true rfl) dL_law_2054) (fun _ _ _ => trivial) rfl (fun r3 γ H2 L2 p2 B2 => ?_)
  have hli2 := li0_mo (li_0 hli1) B2 p2.2.1 p2.2.2 hp.1.1.1 (lxc_kq hli1.2.2.2.2.2.1 p2.2.1 hp.1.2 hp.2 hp.1.1.2 hp.1.1.1)
  refine lv_pop hx hb dL_law_2057 rfl (hp_n (n := 2058) rfl ?_)
  refine lv_goto (tgt := 2391) hx hb dL_law_2058 (by decide) ?_
  exact kk _ _ _ _ _ _ hli2
set_option maxRecDepth 100000 in
set_option maxHeartbeats 4000000 in
theorem lc_49 {p : Program} {l : Launch} {e : Env} {s : State} {m : MethodId} {below : List Frame} {meth : Method} {c : Code} {Γ : hp_G} {b Ln x y : Nat} {xs : Nat → Int32} {ρ : Nat → Nat} (C : hp_C Γ p m c cL_law 4 s #[Value.ref b] RL) (hX : va_X b Ln xs s s.heap) (hbl : b < s.heap.size) (hbA : ¬ hp_A Γ b) (hLn : Ln ≤ 3072) {α : hp_T} {σ : ms_T} {H : Heap} {L : List Loc} {cells slots : Nat} (hli : li Γ s x y ρ α σ H L cells slots) (i : Int32) (hi : 0 ≤ i.toInt) (hi2 : i.toInt + 6 ≤ (Ln : Int)) (ls : Array Slot) (hl : lv_has ls 4 [(0, .ref b), (1, .ref x), (2, .ref y), (3, .int i)]) (kk : ∀ (α : hp_T) (σ : ms_T) (H : Heap) (L : List Loc) (cells slots : Nat), li Γ s x y ρ α σ H L cells slots → W p l e room_1 s m #[Value.ref b] below meth c H L cells slots (lw_Z below #[Value.ref b] s) (F0 m 2391 ls [])) : W p l e room_1 s m #[Value.ref b] below meth c H L cells slots (lw_Z below #[Value.ref b] s) (F0 m 2061 ls []) := by
  have hx := C.1.1
  have hb := C.1.2.1
  have hi3 : (Ln : Int) ≤ 3072 := by omega
  have hcs : cells ≤ 986 ∧ slots ≤ 148568 := by rcases hli.2.2.2.2.2.2 with ⟨-, h1, h2⟩ | ⟨-, h1, h2⟩ <;> omega
  obtain ⟨hB, hG, hKx, hM, hR, hE, hRo⟩ := id hli
  refine lv_aload_n hx hb dL_law_2061 rfl (lv_at hl 1 rfl) (hp_n (n := 2062) rfl ?_)
  refine l_arg (j := 1) (nj := 1) (q0 := 0) (q3 := 3) (pc' := 2067) C hB hX hbl hbA hl rfl rfl (by decide) hi hi2 hi3 dL_law_2062 dL_law_2063 rfl dL_law_2064 dL_law_2065 dL_law_2066 rfl rfl rfl rfl rfl (fun u1 eu1 => ?_)
  refine l_arg (j := 2) (nj := 2) (q0 := 0) (q3 := 3) (pc' := 2072) C hB hX hbl hbA hl rfl rfl (by decide) hi hi2 hi3 dL_law_2067 dL_law_2068 rfl dL_law_2069 dL_law_2070 dL_law_2071 rfl rfl rfl rfl rfl (fun u2 eu2 => ?_)
  refine l_arg (j := 3) (nj := 3) (q0 := 0) (q3 := 3) (pc' := 2077) C hB hX hbl hbA hl rfl rfl (by decide) hi hi2 hi3 dL_law_2072 dL_law_2073 rfl dL_law_2074 dL_law_2075 dL_law_2076 rfl rfl rfl rfl rfl (fun u3 eu3 => ?_)
  have hE0 := hE
  refine q_ci (pc' := 2080) hB (l_runV (As := [.int u1, .int u2, .int u3]) (rest := []) C hB (t_X11_kept Γ l α hG x hKx u1 u2 u3) lb_X11_kept lv_X11_kept lk_L_215 hKx (Nat.le_of_ble_eq_true rfl) (Nat.le_of_ble_eq_true rfl) ⟨Nat.le_trans (Nat.add_le_add_right hcs.1 _) (Nat.le_of_ble_eq_true rfl), Nat.le_trans (Nat.add_le_add_right hcs.2 _) (Nat.le_of_ble_eq_true rfl)⟩ rfl hl.1 rfl (Nat.le_of_ble_eq_true rfl) dL_law_2077) (fun _ _ _ => trivial) rfl (fun r1 β H1 L1 p1 B1 => ?_)
  have hli1 := li_cw hli B1 p1 (by decide)
  refine lv_pop hx hb dL_law_2080 rfl (hp_n (n := 2081) rfl ?_)
  obtain ⟨hB, hG, hKx, hM, hR, hE, hRo⟩ := id hli1
  have hcs : cells + 0 ≤ 986 ∧ slots + 0 ≤ 148568 := by rcases hRo with ⟨-, h1, h2⟩ | ⟨-, h1, h2⟩ <;> omega
  refine lv_aload_n hx hb dL_law_2081 rfl (lv_at hl 2 rfl) (hp_n (n := 2082) rfl ?_)
  refine l_arg (j := 1) (nj := 1) (q0 := 0) (q3 := 3) (pc' := 2087) C hB hX hbl hbA hl rfl rfl (by decide) hi hi2 hi3 dL_law_2082 dL_law_2083 rfl dL_law_2084 dL_law_2085 dL_law_2086 rfl rfl rfl rfl rfl (fun w1 ew1 => ?_)
  refine l_arg (j := 2) (nj := 2) (q0 := 0) (q3 := 3) (pc' := 2092) C hB hX hbl hbA hl rfl rfl (by decide) hi hi2 hi3 dL_law_2087 dL_law_2088 rfl dL_law_2089 dL_law_2090 dL_law_2091 rfl rfl rfl rfl rfl (fun w2 ew2 => ?_)
  refine l_arg (j := 3) (nj := 3) (q0 := 0) (q3 := 3) (pc' := 2097) C hB hX hbl hbA hl rfl rfl (by decide) hi hi2 hi3 dL_law_2092 dL_law_2093 rfl dL_law_2094 dL_law_2095 dL_law_2096 rfl rfl rfl rfl rfl (fun w3 ew3 => ?_)
  rw [← eu1] at ew1; have ew1 := ew1.symm; subst ew1
  rw [← eu2] at ew2; have ew2 := ew2.symm; subst ew2
  rw [← eu3] at ew3; have ew3 := ew3.symm; subst ew3
  obtain ⟨⟨r2, τ⟩, hq, hp⟩ := ws_pr (ws_pr (s_kept 70000 (by decide) σ hR u1 u2 u3) (z_X12_kept kq_rf)) (x_X12_kept kf_rf)
  refine q_ci (pc' := 2100) hB (l_runV (As := [.int u1, .int u2, .int u3]) (rest := []) C hB (m_X12_kept 70000 Γ l _ y ρ σ hM u1 u2 u3 (r2, τ) hq) lb_X12_kept lv_X12_kept lk_L_218 hM.1 (Nat.le_of_ble_eq_true rfl) (Nat.le_of_ble_eq_true rfl) ⟨Nat.le_trans (Nat.add_le_add_right hcs.1 _) (Nat.le_of_ble_eq_true rfl), Nat.le_trans (Nat.add_le_add_right hcs.2 _) (Nat.le_of_ble_eq_true rfl)⟩ rfl hl.1 rfl (Nat.le_of_ble_eq_true rfl) dL_law_2097) (fun _ _ _ => trivial) rfl (fun r3 γ H2 L2 p2 B2 => ?_)
  have hli2 := li0_mo (li_0 hli1) B2 p2.2.1 p2.2.2 hp.1.1.1 (lxc_kq hli1.2.2.2.2.2.1 p2.2.1 hp.1.2 hp.2 hp.1.1.2 hp.1.1.1)
  refine lv_pop hx hb dL_law_2100 rfl (hp_n (n := 2101) rfl ?_)
  refine lv_goto (tgt := 2391) hx hb dL_law_2101 (by decide) ?_
  exact kk _ _ _ _ _ _ hli2
set_option maxRecDepth 100000 in
set_option maxHeartbeats 4000000 in
theorem lc_50 {p : Program} {l : Launch} {e : Env} {s : State} {m : MethodId} {below : List Frame} {meth : Method} {c : Code} {Γ : hp_G} {b Ln x y : Nat} {xs : Nat → Int32} {ρ : Nat → Nat} (C : hp_C Γ p m c cL_law 4 s #[Value.ref b] RL) (hX : va_X b Ln xs s s.heap) (hbl : b < s.heap.size) (hbA : ¬ hp_A Γ b) (hLn : Ln ≤ 3072) {α : hp_T} {σ : ms_T} {H : Heap} {L : List Loc} {cells slots : Nat} (hli : li Γ s x y ρ α σ H L cells slots) (i : Int32) (hi : 0 ≤ i.toInt) (hi2 : i.toInt + 6 ≤ (Ln : Int)) (ls : Array Slot) (hl : lv_has ls 4 [(0, .ref b), (1, .ref x), (2, .ref y), (3, .int i)]) (kk : ∀ (α : hp_T) (σ : ms_T) (H : Heap) (L : List Loc) (cells slots : Nat), li Γ s x y ρ α σ H L cells slots → W p l e room_1 s m #[Value.ref b] below meth c H L cells slots (lw_Z below #[Value.ref b] s) (F0 m 2391 ls [])) : W p l e room_1 s m #[Value.ref b] below meth c H L cells slots (lw_Z below #[Value.ref b] s) (F0 m 2104 ls []) := by
  have hx := C.1.1
  have hb := C.1.2.1
  have hi3 : (Ln : Int) ≤ 3072 := by omega
  have hcs : cells ≤ 986 ∧ slots ≤ 148568 := by rcases hli.2.2.2.2.2.2 with ⟨-, h1, h2⟩ | ⟨-, h1, h2⟩ <;> omega
  obtain ⟨hB, hG, hKx, hM, hR, hE, hRo⟩ := id hli
  refine lv_aload_n hx hb dL_law_2104 rfl (lv_at hl 1 rfl) (hp_n (n := 2105) rfl ?_)
  refine l_arg (j := 1) (nj := 1) (q0 := 0) (q3 := 3) (pc' := 2110) C hB hX hbl hbA hl rfl rfl (by decide) hi hi2 hi3 dL_law_2105 dL_law_2106 rfl dL_law_2107 dL_law_2108 dL_law_2109 rfl rfl rfl rfl rfl (fun u1 eu1 => ?_)
  have hE0 := hE
  refine q_ci (pc' := 2113) hB (l_runV (As := [.int u1]) (rest := []) C hB (t_X11_sick_R (ra := [x + 939]) (rb := [x + 940]) Γ l α hG x hKx u1 (by rw [hE.2.2.1.1]; exact List.mem_cons_self) (by rw [hE.2.2.1.1, hE.2.2.1.2.1]; exact List.mem_cons_self)) lb_X11_sick lv_X11_sick lk_L_219 hKx (Nat.le_of_ble_eq_true rfl) (Nat.le_of_ble_eq_true rfl) ⟨Nat.le_trans (Nat.add_le_add_right hcs.1 _) (Nat.le_of_ble_eq_true rfl), Nat.le_trans (Nat.add_le_add_right hcs.2 _) (Nat.le_of_ble_eq_true rfl)⟩ rfl hl.1 rfl (Nat.le_of_ble_eq_true rfl) dL_law_2110) (fun _ _ _ => trivial) rfl (fun r1 β H1 L1 p1 B1 => ?_)
  have hli1 := li0_cw hli B1 p1.1 (by decide)
  refine lv_pop hx hb dL_law_2113 rfl (hp_n (n := 2114) rfl ?_)
  obtain ⟨hB, hG, hKx, hM, hR, hE, hRo⟩ := id hli1
  have hcs : cells + 0 ≤ 986 ∧ slots + 0 ≤ 148568 := by rcases hRo with ⟨-, h1, h2⟩ | ⟨-, h1, h2⟩ <;> omega
  refine lv_aload_n hx hb dL_law_2114 rfl (lv_at hl 2 rfl) (hp_n (n := 2115) rfl ?_)
  refine l_arg (j := 1) (nj := 1) (q0 := 0) (q3 := 3) (pc' := 2120) C hB hX hbl hbA hl rfl rfl (by decide) hi hi2 hi3 dL_law_2115 dL_law_2116 rfl dL_law_2117 dL_law_2118 dL_law_2119 rfl rfl rfl rfl rfl (fun w1 ew1 => ?_)
  rw [← eu1] at ew1; have ew1 := ew1.symm; subst ew1
  obtain ⟨⟨r2, τ⟩, hq, hp⟩ := ws_pr (s_sick 70000 (by decide) σ hR u1) (z_X12_sick kq_rf)
  refine q_ci (pc' := 2123) hB (l_runV (As := [.int u1]) (rest := []) C hB (m_X12_sick 70000 Γ l _ y ρ σ hM u1 (r2, τ) hq) lb_X12_sick lv_X12_sick lk_L_222 hM.1 (Nat.le_of_ble_eq_true rfl) (Nat.le_of_ble_eq_true rfl) ⟨Nat.le_trans (Nat.add_le_add_right hcs.1 _) (Nat.le_of_ble_eq_true rfl), Nat.le_trans (Nat.add_le_add_right hcs.2 _) (Nat.le_of_ble_eq_true rfl)⟩ rfl hl.1 rfl (Nat.le_of_ble_eq_true rfl) dL_law_2120) (fun _ _ _ => trivial) rfl (fun r3 γ H2 L2 p2 B2 => ?_)
  have hli2 := li0_mo hli1 B2 p2.2.1 p2.2.2 hp.1.1 ⟨lx_kq (LX_cw hE0.1 p1.1 (by decide)) p2.2.1 hp.2 hp.1.2 hp.1.1, CX_kq (CX_R hE0.2 p1 (by decide) n_19.1 n_19.2.1) p2.2.1 hp.2⟩
  refine lv_pop hx hb dL_law_2123 rfl (hp_n (n := 2124) rfl ?_)
  refine lv_goto (tgt := 2391) hx hb dL_law_2124 (by decide) ?_
  exact kk _ _ _ _ _ _ hli2
set_option maxRecDepth 100000 in
set_option maxHeartbeats 4000000 in
theorem lc_51 {p : Program} {l : Launch} {e : Env} {s : State} {m : MethodId} {below : List Frame} {meth : Method} {c : Code} {Γ : hp_G} {b Ln x y : Nat} {xs : Nat → Int32} {ρ : Nat → Nat} (C : hp_C Γ p m c cL_law 4 s #[Value.ref b] RL) (hX : va_X b Ln xs s s.heap) (hbl : b < s.heap.size) (hbA : ¬ hp_A Γ b) (hLn : Ln ≤ 3072) {α : hp_T} {σ : ms_T} {H : Heap} {L : List Loc} {cells slots : Nat} (hli : li Γ s x y ρ α σ H L cells slots) (i : Int32) (hi : 0 ≤ i.toInt) (hi2 : i.toInt + 6 ≤ (Ln : Int)) (ls : Array Slot) (hl : lv_has ls 4 [(0, .ref b), (1, .ref x), (2, .ref y), (3, .int i)]) (kk : ∀ (α : hp_T) (σ : ms_T) (H : Heap) (L : List Loc) (cells slots : Nat), li Γ s x y ρ α σ H L cells slots → W p l e room_1 s m #[Value.ref b] below meth c H L cells slots (lw_Z below #[Value.ref b] s) (F0 m 2391 ls [])) : W p l e room_1 s m #[Value.ref b] below meth c H L cells slots (lw_Z below #[Value.ref b] s) (F0 m 2127 ls []) := by
  have hx := C.1.1
  have hb := C.1.2.1
  have hi3 : (Ln : Int) ≤ 3072 := by omega
  have hcs : cells ≤ 986 ∧ slots ≤ 148568 := by rcases hli.2.2.2.2.2.2 with ⟨-, h1, h2⟩ | ⟨-, h1, h2⟩ <;> omega
  obtain ⟨hB, hG, hKx, hM, hR, hE, hRo⟩ := id hli
  refine lv_aload_n hx hb dL_law_2127 rfl (lv_at hl 1 rfl) (hp_n (n := 2128) rfl ?_)
  refine l_arg (j := 1) (nj := 1) (q0 := 0) (q3 := 3) (pc' := 2133) C hB hX hbl hbA hl rfl rfl (by decide) hi hi2 hi3 dL_law_2128 dL_law_2129 rfl dL_law_2130 dL_law_2131 dL_law_2132 rfl rfl rfl rfl rfl (fun u1 eu1 => ?_)
  refine l_arg (j := 2) (nj := 2) (q0 := 0) (q3 := 3) (pc' := 2138) C hB hX hbl hbA hl rfl rfl (by decide) hi hi2 hi3 dL_law_2133 dL_law_2134 rfl dL_law_2135 dL_law_2136 dL_law_2137 rfl rfl rfl rfl rfl (fun u2 eu2 => ?_)
  have hE0 := hE
  refine q_ci (pc' := 2141) hB (l_runV (As := [.int u1, .int u2]) (rest := []) C hB (t_X11_chain Γ l α hG x hKx u1 u2) lb_X11_chain lv_X11_chain lk_L_223 hKx (Nat.le_of_ble_eq_true rfl) (Nat.le_of_ble_eq_true rfl) ⟨Nat.le_trans (Nat.add_le_add_right hcs.1 _) (Nat.le_of_ble_eq_true rfl), Nat.le_trans (Nat.add_le_add_right hcs.2 _) (Nat.le_of_ble_eq_true rfl)⟩ rfl hl.1 rfl (Nat.le_of_ble_eq_true rfl) dL_law_2138) (fun _ _ _ => trivial) rfl (fun r1 β H1 L1 p1 B1 => ?_)
  have hli1 := li_cw hli B1 p1 (by decide)
  refine lv_pop hx hb dL_law_2141 rfl (hp_n (n := 2142) rfl ?_)
  obtain ⟨hB, hG, hKx, hM, hR, hE, hRo⟩ := id hli1
  have hcs : cells + 0 ≤ 986 ∧ slots + 0 ≤ 148568 := by rcases hRo with ⟨-, h1, h2⟩ | ⟨-, h1, h2⟩ <;> omega
  refine lv_aload_n hx hb dL_law_2142 rfl (lv_at hl 2 rfl) (hp_n (n := 2143) rfl ?_)
  refine l_arg (j := 1) (nj := 1) (q0 := 0) (q3 := 3) (pc' := 2148) C hB hX hbl hbA hl rfl rfl (by decide) hi hi2 hi3 dL_law_2143 dL_law_2144 rfl dL_law_2145 dL_law_2146 dL_law_2147 rfl rfl rfl rfl rfl (fun w1 ew1 => ?_)
  refine l_arg (j := 2) (nj := 2) (q0 := 0) (q3 := 3) (pc' := 2153) C hB hX hbl hbA hl rfl rfl (by decide) hi hi2 hi3 dL_law_2148 dL_law_2149 rfl dL_law_2150 dL_law_2151 dL_law_2152 rfl rfl rfl rfl rfl (fun w2 ew2 => ?_)
  rw [← eu1] at ew1; have ew1 := ew1.symm; subst ew1
  rw [← eu2] at ew2; have ew2 := ew2.symm; subst ew2
  obtain ⟨⟨r2, τ⟩, hq, hp⟩ := ws_pr (ws_pr (s_chain 70000 (by decide) σ hR u1 u2) (z_X12_chain kq_rf)) (x_X12_chain kf_rf)
  refine q_ci (pc' := 2156) hB (l_runV (As := [.int u1, .int u2]) (rest := []) C hB (m_X12_chain 70000 Γ l _ y ρ σ hM u1 u2 (r2, τ) hq) lb_X12_chain lv_X12_chain lk_L_226 hM.1 (Nat.le_of_ble_eq_true rfl) (Nat.le_of_ble_eq_true rfl) ⟨Nat.le_trans (Nat.add_le_add_right hcs.1 _) (Nat.le_of_ble_eq_true rfl), Nat.le_trans (Nat.add_le_add_right hcs.2 _) (Nat.le_of_ble_eq_true rfl)⟩ rfl hl.1 rfl (Nat.le_of_ble_eq_true rfl) dL_law_2153) (fun _ _ _ => trivial) rfl (fun r3 γ H2 L2 p2 B2 => ?_)
  have hli2 := li0_mo (li_0 hli1) B2 p2.2.1 p2.2.2 hp.1.1.1 (lxc_kq hli1.2.2.2.2.2.1 p2.2.1 hp.1.2 hp.2 hp.1.1.2 hp.1.1.1)
  refine lv_pop hx hb dL_law_2156 rfl (hp_n (n := 2157) rfl ?_)
  refine lv_goto (tgt := 2391) hx hb dL_law_2157 (by decide) ?_
  exact kk _ _ _ _ _ _ hli2
set_option maxRecDepth 100000 in
set_option maxHeartbeats 4000000 in
theorem lc_52 {p : Program} {l : Launch} {e : Env} {s : State} {m : MethodId} {below : List Frame} {meth : Method} {c : Code} {Γ : hp_G} {b Ln x y : Nat} {xs : Nat → Int32} {ρ : Nat → Nat} (C : hp_C Γ p m c cL_law 4 s #[Value.ref b] RL) (hX : va_X b Ln xs s s.heap) (hbl : b < s.heap.size) (hbA : ¬ hp_A Γ b) (hLn : Ln ≤ 3072) {α : hp_T} {σ : ms_T} {H : Heap} {L : List Loc} {cells slots : Nat} (hli : li Γ s x y ρ α σ H L cells slots) (i : Int32) (hi : 0 ≤ i.toInt) (hi2 : i.toInt + 6 ≤ (Ln : Int)) (ls : Array Slot) (hl : lv_has ls 4 [(0, .ref b), (1, .ref x), (2, .ref y), (3, .int i)]) (kk : ∀ (α : hp_T) (σ : ms_T) (H : Heap) (L : List Loc) (cells slots : Nat), li Γ s x y ρ α σ H L cells slots → W p l e room_1 s m #[Value.ref b] below meth c H L cells slots (lw_Z below #[Value.ref b] s) (F0 m 2391 ls [])) : W p l e room_1 s m #[Value.ref b] below meth c H L cells slots (lw_Z below #[Value.ref b] s) (F0 m 2160 ls []) := by
  have hx := C.1.1
  have hb := C.1.2.1
  have hi3 : (Ln : Int) ≤ 3072 := by omega
  have hcs : cells ≤ 986 ∧ slots ≤ 148568 := by rcases hli.2.2.2.2.2.2 with ⟨-, h1, h2⟩ | ⟨-, h1, h2⟩ <;> omega
  obtain ⟨hB, hG, hKx, hM, hR, hE, hRo⟩ := id hli
  refine lv_aload_n hx hb dL_law_2160 rfl (lv_at hl 1 rfl) (hp_n (n := 2161) rfl ?_)
  refine l_arg (j := 1) (nj := 1) (q0 := 0) (q3 := 3) (pc' := 2166) C hB hX hbl hbA hl rfl rfl (by decide) hi hi2 hi3 dL_law_2161 dL_law_2162 rfl dL_law_2163 dL_law_2164 dL_law_2165 rfl rfl rfl rfl rfl (fun u1 eu1 => ?_)
  have hE0 := hE
  refine q_ci (pc' := 2169) hB (l_runV (As := [.int u1]) (rest := []) C hB (t_X11_split Γ l α hG x hKx u1) lb_X11_split lv_X11_split lk_L_227 hKx (Nat.le_of_ble_eq_true rfl) (Nat.le_of_ble_eq_true rfl) ⟨Nat.le_trans (Nat.add_le_add_right hcs.1 _) (Nat.le_of_ble_eq_true rfl), Nat.le_trans (Nat.add_le_add_right hcs.2 _) (Nat.le_of_ble_eq_true rfl)⟩ rfl hl.1 rfl (Nat.le_of_ble_eq_true rfl) dL_law_2166) (fun _ _ _ => trivial) rfl (fun r1 β H1 L1 p1 B1 => ?_)
  have hli1 := li_cw hli B1 p1 (by decide)
  refine lv_pop hx hb dL_law_2169 rfl (hp_n (n := 2170) rfl ?_)
  obtain ⟨hB, hG, hKx, hM, hR, hE, hRo⟩ := id hli1
  have hcs : cells + 0 ≤ 986 ∧ slots + 0 ≤ 148568 := by rcases hRo with ⟨-, h1, h2⟩ | ⟨-, h1, h2⟩ <;> omega
  refine lv_aload_n hx hb dL_law_2170 rfl (lv_at hl 2 rfl) (hp_n (n := 2171) rfl ?_)
  refine l_arg (j := 1) (nj := 1) (q0 := 0) (q3 := 3) (pc' := 2176) C hB hX hbl hbA hl rfl rfl (by decide) hi hi2 hi3 dL_law_2171 dL_law_2172 rfl dL_law_2173 dL_law_2174 dL_law_2175 rfl rfl rfl rfl rfl (fun w1 ew1 => ?_)
  rw [← eu1] at ew1; have ew1 := ew1.symm; subst ew1
  obtain ⟨⟨r2, τ⟩, hq, hp⟩ := ws_pr (ws_pr (s_split 70000 (by decide) σ hR u1) (z_X12_split kq_rf)) (x_X12_split kf_rf)
  refine q_ci (pc' := 2179) hB (l_runV (As := [.int u1]) (rest := []) C hB (m_X12_split 70000 Γ l _ y ρ σ hM u1 (r2, τ) hq) lb_X12_split lv_X12_split lk_L_230 hM.1 (Nat.le_of_ble_eq_true rfl) (Nat.le_of_ble_eq_true rfl) ⟨Nat.le_trans (Nat.add_le_add_right hcs.1 _) (Nat.le_of_ble_eq_true rfl), Nat.le_trans (Nat.add_le_add_right hcs.2 _) (Nat.le_of_ble_eq_true rfl)⟩ rfl hl.1 rfl (Nat.le_of_ble_eq_true rfl) dL_law_2176) (fun _ _ _ => trivial) rfl (fun r3 γ H2 L2 p2 B2 => ?_)
  have hli2 := li0_mo (li_0 hli1) B2 p2.2.1 p2.2.2 hp.1.1.1 (lxc_kq hli1.2.2.2.2.2.1 p2.2.1 hp.1.2 hp.2 hp.1.1.2 hp.1.1.1)
  refine lv_pop hx hb dL_law_2179 rfl (hp_n (n := 2180) rfl ?_)
  refine lv_goto (tgt := 2391) hx hb dL_law_2180 (by decide) ?_
  exact kk _ _ _ _ _ _ hli2
set_option maxRecDepth 100000 in
set_option maxHeartbeats 4000000 in
theorem lc_53 {p : Program} {l : Launch} {e : Env} {s : State} {m : MethodId} {below : List Frame} {meth : Method} {c : Code} {Γ : hp_G} {b Ln x y : Nat} {xs : Nat → Int32} {ρ : Nat → Nat} (C : hp_C Γ p m c cL_law 4 s #[Value.ref b] RL) (hX : va_X b Ln xs s s.heap) (hbl : b < s.heap.size) (hbA : ¬ hp_A Γ b) (hLn : Ln ≤ 3072) {α : hp_T} {σ : ms_T} {H : Heap} {L : List Loc} {cells slots : Nat} (hli : li Γ s x y ρ α σ H L cells slots) (i : Int32) (hi : 0 ≤ i.toInt) (hi2 : i.toInt + 6 ≤ (Ln : Int)) (ls : Array Slot) (hl : lv_has ls 4 [(0, .ref b), (1, .ref x), (2, .ref y), (3, .int i)]) (kk : ∀ (α : hp_T) (σ : ms_T) (H : Heap) (L : List Loc) (cells slots : Nat), li Γ s x y ρ α σ H L cells slots → W p l e room_1 s m #[Value.ref b] below meth c H L cells slots (lw_Z below #[Value.ref b] s) (F0 m 2391 ls [])) : W p l e room_1 s m #[Value.ref b] below meth c H L cells slots (lw_Z below #[Value.ref b] s) (F0 m 2183 ls []) := by
  have hx := C.1.1
  have hb := C.1.2.1
  have hi3 : (Ln : Int) ≤ 3072 := by omega
  have hcs : cells ≤ 986 ∧ slots ≤ 148568 := by rcases hli.2.2.2.2.2.2 with ⟨-, h1, h2⟩ | ⟨-, h1, h2⟩ <;> omega
  obtain ⟨hB, hG, hKx, hM, hR, hE, hRo⟩ := id hli
  refine lv_aload_n hx hb dL_law_2183 rfl (lv_at hl 1 rfl) (hp_n (n := 2184) rfl ?_)
  refine l_arg (j := 1) (nj := 1) (q0 := 0) (q3 := 3) (pc' := 2189) C hB hX hbl hbA hl rfl rfl (by decide) hi hi2 hi3 dL_law_2184 dL_law_2185 rfl dL_law_2186 dL_law_2187 dL_law_2188 rfl rfl rfl rfl rfl (fun u1 eu1 => ?_)
  refine l_arg (j := 2) (nj := 2) (q0 := 0) (q3 := 3) (pc' := 2194) C hB hX hbl hbA hl rfl rfl (by decide) hi hi2 hi3 dL_law_2189 dL_law_2190 rfl dL_law_2191 dL_law_2192 dL_law_2193 rfl rfl rfl rfl rfl (fun u2 eu2 => ?_)
  refine l_arg (j := 3) (nj := 3) (q0 := 0) (q3 := 3) (pc' := 2199) C hB hX hbl hbA hl rfl rfl (by decide) hi hi2 hi3 dL_law_2194 dL_law_2195 rfl dL_law_2196 dL_law_2197 dL_law_2198 rfl rfl rfl rfl rfl (fun u3 eu3 => ?_)
  have hE0 := hE
  refine q_ci (pc' := 2202) hB (l_runV (As := [.int u1, .int u2, .int u3]) (rest := []) C hB (t_X11_tell_R (ra := [x + 939]) (rb := [x + 940]) Γ l α hG x hKx u1 u2 u3 (by rw [hE.2.2.1.1]; exact List.mem_cons_self) (by rw [hE.2.2.1.1, hE.2.2.1.2.1]; exact List.mem_cons_self)) lb_X11_tell lv_X11_tell lk_L_231 hKx (Nat.le_of_ble_eq_true rfl) (Nat.le_of_ble_eq_true rfl) ⟨Nat.le_trans (Nat.add_le_add_right hcs.1 _) (Nat.le_of_ble_eq_true rfl), Nat.le_trans (Nat.add_le_add_right hcs.2 _) (Nat.le_of_ble_eq_true rfl)⟩ rfl hl.1 rfl (Nat.le_of_ble_eq_true rfl) dL_law_2199) (fun _ _ _ => trivial) rfl (fun r1 β H1 L1 p1 B1 => ?_)
  have hli1 := li0_cw hli B1 p1.1 (by decide)
  refine lv_pop hx hb dL_law_2202 rfl (hp_n (n := 2203) rfl ?_)
  obtain ⟨hB, hG, hKx, hM, hR, hE, hRo⟩ := id hli1
  have hcs : cells + 0 ≤ 986 ∧ slots + 0 ≤ 148568 := by rcases hRo with ⟨-, h1, h2⟩ | ⟨-, h1, h2⟩ <;> omega
  refine lv_aload_n hx hb dL_law_2203 rfl (lv_at hl 2 rfl) (hp_n (n := 2204) rfl ?_)
  refine l_arg (j := 1) (nj := 1) (q0 := 0) (q3 := 3) (pc' := 2209) C hB hX hbl hbA hl rfl rfl (by decide) hi hi2 hi3 dL_law_2204 dL_law_2205 rfl dL_law_2206 dL_law_2207 dL_law_2208 rfl rfl rfl rfl rfl (fun w1 ew1 => ?_)
  refine l_arg (j := 2) (nj := 2) (q0 := 0) (q3 := 3) (pc' := 2214) C hB hX hbl hbA hl rfl rfl (by decide) hi hi2 hi3 dL_law_2209 dL_law_2210 rfl dL_law_2211 dL_law_2212 dL_law_2213 rfl rfl rfl rfl rfl (fun w2 ew2 => ?_)
  refine l_arg (j := 3) (nj := 3) (q0 := 0) (q3 := 3) (pc' := 2219) C hB hX hbl hbA hl rfl rfl (by decide) hi hi2 hi3 dL_law_2214 dL_law_2215 rfl dL_law_2216 dL_law_2217 dL_law_2218 rfl rfl rfl rfl rfl (fun w3 ew3 => ?_)
  rw [← eu1] at ew1; have ew1 := ew1.symm; subst ew1
  rw [← eu2] at ew2; have ew2 := ew2.symm; subst ew2
  rw [← eu3] at ew3; have ew3 := ew3.symm; subst ew3
  obtain ⟨⟨r2, τ⟩, hq, hp⟩ := ws_pr (s_tell 70000 (by decide) σ hR u1 u2 u3) (z_X12_tell kq_rf)
  refine q_ci (pc' := 2222) hB (l_runV (As := [.int u1, .int u2, .int u3]) (rest := []) C hB (m_X12_tell 70000 Γ l _ y ρ σ hM u1 u2 u3 (r2, τ) hq) lb_X12_tell lv_X12_tell lk_L_234 hM.1 (Nat.le_of_ble_eq_true rfl) (Nat.le_of_ble_eq_true rfl) ⟨Nat.le_trans (Nat.add_le_add_right hcs.1 _) (Nat.le_of_ble_eq_true rfl), Nat.le_trans (Nat.add_le_add_right hcs.2 _) (Nat.le_of_ble_eq_true rfl)⟩ rfl hl.1 rfl (Nat.le_of_ble_eq_true rfl) dL_law_2219) (fun _ _ _ => trivial) rfl (fun r3 γ H2 L2 p2 B2 => ?_)
  have hli2 := li0_mo hli1 B2 p2.2.1 p2.2.2 hp.1.1 ⟨lx_kq (LX_cw hE0.1 p1.1 (by decide)) p2.2.1 hp.2 hp.1.2 hp.1.1, CX_kq (CX_R hE0.2 p1 (by decide) n_19.1 n_19.2.1) p2.2.1 hp.2⟩
  refine lv_pop hx hb dL_law_2222 rfl (hp_n (n := 2223) rfl ?_)
  refine lv_goto (tgt := 2391) hx hb dL_law_2223 (by decide) ?_
  exact kk _ _ _ _ _ _ hli2
set_option maxRecDepth 100000 in
set_option maxHeartbeats 4000000 in
theorem lc_54 {p : Program} {l : Launch} {e : Env} {s : State} {m : MethodId} {below : List Frame} {meth : Method} {c : Code} {Γ : hp_G} {b Ln x y : Nat} {xs : Nat → Int32} {ρ : Nat → Nat} (C : hp_C Γ p m c cL_law 4 s #[Value.ref b] RL) (hX : va_X b Ln xs s s.heap) (hbl : b < s.heap.size) (hbA : ¬ hp_A Γ b) (hLn : Ln ≤ 3072) {α : hp_T} {σ : ms_T} {H : Heap} {L : List Loc} {cells slots : Nat} (hli : li Γ s x y ρ α σ H L cells slots) (i : Int32) (hi : 0 ≤ i.toInt) (hi2 : i.toInt + 6 ≤ (Ln : Int)) (ls : Array Slot) (hl : lv_has ls 4 [(0, .ref b), (1, .ref x), (2, .ref y), (3, .int i)]) (kk : ∀ (α : hp_T) (σ : ms_T) (H : Heap) (L : List Loc) (cells slots : Nat), li Γ s x y ρ α σ H L cells slots → W p l e room_1 s m #[Value.ref b] below meth c H L cells slots (lw_Z below #[Value.ref b] s) (F0 m 2391 ls [])) : W p l e room_1 s m #[Value.ref b] below meth c H L cells slots (lw_Z below #[Value.ref b] s) (F0 m 2226 ls []) := by
  have hx := C.1.1
  have hb := C.1.2.1
  have hi3 : (Ln : Int) ≤ 3072 := by omega
  have hcs : cells ≤ 986 ∧ slots ≤ 148568 := by rcases hli.2.2.2.2.2.2 with ⟨-, h1, h2⟩ | ⟨-, h1, h2⟩ <;> omega
  obtain ⟨hB, hG, hKx, hM, hR, hE, hRo⟩ := id hli
  refine lv_aload_n hx hb dL_law_2226 rfl (lv_at hl 1 rfl) (hp_n (n := 2227) rfl ?_)
  refine l_arg (j := 1) (nj := 1) (q0 := 0) (q3 := 3) (pc' := 2232) C hB hX hbl hbA hl rfl rfl (by decide) hi hi2 hi3 dL_law_2227 dL_law_2228 rfl dL_law_2229 dL_law_2230 dL_law_2231 rfl rfl rfl rfl rfl (fun u1 eu1 => ?_)
  refine l_arg (j := 2) (nj := 2) (q0 := 0) (q3 := 3) (pc' := 2237) C hB hX hbl hbA hl rfl rfl (by decide) hi hi2 hi3 dL_law_2232 dL_law_2233 rfl dL_law_2234 dL_law_2235 dL_law_2236 rfl rfl rfl rfl rfl (fun u2 eu2 => ?_)
  refine l_arg (j := 3) (nj := 3) (q0 := 0) (q3 := 3) (pc' := 2242) C hB hX hbl hbA hl rfl rfl (by decide) hi hi2 hi3 dL_law_2237 dL_law_2238 rfl dL_law_2239 dL_law_2240 dL_law_2241 rfl rfl rfl rfl rfl (fun u3 eu3 => ?_)
  have hE0 := hE
  refine q_ci (pc' := 2245) hB (l_runV (As := [.int u1, .int u2, .int u3]) (rest := []) C hB (t_X11_tellGrowth_R (ra := [x + 939]) (rb := [x + 940]) Γ l α hG x hKx u1 u2 u3 (by rw [hE.2.2.1.1]; exact List.mem_cons_self) (by rw [hE.2.2.1.1, hE.2.2.1.2.1]; exact List.mem_cons_self)) lb_X11_tellGrowth lv_X11_tellGrowth lk_L_235 hKx (Nat.le_of_ble_eq_true rfl) (Nat.le_of_ble_eq_true rfl) ⟨Nat.le_trans (Nat.add_le_add_right hcs.1 _) (Nat.le_of_ble_eq_true rfl), Nat.le_trans (Nat.add_le_add_right hcs.2 _) (Nat.le_of_ble_eq_true rfl)⟩ rfl hl.1 rfl (Nat.le_of_ble_eq_true rfl) dL_law_2242) (fun _ _ _ => trivial) rfl (fun r1 β H1 L1 p1 B1 => ?_)
  have hli1 := li0_cw hli B1 p1.1 (by decide)
  refine lv_pop hx hb dL_law_2245 rfl (hp_n (n := 2246) rfl ?_)
  obtain ⟨hB, hG, hKx, hM, hR, hE, hRo⟩ := id hli1
  have hcs : cells + 0 ≤ 986 ∧ slots + 0 ≤ 148568 := by rcases hRo with ⟨-, h1, h2⟩ | ⟨-, h1, h2⟩ <;> omega
  refine lv_aload_n hx hb dL_law_2246 rfl (lv_at hl 2 rfl) (hp_n (n := 2247) rfl ?_)
  refine l_arg (j := 1) (nj := 1) (q0 := 0) (q3 := 3) (pc' := 2252) C hB hX hbl hbA hl rfl rfl (by decide) hi hi2 hi3 dL_law_2247 dL_law_2248 rfl dL_law_2249 dL_law_2250 dL_law_2251 rfl rfl rfl rfl rfl (fun w1 ew1 => ?_)
  refine l_arg (j := 2) (nj := 2) (q0 := 0) (q3 := 3) (pc' := 2257) C hB hX hbl hbA hl rfl rfl (by decide) hi hi2 hi3 dL_law_2252 dL_law_2253 rfl dL_law_2254 dL_law_2255 dL_law_2256 rfl rfl rfl rfl rfl (fun w2 ew2 => ?_)
  refine l_arg (j := 3) (nj := 3) (q0 := 0) (q3 := 3) (pc' := 2262) C hB hX hbl hbA hl rfl rfl (by decide) hi hi2 hi3 dL_law_2257 dL_law_2258 rfl dL_law_2259 dL_law_2260 dL_law_2261 rfl rfl rfl rfl rfl (fun w3 ew3 => ?_)
  rw [← eu1] at ew1; have ew1 := ew1.symm; subst ew1
  rw [← eu2] at ew2; have ew2 := ew2.symm; subst ew2
  rw [← eu3] at ew3; have ew3 := ew3.symm; subst ew3
  obtain ⟨⟨r2, τ⟩, hq, hp⟩ := ws_pr (s_tellGrowth 70000 (by decide) σ hR u1 u2 u3) (z_X12_tellGrowth kq_rf)
  refine q_ci (pc' := 2265) hB (l_runV (As := [.int u1, .int u2, .int u3]) (rest := []) C hB (m_X12_tellGrowth 70000 Γ l _ y ρ σ hM u1 u2 u3 (r2, τ) hq) lb_X12_tellGrowth lv_X12_tellGrowth lk_L_238 hM.1 (Nat.le_of_ble_eq_true rfl) (Nat.le_of_ble_eq_true rfl) ⟨Nat.le_trans (Nat.add_le_add_right hcs.1 _) (Nat.le_of_ble_eq_true rfl), Nat.le_trans (Nat.add_le_add_right hcs.2 _) (Nat.le_of_ble_eq_true rfl)⟩ rfl hl.1 rfl (Nat.le_of_ble_eq_true rfl) dL_law_2262) (fun _ _ _ => trivial) rfl (fun r3 γ H2 L2 p2 B2 => ?_)
  have hli2 := li0_mo hli1 B2 p2.2.1 p2.2.2 hp.1.1 ⟨lx_kq (LX_cw hE0.1 p1.1 (by decide)) p2.2.1 hp.2 hp.1.2 hp.1.1, CX_kq (CX_R hE0.2 p1 (by decide) n_19.1 n_19.2.1) p2.2.1 hp.2⟩
  refine lv_pop hx hb dL_law_2265 rfl (hp_n (n := 2266) rfl ?_)
  refine lv_goto (tgt := 2391) hx hb dL_law_2266 (by decide) ?_
  exact kk _ _ _ _ _ _ hli2
set_option maxRecDepth 100000 in
set_option maxHeartbeats 4000000 in
theorem lc_55 {p : Program} {l : Launch} {e : Env} {s : State} {m : MethodId} {below : List Frame} {meth : Method} {c : Code} {Γ : hp_G} {b Ln x y : Nat} {xs : Nat → Int32} {ρ : Nat → Nat} (C : hp_C Γ p m c cL_law 4 s #[Value.ref b] RL) (hX : va_X b Ln xs s s.heap) (hbl : b < s.heap.size) (hbA : ¬ hp_A Γ b) (hLn : Ln ≤ 3072) {α : hp_T} {σ : ms_T} {H : Heap} {L : List Loc} {cells slots : Nat} (hli : li Γ s x y ρ α σ H L cells slots) (i : Int32) (hi : 0 ≤ i.toInt) (hi2 : i.toInt + 6 ≤ (Ln : Int)) (ls : Array Slot) (hl : lv_has ls 4 [(0, .ref b), (1, .ref x), (2, .ref y), (3, .int i)]) (kk : ∀ (α : hp_T) (σ : ms_T) (H : Heap) (L : List Loc) (cells slots : Nat), li Γ s x y ρ α σ H L cells slots → W p l e room_1 s m #[Value.ref b] below meth c H L cells slots (lw_Z below #[Value.ref b] s) (F0 m 2391 ls [])) : W p l e room_1 s m #[Value.ref b] below meth c H L cells slots (lw_Z below #[Value.ref b] s) (F0 m 2269 ls []) := by
  have hx := C.1.1
  have hb := C.1.2.1
  have hi3 : (Ln : Int) ≤ 3072 := by omega
  have hcs : cells ≤ 986 ∧ slots ≤ 148568 := by rcases hli.2.2.2.2.2.2 with ⟨-, h1, h2⟩ | ⟨-, h1, h2⟩ <;> omega
  obtain ⟨hB, hG, hKx, hM, hR, hE, hRo⟩ := id hli
  refine lv_aload_n hx hb dL_law_2269 rfl (lv_at hl 1 rfl) (hp_n (n := 2270) rfl ?_)
  refine l_arg (j := 1) (nj := 1) (q0 := 0) (q3 := 3) (pc' := 2275) C hB hX hbl hbA hl rfl rfl (by decide) hi hi2 hi3 dL_law_2270 dL_law_2271 rfl dL_law_2272 dL_law_2273 dL_law_2274 rfl rfl rfl rfl rfl (fun u1 eu1 => ?_)
  have hE0 := hE
  refine q_ci (pc' := 2278) hB (l_runV (As := [.int u1]) (rest := []) C hB (t_X11_out Γ l α hG x hKx u1) lb_X11_out lv_X11_out lk_L_239 hKx (Nat.le_of_ble_eq_true rfl) (Nat.le_of_ble_eq_true rfl) ⟨Nat.le_trans (Nat.add_le_add_right hcs.1 _) (Nat.le_of_ble_eq_true rfl), Nat.le_trans (Nat.add_le_add_right hcs.2 _) (Nat.le_of_ble_eq_true rfl)⟩ rfl hl.1 rfl (Nat.le_of_ble_eq_true rfl) dL_law_2275) (fun _ _ _ => trivial) rfl (fun r1 β H1 L1 p1 B1 => ?_)
  have hli1 := li_cw hli B1 p1 (by decide)
  refine lv_pop hx hb dL_law_2278 rfl (hp_n (n := 2279) rfl ?_)
  obtain ⟨hB, hG, hKx, hM, hR, hE, hRo⟩ := id hli1
  have hcs : cells + 0 ≤ 986 ∧ slots + 0 ≤ 148568 := by rcases hRo with ⟨-, h1, h2⟩ | ⟨-, h1, h2⟩ <;> omega
  refine lv_aload_n hx hb dL_law_2279 rfl (lv_at hl 2 rfl) (hp_n (n := 2280) rfl ?_)
  refine l_arg (j := 1) (nj := 1) (q0 := 0) (q3 := 3) (pc' := 2285) C hB hX hbl hbA hl rfl rfl (by decide) hi hi2 hi3 dL_law_2280 dL_law_2281 rfl dL_law_2282 dL_law_2283 dL_law_2284 rfl rfl rfl rfl rfl (fun w1 ew1 => ?_)
  rw [← eu1] at ew1; have ew1 := ew1.symm; subst ew1
  obtain ⟨⟨r2, τ⟩, hq, hp⟩ := ws_pr (ws_pr (s_out 70000 (by decide) σ hR u1) (z_X12_out kq_rf)) (x_X12_out kf_rf)
  refine q_ci (pc' := 2288) hB (l_runV (As := [.int u1]) (rest := []) C hB (m_X12_out 70000 Γ l _ y ρ σ hM u1 (r2, τ) hq) lb_X12_out lv_X12_out lk_L_242 hM.1 (Nat.le_of_ble_eq_true rfl) (Nat.le_of_ble_eq_true rfl) ⟨Nat.le_trans (Nat.add_le_add_right hcs.1 _) (Nat.le_of_ble_eq_true rfl), Nat.le_trans (Nat.add_le_add_right hcs.2 _) (Nat.le_of_ble_eq_true rfl)⟩ rfl hl.1 rfl (Nat.le_of_ble_eq_true rfl) dL_law_2285) (fun _ _ _ => trivial) rfl (fun r3 γ H2 L2 p2 B2 => ?_)
  have hli2 := li0_mo (li_0 hli1) B2 p2.2.1 p2.2.2 hp.1.1.1 (lxc_kq hli1.2.2.2.2.2.1 p2.2.1 hp.1.2 hp.2 hp.1.1.2 hp.1.1.1)
  refine lv_pop hx hb dL_law_2288 rfl (hp_n (n := 2289) rfl ?_)
  refine lv_goto (tgt := 2391) hx hb dL_law_2289 (by decide) ?_
  exact kk _ _ _ _ _ _ hli2
set_option maxRecDepth 100000 in
set_option maxHeartbeats 4000000 in
theorem lc_56 {p : Program} {l : Launch} {e : Env} {s : State} {m : MethodId} {below : List Frame} {meth : Method} {c : Code} {Γ : hp_G} {b Ln x y : Nat} {xs : Nat → Int32} {ρ : Nat → Nat} (C : hp_C Γ p m c cL_law 4 s #[Value.ref b] RL) (hX : va_X b Ln xs s s.heap) (hbl : b < s.heap.size) (hbA : ¬ hp_A Γ b) (hLn : Ln ≤ 3072) {α : hp_T} {σ : ms_T} {H : Heap} {L : List Loc} {cells slots : Nat} (hli : li Γ s x y ρ α σ H L cells slots) (i : Int32) (hi : 0 ≤ i.toInt) (hi2 : i.toInt + 6 ≤ (Ln : Int)) (ls : Array Slot) (hl : lv_has ls 4 [(0, .ref b), (1, .ref x), (2, .ref y), (3, .int i)]) (kk : ∀ (α : hp_T) (σ : ms_T) (H : Heap) (L : List Loc) (cells slots : Nat), li Γ s x y ρ α σ H L cells slots → W p l e room_1 s m #[Value.ref b] below meth c H L cells slots (lw_Z below #[Value.ref b] s) (F0 m 2391 ls [])) : W p l e room_1 s m #[Value.ref b] below meth c H L cells slots (lw_Z below #[Value.ref b] s) (F0 m 2292 ls []) := by
  have hx := C.1.1
  have hb := C.1.2.1
  have hi3 : (Ln : Int) ≤ 3072 := by omega
  have hcs : cells ≤ 986 ∧ slots ≤ 148568 := by rcases hli.2.2.2.2.2.2 with ⟨-, h1, h2⟩ | ⟨-, h1, h2⟩ <;> omega
  obtain ⟨hB, hG, hKx, hM, hR, hE, hRo⟩ := id hli
  refine lv_aload_n hx hb dL_law_2292 rfl (lv_at hl 1 rfl) (hp_n (n := 2293) rfl ?_)
  refine l_arg (j := 1) (nj := 1) (q0 := 0) (q3 := 3) (pc' := 2298) C hB hX hbl hbA hl rfl rfl (by decide) hi hi2 hi3 dL_law_2293 dL_law_2294 rfl dL_law_2295 dL_law_2296 dL_law_2297 rfl rfl rfl rfl rfl (fun u1 eu1 => ?_)
  refine l_arg (j := 2) (nj := 2) (q0 := 0) (q3 := 3) (pc' := 2303) C hB hX hbl hbA hl rfl rfl (by decide) hi hi2 hi3 dL_law_2298 dL_law_2299 rfl dL_law_2300 dL_law_2301 dL_law_2302 rfl rfl rfl rfl rfl (fun u2 eu2 => ?_)
  have hE0 := hE
  refine q_ci (pc' := 2306) hB (l_runV (As := [.int u1, .int u2]) (rest := []) C hB (t_X11_trusted Γ l α hG x hKx u1 u2) lb_X11_trusted lv_X11_trusted lk_L_243 hKx (Nat.le_of_ble_eq_true rfl) (Nat.le_of_ble_eq_true rfl) ⟨Nat.le_trans (Nat.add_le_add_right hcs.1 _) (Nat.le_of_ble_eq_true rfl), Nat.le_trans (Nat.add_le_add_right hcs.2 _) (Nat.le_of_ble_eq_true rfl)⟩ rfl hl.1 rfl (Nat.le_of_ble_eq_true rfl) dL_law_2303) (fun _ _ _ => trivial) rfl (fun r1 β H1 L1 p1 B1 => ?_)
  have hli1 := li_cw hli B1 p1 (by decide)
  refine lv_pop hx hb dL_law_2306 rfl (hp_n (n := 2307) rfl ?_)
  obtain ⟨hB, hG, hKx, hM, hR, hE, hRo⟩ := id hli1
  have hcs : cells + 0 ≤ 986 ∧ slots + 0 ≤ 148568 := by rcases hRo with ⟨-, h1, h2⟩ | ⟨-, h1, h2⟩ <;> omega
  refine lv_aload_n hx hb dL_law_2307 rfl (lv_at hl 2 rfl) (hp_n (n := 2308) rfl ?_)
  refine l_arg (j := 1) (nj := 1) (q0 := 0) (q3 := 3) (pc' := 2313) C hB hX hbl hbA hl rfl rfl (by decide) hi hi2 hi3 dL_law_2308 dL_law_2309 rfl dL_law_2310 dL_law_2311 dL_law_2312 rfl rfl rfl rfl rfl (fun w1 ew1 => ?_)
  refine l_arg (j := 2) (nj := 2) (q0 := 0) (q3 := 3) (pc' := 2318) C hB hX hbl hbA hl rfl rfl (by decide) hi hi2 hi3 dL_law_2313 dL_law_2314 rfl dL_law_2315 dL_law_2316 dL_law_2317 rfl rfl rfl rfl rfl (fun w2 ew2 => ?_)
  rw [← eu1] at ew1; have ew1 := ew1.symm; subst ew1
  rw [← eu2] at ew2; have ew2 := ew2.symm; subst ew2
  obtain ⟨⟨r2, τ⟩, hq, hp⟩ := ws_pr (ws_pr (s_trusted 70000 (by decide) σ hR u1 u2) (z_X12_trusted kq_rf)) (x_X12_trusted kf_rf)
  refine q_ci (pc' := 2321) hB (l_runV (As := [.int u1, .int u2]) (rest := []) C hB (m_X12_trusted 70000 Γ l _ y ρ σ hM u1 u2 (r2, τ) hq) lb_X12_trusted lv_X12_trusted lk_L_246 hM.1 (Nat.le_of_ble_eq_true rfl) (Nat.le_of_ble_eq_true rfl) ⟨Nat.le_trans (Nat.add_le_add_right hcs.1 _) (Nat.le_of_ble_eq_true rfl), Nat.le_trans (Nat.add_le_add_right hcs.2 _) (Nat.le_of_ble_eq_true rfl)⟩ rfl hl.1 rfl (Nat.le_of_ble_eq_true rfl) dL_law_2318) (fun _ _ _ => trivial) rfl (fun r3 γ H2 L2 p2 B2 => ?_)
  have hli2 := li0_mo (li_0 hli1) B2 p2.2.1 p2.2.2 hp.1.1.1 (lxc_kq hli1.2.2.2.2.2.1 p2.2.1 hp.1.2 hp.2 hp.1.1.2 hp.1.1.1)
  refine lv_pop hx hb dL_law_2321 rfl (hp_n (n := 2322) rfl ?_)
  refine lv_goto (tgt := 2391) hx hb dL_law_2322 (by decide) ?_
  exact kk _ _ _ _ _ _ hli2
set_option maxRecDepth 100000 in
set_option maxHeartbeats 4000000 in
theorem lc_57 {p : Program} {l : Launch} {e : Env} {s : State} {m : MethodId} {below : List Frame} {meth : Method} {c : Code} {Γ : hp_G} {b Ln x y : Nat} {xs : Nat → Int32} {ρ : Nat → Nat} (C : hp_C Γ p m c cL_law 4 s #[Value.ref b] RL) (hX : va_X b Ln xs s s.heap) (hbl : b < s.heap.size) (hbA : ¬ hp_A Γ b) (hLn : Ln ≤ 3072) {α : hp_T} {σ : ms_T} {H : Heap} {L : List Loc} {cells slots : Nat} (hli : li Γ s x y ρ α σ H L cells slots) (i : Int32) (hi : 0 ≤ i.toInt) (hi2 : i.toInt + 6 ≤ (Ln : Int)) (ls : Array Slot) (hl : lv_has ls 4 [(0, .ref b), (1, .ref x), (2, .ref y), (3, .int i)]) (kk : ∀ (α : hp_T) (σ : ms_T) (H : Heap) (L : List Loc) (cells slots : Nat), li Γ s x y ρ α σ H L cells slots → W p l e room_1 s m #[Value.ref b] below meth c H L cells slots (lw_Z below #[Value.ref b] s) (F0 m 2391 ls [])) : W p l e room_1 s m #[Value.ref b] below meth c H L cells slots (lw_Z below #[Value.ref b] s) (F0 m 2325 ls []) := by
  have hx := C.1.1
  have hb := C.1.2.1
  have hi3 : (Ln : Int) ≤ 3072 := by omega
  have hcs : cells ≤ 986 ∧ slots ≤ 148568 := by rcases hli.2.2.2.2.2.2 with ⟨-, h1, h2⟩ | ⟨-, h1, h2⟩ <;> omega
  obtain ⟨hB, hG, hKx, hM, hR, hE, hRo⟩ := id hli
  refine lv_aload_n hx hb dL_law_2325 rfl (lv_at hl 1 rfl) (hp_n (n := 2326) rfl ?_)
  refine l_arg (j := 1) (nj := 1) (q0 := 0) (q3 := 3) (pc' := 2331) C hB hX hbl hbA hl rfl rfl (by decide) hi hi2 hi3 dL_law_2326 dL_law_2327 rfl dL_law_2328 dL_law_2329 dL_law_2330 rfl rfl rfl rfl rfl (fun u1 eu1 => ?_)
  refine l_arg (j := 2) (nj := 2) (q0 := 0) (q3 := 3) (pc' := 2336) C hB hX hbl hbA hl rfl rfl (by decide) hi hi2 hi3 dL_law_2331 dL_law_2332 rfl dL_law_2333 dL_law_2334 dL_law_2335 rfl rfl rfl rfl rfl (fun u2 eu2 => ?_)
  have hE0 := hE
  refine q_ci (pc' := 2339) hB (l_runV (As := [.int u1, .int u2]) (rest := []) C hB (t_X11_saves Γ l α hG x hKx u1 u2) lb_X11_saves lv_X11_saves lk_L_247 hKx (Nat.le_of_ble_eq_true rfl) (Nat.le_of_ble_eq_true rfl) ⟨Nat.le_trans (Nat.add_le_add_right hcs.1 _) (Nat.le_of_ble_eq_true rfl), Nat.le_trans (Nat.add_le_add_right hcs.2 _) (Nat.le_of_ble_eq_true rfl)⟩ rfl hl.1 rfl (Nat.le_of_ble_eq_true rfl) dL_law_2336) (fun _ _ _ => trivial) rfl (fun r1 β H1 L1 p1 B1 => ?_)
  have hli1 := li_cw hli B1 p1 (by decide)
  refine lv_pop hx hb dL_law_2339 rfl (hp_n (n := 2340) rfl ?_)
  obtain ⟨hB, hG, hKx, hM, hR, hE, hRo⟩ := id hli1
  have hcs : cells + 0 ≤ 986 ∧ slots + 0 ≤ 148568 := by rcases hRo with ⟨-, h1, h2⟩ | ⟨-, h1, h2⟩ <;> omega
  refine lv_aload_n hx hb dL_law_2340 rfl (lv_at hl 2 rfl) (hp_n (n := 2341) rfl ?_)
  refine l_arg (j := 1) (nj := 1) (q0 := 0) (q3 := 3) (pc' := 2346) C hB hX hbl hbA hl rfl rfl (by decide) hi hi2 hi3 dL_law_2341 dL_law_2342 rfl dL_law_2343 dL_law_2344 dL_law_2345 rfl rfl rfl rfl rfl (fun w1 ew1 => ?_)
  refine l_arg (j := 2) (nj := 2) (q0 := 0) (q3 := 3) (pc' := 2351) C hB hX hbl hbA hl rfl rfl (by decide) hi hi2 hi3 dL_law_2346 dL_law_2347 rfl dL_law_2348 dL_law_2349 dL_law_2350 rfl rfl rfl rfl rfl (fun w2 ew2 => ?_)
  rw [← eu1] at ew1; have ew1 := ew1.symm; subst ew1
  rw [← eu2] at ew2; have ew2 := ew2.symm; subst ew2
  obtain ⟨⟨r2, τ⟩, hq, hp⟩ := ws_pr (ws_pr (s_saves 70000 (by decide) σ hR u1 u2) (z_X12_saves kq_rf)) (x_X12_saves kf_rf)
  refine q_ci (pc' := 2354) hB (l_runV (As := [.int u1, .int u2]) (rest := []) C hB (m_X12_saves 70000 Γ l _ y ρ σ hM u1 u2 (r2, τ) hq) lb_X12_saves lv_X12_saves lk_L_250 hM.1 (Nat.le_of_ble_eq_true rfl) (Nat.le_of_ble_eq_true rfl) ⟨Nat.le_trans (Nat.add_le_add_right hcs.1 _) (Nat.le_of_ble_eq_true rfl), Nat.le_trans (Nat.add_le_add_right hcs.2 _) (Nat.le_of_ble_eq_true rfl)⟩ rfl hl.1 rfl (Nat.le_of_ble_eq_true rfl) dL_law_2351) (fun _ _ _ => trivial) rfl (fun r3 γ H2 L2 p2 B2 => ?_)
  have hli2 := li0_mo (li_0 hli1) B2 p2.2.1 p2.2.2 hp.1.1.1 (lxc_kq hli1.2.2.2.2.2.1 p2.2.1 hp.1.2 hp.2 hp.1.1.2 hp.1.1.1)
  refine lv_pop hx hb dL_law_2354 rfl (hp_n (n := 2355) rfl ?_)
  refine lv_goto (tgt := 2391) hx hb dL_law_2355 (by decide) ?_
  exact kk _ _ _ _ _ _ hli2
set_option maxRecDepth 100000 in
set_option maxHeartbeats 4000000 in
theorem lc_58 {p : Program} {l : Launch} {e : Env} {s : State} {m : MethodId} {below : List Frame} {meth : Method} {c : Code} {Γ : hp_G} {b Ln x y : Nat} {xs : Nat → Int32} {ρ : Nat → Nat} (C : hp_C Γ p m c cL_law 4 s #[Value.ref b] RL) (hX : va_X b Ln xs s s.heap) (hbl : b < s.heap.size) (hbA : ¬ hp_A Γ b) (hLn : Ln ≤ 3072) {α : hp_T} {σ : ms_T} {H : Heap} {L : List Loc} {cells slots : Nat} (hli : li Γ s x y ρ α σ H L cells slots) (i : Int32) (hi : 0 ≤ i.toInt) (hi2 : i.toInt + 6 ≤ (Ln : Int)) (ls : Array Slot) (hl : lv_has ls 4 [(0, .ref b), (1, .ref x), (2, .ref y), (3, .int i)]) (kk : ∀ (α : hp_T) (σ : ms_T) (H : Heap) (L : List Loc) (cells slots : Nat), li Γ s x y ρ α σ H L cells slots → W p l e room_1 s m #[Value.ref b] below meth c H L cells slots (lw_Z below #[Value.ref b] s) (F0 m 2391 ls [])) : W p l e room_1 s m #[Value.ref b] below meth c H L cells slots (lw_Z below #[Value.ref b] s) (F0 m 2358 ls []) := by
  have hx := C.1.1
  have hb := C.1.2.1
  have hi3 : (Ln : Int) ≤ 3072 := by omega
  have hcs : cells ≤ 986 ∧ slots ≤ 148568 := by rcases hli.2.2.2.2.2.2 with ⟨-, h1, h2⟩ | ⟨-, h1, h2⟩ <;> omega
  obtain ⟨hB, hG, hKx, hM, hR, hE, hRo⟩ := id hli
  refine lv_aload_n hx hb dL_law_2358 rfl (lv_at hl 1 rfl) (hp_n (n := 2359) rfl ?_)
  refine l_arg (j := 1) (nj := 1) (q0 := 0) (q3 := 3) (pc' := 2364) C hB hX hbl hbA hl rfl rfl (by decide) hi hi2 hi3 dL_law_2359 dL_law_2360 rfl dL_law_2361 dL_law_2362 dL_law_2363 rfl rfl rfl rfl rfl (fun u1 eu1 => ?_)
  refine l_arg (j := 2) (nj := 2) (q0 := 0) (q3 := 3) (pc' := 2369) C hB hX hbl hbA hl rfl rfl (by decide) hi hi2 hi3 dL_law_2364 dL_law_2365 rfl dL_law_2366 dL_law_2367 dL_law_2368 rfl rfl rfl rfl rfl (fun u2 eu2 => ?_)
  have hE0 := hE
  refine q_ci (pc' := 2372) hB (l_runV (As := [.int u1, .int u2]) (rest := []) C hB (t_X11_who Γ l α hG x hKx u1 u2) lb_X11_who lv_X11_who lk_L_251 hKx (Nat.le_of_ble_eq_true rfl) (Nat.le_of_ble_eq_true rfl) ⟨Nat.le_trans (Nat.add_le_add_right hcs.1 _) (Nat.le_of_ble_eq_true rfl), Nat.le_trans (Nat.add_le_add_right hcs.2 _) (Nat.le_of_ble_eq_true rfl)⟩ rfl hl.1 rfl (Nat.le_of_ble_eq_true rfl) dL_law_2369) (fun _ _ _ => trivial) rfl (fun r1 β H1 L1 p1 B1 => ?_)
  have hli1 := li_cw hli B1 p1 (by decide)
  refine lv_pop hx hb dL_law_2372 rfl (hp_n (n := 2373) rfl ?_)
  obtain ⟨hB, hG, hKx, hM, hR, hE, hRo⟩ := id hli1
  have hcs : cells + 0 ≤ 986 ∧ slots + 0 ≤ 148568 := by rcases hRo with ⟨-, h1, h2⟩ | ⟨-, h1, h2⟩ <;> omega
  refine lv_aload_n hx hb dL_law_2373 rfl (lv_at hl 2 rfl) (hp_n (n := 2374) rfl ?_)
  refine l_arg (j := 1) (nj := 1) (q0 := 0) (q3 := 3) (pc' := 2379) C hB hX hbl hbA hl rfl rfl (by decide) hi hi2 hi3 dL_law_2374 dL_law_2375 rfl dL_law_2376 dL_law_2377 dL_law_2378 rfl rfl rfl rfl rfl (fun w1 ew1 => ?_)
  refine l_arg (j := 2) (nj := 2) (q0 := 0) (q3 := 3) (pc' := 2384) C hB hX hbl hbA hl rfl rfl (by decide) hi hi2 hi3 dL_law_2379 dL_law_2380 rfl dL_law_2381 dL_law_2382 dL_law_2383 rfl rfl rfl rfl rfl (fun w2 ew2 => ?_)
  rw [← eu1] at ew1; have ew1 := ew1.symm; subst ew1
  rw [← eu2] at ew2; have ew2 := ew2.symm; subst ew2
  obtain ⟨⟨r2, τ⟩, hq, hp⟩ := ws_pr (ws_pr (s_who 70000 (by decide) σ hR u1 u2) (z_X12_who kq_rf)) (x_X12_who kf_rf)
  refine q_ci (pc' := 2387) hB (l_runV (As := [.int u1, .int u2]) (rest := []) C hB (m_X12_who 70000 Γ l _ y ρ σ hM u1 u2 (r2, τ) hq) lb_X12_who lv_X12_who lk_L_254 hM.1 (Nat.le_of_ble_eq_true rfl) (Nat.le_of_ble_eq_true rfl) ⟨Nat.le_trans (Nat.add_le_add_right hcs.1 _) (Nat.le_of_ble_eq_true rfl), Nat.le_trans (Nat.add_le_add_right hcs.2 _) (Nat.le_of_ble_eq_true rfl)⟩ rfl hl.1 rfl (Nat.le_of_ble_eq_true rfl) dL_law_2384) (fun _ _ _ => trivial) rfl (fun r3 γ H2 L2 p2 B2 => ?_)
  have hli2 := li0_mo (li_0 hli1) B2 p2.2.1 p2.2.2 hp.1.1.1 (lxc_kq hli1.2.2.2.2.2.1 p2.2.1 hp.1.2 hp.2 hp.1.1.2 hp.1.1.1)
  refine lv_pop hx hb dL_law_2387 rfl (hp_n (n := 2388) rfl ?_)
  refine lv_goto (tgt := 2391) hx hb dL_law_2388 (by decide) ?_
  exact kk _ _ _ _ _ _ hli2
