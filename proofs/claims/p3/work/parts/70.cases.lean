theorem lx_cgN {w : cw_W} {α β : hp_T} {x : Nat} {σ : ms_T} (h : lx α x σ) (c : cg w α β) (hk : hp_K α x = 12) (hw : wok w = true) : lx β x σ := by
  have h2 : 605 ∉ w.1 := by
    simp only [wok, Bool.and_eq_true] at hw
    simpa using hw.2
  unfold lx
  rw [c.2.2.1 605 x (by rw [hk]; decide) h2]; exact h
theorem fd_lx {α β γ : hp_T} {x : Nat} {σ τ : ms_T} {r r2 : Int32} (hE : lx α x σ) (hc : fd_C (hp_I α 605 x) r (hp_I β 605 x)) (c : mo β γ) (hm : fd_M σ (r2, τ)) : lx γ x τ := by
  unfold lx at hE ⊢
  rw [c.2.2.2.2.2.1 605 (by decide)]
  rw [hE] at hc
  exact (fd_dd hc hm).2
theorem fd_eq {α β : hp_T} {x : Nat} {σ τ : ms_T} {r r2 r3 : Int32} (hE : lx α x σ) (hc : fd_C (hp_I α 605 x) r (hp_I β 605 x)) (h3 : r3 = r2) (hm : fd_M σ (r2, τ)) : r = r3 := by
  unfold lx at hE
  rw [hE] at hc
  rw [h3]
  exact (fd_dd hc hm).1
theorem ld_lx {α β γ : hp_T} {x : Nat} {σ τ : ms_T} {n : Int32} (hE : lx α x σ) (hc : ld_C (hp_I α 605 x) n (hp_I β 605 x)) (c : mo β γ) (hm : ld_M σ n τ) : lx γ x τ := by
  unfold lx at hE ⊢
  rw [c.2.2.2.2.2.1 605 (by decide)]
  rw [hE] at hc
  exact ld_dd hc hm
set_option maxRecDepth 100000 in
set_option maxHeartbeats 4000000 in
theorem lc_0 {p : Program} {l : Launch} {e : Env} {s : State} {m : MethodId} {below : List Frame} {meth : Method} {c : Code} {Γ : hp_G} {b Ln x y : Nat} {xs : Nat → Int32} {ρ : Nat → Nat} (C : hp_C Γ p m c cL_law 4 s #[Value.ref b] RL) (hX : va_X b Ln xs s s.heap) (hbl : b < s.heap.size) (hbA : ¬ hp_A Γ b) (hLn : Ln ≤ 3072) {α : hp_T} {σ : ms_T} {H : Heap} {L : List Loc} {cells slots : Nat} (hli : li Γ s x y ρ α σ H L cells slots) (i : Int32) (hi : 0 ≤ i.toInt) (hi2 : i.toInt + 6 ≤ (Ln : Int)) (ls : Array Slot) (hl : lv_has ls 4 [(0, .ref b), (1, .ref x), (2, .ref y), (3, .int i)]) (kk : ∀ (α : hp_T) (σ : ms_T) (H : Heap) (L : List Loc) (cells slots : Nat), li Γ s x y ρ α σ H L cells slots → W p l e room_1 s m #[Value.ref b] below meth c H L cells slots (lw_Z below #[Value.ref b] s) (F0 m 2391 ls [])) : W p l e room_1 s m #[Value.ref b] below meth c H L cells slots (lw_Z below #[Value.ref b] s) (F0 m 284 ls []) := by
  have hx := C.1.1
  have hb := C.1.2.1
  have hi3 : (Ln : Int) ≤ 3072 := by omega
  have hcs : cells ≤ 986 ∧ slots ≤ 148568 := by rcases hli.2.2.2.2.2.2 with ⟨-, h1, h2⟩ | ⟨-, h1, h2⟩ <;> omega
  obtain ⟨hB, hG, hKx, hM, hR, hE, hRo⟩ := id hli
  refine lv_aload_n hx hb dL_law_284 rfl (lv_at hl 1 rfl) (hp_n (n := 285) rfl ?_)
  refine q_ci (pc' := 288) hB (l_runV (As := []) (rest := []) C hB (t_X11_status Γ l α hG x hKx ) lb_X11_status lv_X11_status lk_L_13 hKx (Nat.le_of_ble_eq_true rfl) (Nat.le_of_ble_eq_true rfl) ⟨Nat.le_trans (Nat.add_le_add_right hcs.1 _) (Nat.le_of_ble_eq_true rfl), Nat.le_trans (Nat.add_le_add_right hcs.2 _) (Nat.le_of_ble_eq_true rfl)⟩ rfl hl.1 rfl (Nat.le_of_ble_eq_true rfl) dL_law_285) (fun _ _ _ => trivial) rfl (fun r1 β H1 L1 p1 B1 => ?_)
  have hli1 := li_eq hli B1 p1
  refine lv_pop hx hb dL_law_288 rfl (hp_n (n := 289) rfl ?_)
  obtain ⟨hB, hG, hKx, hM, hR, hE, hRo⟩ := id hli1
  have hcs : cells + 0 ≤ 986 ∧ slots + 0 ≤ 148568 := by rcases hRo with ⟨-, h1, h2⟩ | ⟨-, h1, h2⟩ <;> omega
  refine lv_aload_n hx hb dL_law_289 rfl (lv_at hl 2 rfl) (hp_n (n := 290) rfl ?_)
  obtain ⟨⟨r2, τ⟩, hq, hp⟩ := s_status 70000 (by decide) σ hR 
  refine q_ci (pc' := 293) hB (l_runV (As := []) (rest := []) C hB (m_X12_status 70000 Γ l _ y ρ σ hM  (r2, τ) hq) lb_X12_status lv_X12_status lk_L_17 hM.1 (Nat.le_of_ble_eq_true rfl) (Nat.le_of_ble_eq_true rfl) ⟨Nat.le_trans (Nat.add_le_add_right hcs.1 _) (Nat.le_of_ble_eq_true rfl), Nat.le_trans (Nat.add_le_add_right hcs.2 _) (Nat.le_of_ble_eq_true rfl)⟩ rfl hl.1 rfl (Nat.le_of_ble_eq_true rfl) dL_law_290) (fun _ _ _ => trivial) rfl (fun r3 γ H2 L2 p2 B2 => ?_)
  have hli2 := li_mo hli1 B2 p2.2.1 p2.2.2 hp.1 hp.2
  refine lv_pop hx hb dL_law_293 rfl (hp_n (n := 294) rfl ?_)
  refine lv_goto (tgt := 2391) hx hb dL_law_294 (by decide) ?_
  exact kk _ _ _ _ _ _ hli2
set_option maxRecDepth 100000 in
set_option maxHeartbeats 4000000 in
theorem lc_1 {p : Program} {l : Launch} {e : Env} {s : State} {m : MethodId} {below : List Frame} {meth : Method} {c : Code} {Γ : hp_G} {b Ln x y : Nat} {xs : Nat → Int32} {ρ : Nat → Nat} (C : hp_C Γ p m c cL_law 4 s #[Value.ref b] RL) (hX : va_X b Ln xs s s.heap) (hbl : b < s.heap.size) (hbA : ¬ hp_A Γ b) (hLn : Ln ≤ 3072) {α : hp_T} {σ : ms_T} {H : Heap} {L : List Loc} {cells slots : Nat} (hli : li Γ s x y ρ α σ H L cells slots) (i : Int32) (hi : 0 ≤ i.toInt) (hi2 : i.toInt + 6 ≤ (Ln : Int)) (ls : Array Slot) (hl : lv_has ls 4 [(0, .ref b), (1, .ref x), (2, .ref y), (3, .int i)]) (kk : ∀ (α : hp_T) (σ : ms_T) (H : Heap) (L : List Loc) (cells slots : Nat), li Γ s x y ρ α σ H L cells slots → W p l e room_1 s m #[Value.ref b] below meth c H L cells slots (lw_Z below #[Value.ref b] s) (F0 m 2391 ls [])) : W p l e room_1 s m #[Value.ref b] below meth c H L cells slots (lw_Z below #[Value.ref b] s) (F0 m 297 ls []) := by
  have hx := C.1.1
  have hb := C.1.2.1
  have hi3 : (Ln : Int) ≤ 3072 := by omega
  have hcs : cells ≤ 986 ∧ slots ≤ 148568 := by rcases hli.2.2.2.2.2.2 with ⟨-, h1, h2⟩ | ⟨-, h1, h2⟩ <;> omega
  obtain ⟨hB, hG, hKx, hM, hR, hE, hRo⟩ := id hli
  refine lv_aload_n hx hb dL_law_297 rfl (lv_at hl 1 rfl) (hp_n (n := 298) rfl ?_)
  refine l_arg (j := 1) (nj := 1) (q0 := 0) (q3 := 3) (pc' := 303) C hB hX hbl hbA hl rfl rfl (by decide) hi hi2 hi3 dL_law_298 dL_law_299 rfl dL_law_300 dL_law_301 dL_law_302 rfl rfl rfl rfl rfl (fun u1 eu1 => ?_)
  refine l_arg (j := 2) (nj := 2) (q0 := 0) (q3 := 3) (pc' := 308) C hB hX hbl hbA hl rfl rfl (by decide) hi hi2 hi3 dL_law_303 dL_law_304 rfl dL_law_305 dL_law_306 dL_law_307 rfl rfl rfl rfl rfl (fun u2 eu2 => ?_)
  refine l_arg (j := 3) (nj := 3) (q0 := 0) (q3 := 3) (pc' := 313) C hB hX hbl hbA hl rfl rfl (by decide) hi hi2 hi3 dL_law_308 dL_law_309 rfl dL_law_310 dL_law_311 dL_law_312 rfl rfl rfl rfl rfl (fun u3 eu3 => ?_)
  refine l_arg (j := 4) (nj := 4) (q0 := 0) (q3 := 3) (pc' := 318) C hB hX hbl hbA hl rfl rfl (by decide) hi hi2 hi3 dL_law_313 dL_law_314 rfl dL_law_315 dL_law_316 dL_law_317 rfl rfl rfl rfl rfl (fun u4 eu4 => ?_)
  refine l_arg (j := 5) (nj := 5) (q0 := 0) (q3 := 3) (pc' := 323) C hB hX hbl hbA hl rfl rfl (by decide) hi hi2 hi3 dL_law_318 dL_law_319 rfl dL_law_320 dL_law_321 dL_law_322 rfl rfl rfl rfl rfl (fun u5 eu5 => ?_)
  refine q_ci (pc' := 326) hB (l_runV (As := [.int u1, .int u2, .int u3, .int u4, .int u5]) (rest := []) C hB (t_X11_feed_F Γ l α hG x hKx u1 u2 u3 u4 u5 (by rw [hE]; exact hR.1.2.1.1) (by rw [hE]; exact hR.1.2.1.2)) lb_X11_feed lv_X11_feed lk_L_18 hKx (Nat.le_of_ble_eq_true rfl) (Nat.le_of_ble_eq_true rfl) ⟨Nat.le_trans (Nat.add_le_add_right hcs.1 _) (Nat.le_of_ble_eq_true rfl), Nat.le_trans (Nat.add_le_add_right hcs.2 _) (Nat.le_of_ble_eq_true rfl)⟩ rfl hl.1 rfl (Nat.le_of_ble_eq_true rfl) dL_law_323) (fun _ _ _ => trivial) rfl (fun r1 β H1 L1 p1 B1 => ?_)
  have hli1 := li0_cw hli B1 p1.1 (by decide)
  obtain ⟨hB, hG, hKx, hM, hR, hE, hRo⟩ := id hli1
  have hcs : cells + 0 ≤ 986 ∧ slots + 0 ≤ 148568 := by rcases hRo with ⟨-, h1, h2⟩ | ⟨-, h1, h2⟩ <;> omega
  refine lv_aload_n hx hb dL_law_326 rfl (lv_at hl 2 rfl) (hp_n (n := 327) rfl ?_)
  refine l_arg (j := 1) (nj := 1) (q0 := 0) (q3 := 3) (pc' := 332) C hB hX hbl hbA hl rfl rfl (by decide) hi hi2 hi3 dL_law_327 dL_law_328 rfl dL_law_329 dL_law_330 dL_law_331 rfl rfl rfl rfl rfl (fun w1 ew1 => ?_)
  refine l_arg (j := 2) (nj := 2) (q0 := 0) (q3 := 3) (pc' := 337) C hB hX hbl hbA hl rfl rfl (by decide) hi hi2 hi3 dL_law_332 dL_law_333 rfl dL_law_334 dL_law_335 dL_law_336 rfl rfl rfl rfl rfl (fun w2 ew2 => ?_)
  refine l_arg (j := 3) (nj := 3) (q0 := 0) (q3 := 3) (pc' := 342) C hB hX hbl hbA hl rfl rfl (by decide) hi hi2 hi3 dL_law_337 dL_law_338 rfl dL_law_339 dL_law_340 dL_law_341 rfl rfl rfl rfl rfl (fun w3 ew3 => ?_)
  refine l_arg (j := 4) (nj := 4) (q0 := 0) (q3 := 3) (pc' := 347) C hB hX hbl hbA hl rfl rfl (by decide) hi hi2 hi3 dL_law_342 dL_law_343 rfl dL_law_344 dL_law_345 dL_law_346 rfl rfl rfl rfl rfl (fun w4 ew4 => ?_)
  refine l_arg (j := 5) (nj := 5) (q0 := 0) (q3 := 3) (pc' := 352) C hB hX hbl hbA hl rfl rfl (by decide) hi hi2 hi3 dL_law_347 dL_law_348 rfl dL_law_349 dL_law_350 dL_law_351 rfl rfl rfl rfl rfl (fun w5 ew5 => ?_)
  rw [← eu1] at ew1; have ew1 := ew1.symm; subst ew1
  rw [← eu2] at ew2; have ew2 := ew2.symm; subst ew2
  rw [← eu3] at ew3; have ew3 := ew3.symm; subst ew3
  rw [← eu4] at ew4; have ew4 := ew4.symm; subst ew4
  rw [← eu5] at ew5; have ew5 := ew5.symm; subst ew5
  obtain ⟨⟨r2, τ⟩, hq, hp⟩ := s_feed 70000 (by decide) σ hR u1 u2 u3 u4 u5
  refine q_ci (pc' := 355) hB (l_runV (As := [.int u1, .int u2, .int u3, .int u4, .int u5]) (rest := [.int r1]) C hB (m_X12_feed 70000 Γ l _ y ρ σ hM u1 u2 u3 u4 u5 (r2, τ) hq) lb_X12_feed lv_X12_feed lk_L_22 hM.1 (Nat.le_of_ble_eq_true rfl) (Nat.le_of_ble_eq_true rfl) ⟨Nat.le_trans (Nat.add_le_add_right hcs.1 _) (Nat.le_of_ble_eq_true rfl), Nat.le_trans (Nat.add_le_add_right hcs.2 _) (Nat.le_of_ble_eq_true rfl)⟩ rfl hl.1 rfl (Nat.le_of_ble_eq_true rfl) dL_law_352) (fun _ _ _ => trivial) rfl (fun r3 γ H2 L2 p2 B2 => ?_)
  have hli2 := li0_mo hli1 B2 p2.2.1 p2.2.2 hp.1 (fd_lx hli.2.2.2.2.2.1 p1.2 p2.2.1 hp.2)
  refine lv_icmp_eq (tgt := 2391) hx hb dL_law_355 (by decide) (fun cq => ?_) (fun cq => ?_)
  · exact kk _ _ _ _ _ _ hli2
  · exact absurd (fd_eq hli.2.2.2.2.2.1 p1.2 p2.1 hp.2) cq
set_option maxRecDepth 100000 in
set_option maxHeartbeats 4000000 in
theorem lc_2 {p : Program} {l : Launch} {e : Env} {s : State} {m : MethodId} {below : List Frame} {meth : Method} {c : Code} {Γ : hp_G} {b Ln x y : Nat} {xs : Nat → Int32} {ρ : Nat → Nat} (C : hp_C Γ p m c cL_law 4 s #[Value.ref b] RL) (hX : va_X b Ln xs s s.heap) (hbl : b < s.heap.size) (hbA : ¬ hp_A Γ b) (hLn : Ln ≤ 3072) {α : hp_T} {σ : ms_T} {H : Heap} {L : List Loc} {cells slots : Nat} (hli : li Γ s x y ρ α σ H L cells slots) (i : Int32) (hi : 0 ≤ i.toInt) (hi2 : i.toInt + 6 ≤ (Ln : Int)) (ls : Array Slot) (hl : lv_has ls 4 [(0, .ref b), (1, .ref x), (2, .ref y), (3, .int i)]) (kk : ∀ (α : hp_T) (σ : ms_T) (H : Heap) (L : List Loc) (cells slots : Nat), li Γ s x y ρ α σ H L cells slots → W p l e room_1 s m #[Value.ref b] below meth c H L cells slots (lw_Z below #[Value.ref b] s) (F0 m 2391 ls [])) : W p l e room_1 s m #[Value.ref b] below meth c H L cells slots (lw_Z below #[Value.ref b] s) (F0 m 360 ls []) := by
  have hx := C.1.1
  have hb := C.1.2.1
  have hi3 : (Ln : Int) ≤ 3072 := by omega
  have hcs : cells ≤ 986 ∧ slots ≤ 148568 := by rcases hli.2.2.2.2.2.2 with ⟨-, h1, h2⟩ | ⟨-, h1, h2⟩ <;> omega
  obtain ⟨hB, hG, hKx, hM, hR, hE, hRo⟩ := id hli
  refine lv_aload_n hx hb dL_law_360 rfl (lv_at hl 1 rfl) (hp_n (n := 361) rfl ?_)
  refine l_arg (j := 1) (nj := 1) (q0 := 0) (q3 := 3) (pc' := 366) C hB hX hbl hbA hl rfl rfl (by decide) hi hi2 hi3 dL_law_361 dL_law_362 rfl dL_law_363 dL_law_364 dL_law_365 rfl rfl rfl rfl rfl (fun u1 eu1 => ?_)
  refine q_ci (pc' := 369) hB (l_runV (As := [.int u1]) (rest := []) C hB (t_X11_load_F Γ l α hG x hKx u1) lb_X11_load lv_X11_load lk_L_23 hKx (Nat.le_of_ble_eq_true rfl) (Nat.le_of_ble_eq_true rfl) ⟨Nat.le_trans (Nat.add_le_add_right hcs.1 _) (Nat.le_of_ble_eq_true rfl), Nat.le_trans (Nat.add_le_add_right hcs.2 _) (Nat.le_of_ble_eq_true rfl)⟩ rfl hl.1 rfl (Nat.le_of_ble_eq_true rfl) dL_law_366) (fun _ _ _ => trivial) rfl (fun r1 β H1 L1 p1 B1 => ?_)
  have hli1 := li0_cw hli B1 p1.1 (by decide)
  refine lv_pop hx hb dL_law_369 rfl (hp_n (n := 370) rfl ?_)
  obtain ⟨hB, hG, hKx, hM, hR, hE, hRo⟩ := id hli1
  have hcs : cells + 0 ≤ 986 ∧ slots + 0 ≤ 148568 := by rcases hRo with ⟨-, h1, h2⟩ | ⟨-, h1, h2⟩ <;> omega
  refine lv_aload_n hx hb dL_law_370 rfl (lv_at hl 2 rfl) (hp_n (n := 371) rfl ?_)
  refine l_arg (j := 1) (nj := 1) (q0 := 0) (q3 := 3) (pc' := 376) C hB hX hbl hbA hl rfl rfl (by decide) hi hi2 hi3 dL_law_371 dL_law_372 rfl dL_law_373 dL_law_374 dL_law_375 rfl rfl rfl rfl rfl (fun w1 ew1 => ?_)
  rw [← eu1] at ew1; have ew1 := ew1.symm; subst ew1
  obtain ⟨⟨r2, τ⟩, hq, hp⟩ := s_load 70000 (by decide) σ hR u1
  refine q_ci (pc' := 379) hB (l_runV (As := [.int u1]) (rest := []) C hB (m_X12_load 70000 Γ l _ y ρ σ hM u1 (r2, τ) hq) lb_X12_load lv_X12_load lk_L_27 hM.1 (Nat.le_of_ble_eq_true rfl) (Nat.le_of_ble_eq_true rfl) ⟨Nat.le_trans (Nat.add_le_add_right hcs.1 _) (Nat.le_of_ble_eq_true rfl), Nat.le_trans (Nat.add_le_add_right hcs.2 _) (Nat.le_of_ble_eq_true rfl)⟩ rfl hl.1 rfl (Nat.le_of_ble_eq_true rfl) dL_law_376) (fun _ _ _ => trivial) rfl (fun r3 γ H2 L2 p2 B2 => ?_)
  have hli2 := li0_mo hli1 B2 p2.2.1 p2.2.2 hp.1 (ld_lx hli.2.2.2.2.2.1 p1.2 p2.2.1 hp.2)
  refine lv_pop hx hb dL_law_379 rfl (hp_n (n := 380) rfl ?_)
  refine lv_goto (tgt := 2391) hx hb dL_law_380 (by decide) ?_
  exact kk _ _ _ _ _ _ hli2
set_option maxRecDepth 100000 in
set_option maxHeartbeats 4000000 in
theorem lc_44 {p : Program} {l : Launch} {e : Env} {s : State} {m : MethodId} {below : List Frame} {meth : Method} {c : Code} {Γ : hp_G} {b Ln x y : Nat} {xs : Nat → Int32} {ρ : Nat → Nat} (C : hp_C Γ p m c cL_law 4 s #[Value.ref b] RL) (hX : va_X b Ln xs s s.heap) (hbl : b < s.heap.size) (hbA : ¬ hp_A Γ b) (hLn : Ln ≤ 3072) {α : hp_T} {σ : ms_T} {H : Heap} {L : List Loc} {cells slots : Nat} (hli : li Γ s x y ρ α σ H L cells slots) (i : Int32) (hi : 0 ≤ i.toInt) (hi2 : i.toInt + 6 ≤ (Ln : Int)) (ls : Array Slot) (hl : lv_has ls 4 [(0, .ref b), (1, .ref x), (2, .ref y), (3, .int i)]) (kk : ∀ (α : hp_T) (σ : ms_T) (H : Heap) (L : List Loc) (cells slots : Nat), li Γ s x y ρ α σ H L cells slots → W p l e room_1 s m #[Value.ref b] below meth c H L cells slots (lw_Z below #[Value.ref b] s) (F0 m 2391 ls [])) : W p l e room_1 s m #[Value.ref b] below meth c H L cells slots (lw_Z below #[Value.ref b] s) (F0 m 1776 ls []) := by
  have hx := C.1.1
  have hb := C.1.2.1
  have hi3 : (Ln : Int) ≤ 3072 := by omega
  have hcs : cells ≤ 986 ∧ slots ≤ 148568 := by rcases hli.2.2.2.2.2.2 with ⟨-, h1, h2⟩ | ⟨-, h1, h2⟩ <;> omega
  obtain ⟨hB, hG, hKx, hM, hR, hE, hRo⟩ := id hli
  refine lv_aload_n hx hb dL_law_1776 rfl (lv_at hl 1 rfl) (hp_n (n := 1777) rfl ?_)
  refine l_arg (j := 1) (nj := 1) (q0 := 0) (q3 := 3) (pc' := 1782) C hB hX hbl hbA hl rfl rfl (by decide) hi hi2 hi3 dL_law_1777 dL_law_1778 rfl dL_law_1779 dL_law_1780 dL_law_1781 rfl rfl rfl rfl rfl (fun u1 eu1 => ?_)
  refine l_arg (j := 2) (nj := 2) (q0 := 0) (q3 := 3) (pc' := 1787) C hB hX hbl hbA hl rfl rfl (by decide) hi hi2 hi3 dL_law_1782 dL_law_1783 rfl dL_law_1784 dL_law_1785 dL_law_1786 rfl rfl rfl rfl rfl (fun u2 eu2 => ?_)
  refine l_arg (j := 3) (nj := 3) (q0 := 0) (q3 := 3) (pc' := 1792) C hB hX hbl hbA hl rfl rfl (by decide) hi hi2 hi3 dL_law_1787 dL_law_1788 rfl dL_law_1789 dL_law_1790 dL_law_1791 rfl rfl rfl rfl rfl (fun u3 eu3 => ?_)
  refine l_arg (j := 4) (nj := 4) (q0 := 0) (q3 := 3) (pc' := 1797) C hB hX hbl hbA hl rfl rfl (by decide) hi hi2 hi3 dL_law_1792 dL_law_1793 rfl dL_law_1794 dL_law_1795 dL_law_1796 rfl rfl rfl rfl rfl (fun u4 eu4 => ?_)
  refine l_arg (j := 5) (nj := 5) (q0 := 0) (q3 := 3) (pc' := 1802) C hB hX hbl hbA hl rfl rfl (by decide) hi hi2 hi3 dL_law_1797 dL_law_1798 rfl dL_law_1799 dL_law_1800 dL_law_1801 rfl rfl rfl rfl rfl (fun u5 eu5 => ?_)
  refine q_ci (pc' := 1805) hB (l_runV (As := [.int u1, .int u2, .int u3, .int u4, .int u5]) (rest := []) C hB (t_X11_clash Γ l α hG x hKx u1 u2 u3 u4 u5) lb_X11_clash lv_X11_clash lk_L_195 hKx (Nat.le_of_ble_eq_true rfl) (Nat.le_of_ble_eq_true rfl) ⟨Nat.le_trans (Nat.add_le_add_right hcs.1 _) (Nat.le_of_ble_eq_true rfl), Nat.le_trans (Nat.add_le_add_right hcs.2 _) (Nat.le_of_ble_eq_true rfl)⟩ rfl hl.1 rfl (Nat.le_of_ble_eq_true rfl) dL_law_1802) (fun _ _ _ => trivial) rfl (fun r1 β H1 L1 p1 B1 => ?_)
  have hli1 := li_cw hli B1 p1 (by decide)
  refine lv_pop hx hb dL_law_1805 rfl (hp_n (n := 1806) rfl ?_)
  obtain ⟨hB, hG, hKx, hM, hR, hE, hRo⟩ := id hli1
  have hcs : cells + 0 ≤ 986 ∧ slots + 0 ≤ 148568 := by rcases hRo with ⟨-, h1, h2⟩ | ⟨-, h1, h2⟩ <;> omega
  refine lv_aload_n hx hb dL_law_1806 rfl (lv_at hl 2 rfl) (hp_n (n := 1807) rfl ?_)
  refine l_arg (j := 1) (nj := 1) (q0 := 0) (q3 := 3) (pc' := 1812) C hB hX hbl hbA hl rfl rfl (by decide) hi hi2 hi3 dL_law_1807 dL_law_1808 rfl dL_law_1809 dL_law_1810 dL_law_1811 rfl rfl rfl rfl rfl (fun w1 ew1 => ?_)
  refine l_arg (j := 2) (nj := 2) (q0 := 0) (q3 := 3) (pc' := 1817) C hB hX hbl hbA hl rfl rfl (by decide) hi hi2 hi3 dL_law_1812 dL_law_1813 rfl dL_law_1814 dL_law_1815 dL_law_1816 rfl rfl rfl rfl rfl (fun w2 ew2 => ?_)
  refine l_arg (j := 3) (nj := 3) (q0 := 0) (q3 := 3) (pc' := 1822) C hB hX hbl hbA hl rfl rfl (by decide) hi hi2 hi3 dL_law_1817 dL_law_1818 rfl dL_law_1819 dL_law_1820 dL_law_1821 rfl rfl rfl rfl rfl (fun w3 ew3 => ?_)
  refine l_arg (j := 4) (nj := 4) (q0 := 0) (q3 := 3) (pc' := 1827) C hB hX hbl hbA hl rfl rfl (by decide) hi hi2 hi3 dL_law_1822 dL_law_1823 rfl dL_law_1824 dL_law_1825 dL_law_1826 rfl rfl rfl rfl rfl (fun w4 ew4 => ?_)
  refine l_arg (j := 5) (nj := 5) (q0 := 0) (q3 := 3) (pc' := 1832) C hB hX hbl hbA hl rfl rfl (by decide) hi hi2 hi3 dL_law_1827 dL_law_1828 rfl dL_law_1829 dL_law_1830 dL_law_1831 rfl rfl rfl rfl rfl (fun w5 ew5 => ?_)
  rw [← eu1] at ew1; have ew1 := ew1.symm; subst ew1
  rw [← eu2] at ew2; have ew2 := ew2.symm; subst ew2
  rw [← eu3] at ew3; have ew3 := ew3.symm; subst ew3
  rw [← eu4] at ew4; have ew4 := ew4.symm; subst ew4
  rw [← eu5] at ew5; have ew5 := ew5.symm; subst ew5
  obtain ⟨⟨r2, τ⟩, hq, hp⟩ := s_clash 70000 (by decide) σ hR u1 u2 u3 u4 u5
  refine q_ci (pc' := 1835) hB (l_runV (As := [.int u1, .int u2, .int u3, .int u4, .int u5]) (rest := []) C hB (m_X12_clash 70000 Γ l _ y ρ σ hM u1 u2 u3 u4 u5 (r2, τ) hq) lb_X12_clash lv_X12_clash lk_L_198 hM.1 (Nat.le_of_ble_eq_true rfl) (Nat.le_of_ble_eq_true rfl) ⟨Nat.le_trans (Nat.add_le_add_right hcs.1 _) (Nat.le_of_ble_eq_true rfl), Nat.le_trans (Nat.add_le_add_right hcs.2 _) (Nat.le_of_ble_eq_true rfl)⟩ rfl hl.1 rfl (Nat.le_of_ble_eq_true rfl) dL_law_1832) (fun _ _ _ => trivial) rfl (fun r3 γ H2 L2 p2 B2 => ?_)
  have hli2 := li_mo hli1 B2 p2.2.1 p2.2.2 hp.1 hp.2
  refine lv_pop hx hb dL_law_1835 rfl (hp_n (n := 1836) rfl ?_)
  refine lv_goto (tgt := 2391) hx hb dL_law_1836 (by decide) ?_
  exact kk _ _ _ _ _ _ hli2
