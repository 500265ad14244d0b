/-! ===== the law's loop: what it keeps ===== -/
def wok0 (w : cw_W) : Bool := w.1.all (fun q => q < 650) && w.2.1.all (fun q => q < 650) && w.2.2.1.all (fun q => q < 40) && w.2.2.2.isEmpty
theorem wok_nin {w : cw_W} (h : wok0 w = true) : (∀ φ, 650 ≤ φ → φ ∉ w.1) ∧ (∀ φ, 650 ≤ φ → φ ∉ w.2.1) ∧ (∀ κ, 40 ≤ κ → κ ∉ w.2.2.1) ∧ (∀ φ, φ ∉ w.2.2.2) := by
  simp only [wok0, Bool.and_eq_true, List.all_eq_true, decide_eq_true_eq] at h
  obtain ⟨⟨⟨h1, h2⟩, h3⟩, h4⟩ := h
  refine ⟨fun φ hφ q => ?_, fun φ hφ q => ?_, fun κ hκ q => ?_, fun φ q => ?_⟩
  · have := h1 φ q; omega
  · have := h2 φ q; omega
  · have := h3 κ q; omega
  · rw [List.isEmpty_iff.mp h4] at q; cases q
theorem hm_cg {w : cw_W} {α β : hp_T} {a : Nat} {ρ : Nat → Nat} {σ : ms_T} (h : hm_M α a ρ σ) (c : cg w α β) (hw : wok0 w = true) : hm_M β a ρ σ := by
  obtain ⟨h1, h2, h3, h4, h5, h6⟩ := h
  obtain ⟨c0, c1, c2, c3, c4, c5, c6, -⟩ := c
  obtain ⟨n1, n2, n3, n4⟩ := wok_nin hw
  have ha : hp_K α a ≠ 0 := by rw [h1]; decide
  have hk : ∀ q ∈ ms_mf, hp_K α (ρ q.1) ≠ 0 := fun q hq => by
    rw [(h2 q hq).2]
    have := ms_mf40 q hq
    omega
  have mfφ : ∀ q ∈ ms_mf, 650 ≤ q.2 := by decide
  refine ⟨(c1 a ha).trans h1, fun q hq => ⟨(c3 q.2 a ha (n2 _ (mfφ q hq))).trans (h2 q hq).1, (c1 _ (hk q hq)).trans (h2 q hq).2⟩, fun φ hφ => (c2 φ a ha (n1 φ hφ)).trans (h3 φ hφ), fun κ j hκ hκ2 => ?_, (c6 677 a ha (n4 _)).trans h5, fun j hj => (c5 48 _ j (hk (48, 678) (by decide))).trans (h6 j hj)⟩
  have hin : ∃ q ∈ ms_mf, q.1 = κ := by
    have : ∀ κ, κ < 60 → 40 ≤ κ → ∃ q ∈ ms_mf, q.1 = κ := by decide
    exact this κ hκ2 hκ
  obtain ⟨q, hq, rfl⟩ := hin
  exact (c4 _ _ j (hk q hq) (n3 _ hκ)).trans (h4 _ j hκ hκ2)
def wok (w : cw_W) : Bool := wok0 w && wlx w && wcx w
theorem wok_0 {w : cw_W} (h : wok w = true) : wok0 w = true := by
  simp only [wok, Bool.and_eq_true] at h
  exact h.1.1
theorem wok_x {w : cw_W} (h : wok w = true) : wlx w = true := by
  simp only [wok, Bool.and_eq_true] at h
  exact h.1.2
theorem wok_c {w : cw_W} (h : wok w = true) : wcx w = true := by
  simp only [wok, Bool.and_eq_true] at h
  exact h.2
def lx (α : hp_T) (x : Nat) (σ : ms_T) : Prop := LX α x σ ∧ CX α x σ
theorem lx_cw {w : cw_W} {α β : hp_T} {x : Nat} {σ : ms_T} (h : lx α x σ) (c : cw w α β) (hw : wok w = true) : lx β x σ := ⟨LX_cw h.1 c (wok_x hw), CX_cw h.2 c (wok_c hw)⟩
theorem lxc_kq {α β : hp_T} {x : Nat} {σ τ : ms_T} (h : lx α x σ) (c : mo α β) (k : kq σ τ) (f : kf σ τ) (e7 : ms_I τ 667 = ms_I σ 667) (hR : RI τ) : lx β x τ := ⟨lx_kq h.1 c k e7 hR, CX_k h.2 c f⟩
def li (Γ : hp_G) (s : State) (x y : Nat) (ρ : Nat → Nat) (α : hp_T) (σ : ms_T) (H : Heap) (L : List Loc) (cells slots : Nat) : Prop := hp_B Γ (fun _ _ => True) s α α H L ∧ GC α ∧ hp_K α x = 12 ∧ hm_M α y ρ σ ∧ RI σ ∧ lx α x σ ∧ ((hp_N α 618 x = none ∧ cells = 977 ∧ slots = 17252) ∨ (hp_N α 618 x ≠ none ∧ cells = 986 ∧ slots = 148568))
def li0 (Γ : hp_G) (s : State) (x y : Nat) (ρ : Nat → Nat) (α : hp_T) (σ : ms_T) (H : Heap) (L : List Loc) (cells slots : Nat) : Prop := hp_B Γ (fun _ _ => True) s α α H L ∧ GC α ∧ hp_K α x = 12 ∧ hm_M α y ρ σ ∧ RI σ ∧ True ∧ ((hp_N α 618 x = none ∧ cells = 977 ∧ slots = 17252) ∨ (hp_N α 618 x ≠ none ∧ cells = 986 ∧ slots = 148568))
section LI
variable {Γ : hp_G} {s : State} {x y : Nat} {ρ : Nat → Nat} {α β : hp_T} {σ τ : ms_T} {H H1 : Heap} {L L1 : List Loc} {cells slots : Nat} {w : cw_W}
theorem li_cw (h : li Γ s x y ρ α σ H L cells slots) (B : hp_B Γ (fun _ _ => True) s α β H1 L1) (c : cw w α β) (hw : wok w = true) : li Γ s x y ρ β σ H1 L1 (cells + 0) (slots + 0) := by
  obtain ⟨h0, h1, h2, h3, h4, h5, h6⟩ := h
  exact ⟨⟨B.1, B.2.1, trivial⟩, c.1, by rw [c.2.1]; exact h2, hm_cg h3 (cg_cw c) (wok_0 hw), h4, lx_cw h5 c hw, by rw [c.2.2.1]; exact h6⟩
theorem li0_cw (h : li Γ s x y ρ α σ H L cells slots) (B : hp_B Γ (fun _ _ => True) s α β H1 L1) (c : cw w α β) (hw : wok0 w = true) : li0 Γ s x y ρ β σ H1 L1 (cells + 0) (slots + 0) := by
  obtain ⟨h0, h1, h2, h3, h4, h5, h6⟩ := h
  exact ⟨⟨B.1, B.2.1, trivial⟩, c.1, by rw [c.2.1]; exact h2, hm_cg h3 (cg_cw c) hw, h4, trivial, by rw [c.2.2.1]; exact h6⟩
theorem li_eq (h : li Γ s x y ρ α σ H L cells slots) (B : hp_B Γ (fun _ _ => True) s α β H1 L1) (c : β = α) : li Γ s x y ρ β σ H1 L1 (cells + 0) (slots + 0) := by
  subst c
  obtain ⟨h0, h1, h2, h3, h4, h5, h6⟩ := h
  exact ⟨⟨B.1, B.2.1, trivial⟩, h1, h2, h3, h4, h5, h6⟩
/-- where what is compared must be told anew -/
theorem li0_mo (h : li0 Γ s x y ρ α σ H L cells slots) (B : hp_B Γ (fun _ _ => True) s α β H1 L1) (c : mo α β) (hM : hm_M β y ρ τ) (hR : RI τ) (hx : lx β x τ) : li Γ s x y ρ β τ H1 L1 (cells + 0) (slots + 0) := by
  obtain ⟨h0, h1, h2, h3, h4, h5, h6⟩ := h
  exact ⟨⟨B.1, B.2.1, trivial⟩, gc_mo c h1, by rw [c.1]; exact h2, hM, hR, hx, by rw [c.2.2.1]; exact h6⟩
theorem li_0 (h : li Γ s x y ρ α σ H L cells slots) : li0 Γ s x y ρ α σ H L cells slots := by
  obtain ⟨h0, h1, h2, h3, h4, h5, h6⟩ := h
  exact ⟨h0, h1, h2, h3, h4, trivial, h6⟩
end LI
section LR
variable {p : Program} {l : Launch} {e : Env} {R : Room} {s : State} {m : MethodId} {args : Array Value} {below : List Frame} {meth : Method} {c : Code} {H : Heap} {locs : List Loc} {cells slots : Nat} {Q : State → Prop} {cc bytes : ByteArray} {nL maxL : Nat} {ret : Option FieldType} {own : String} {Γ : hp_G} {α : hp_T} {Iv : hp_T → hp_T → Prop} {α0 : hp_T} {pc pc' : Nat} {ls : Array Slot} {st rest : List Value} {b κ index n d' mc ms : Nat} {y : MethodName} {As : List Value}
theorem l_recv (C : hp_C Γ p m c cc nL s args own) (B : hp_B Γ Iv s α0 α H locs) (hV : hp_LV y κ) (hk : hp_K α b = κ) : ∃ cellB : Cell, H[b]? = some cellB ∧ cellB.vm.isStatics = false ∧ s.vm.findClass y.cls = some cellB.cls := by
  obtain ⟨v1, v2, v3, v4, v5⟩ := hV
  rw [← v3]
  exact va_recv C.2.1 (hp_P1 (B.at hk v5).2) v4 (q0 := 0) rfl
theorem l_run {Pc : Array Value → State → Prop} {Qc : Array Value → State → Outcome → State → Prop} (C : hp_C Γ p m c cc nL s args own) (hM : Met l y (hp_ws y bytes maxL ret) (hp_rm d' mc ms) Pc Qc mc ms (hp_A Γ)) (hbl : FrameBlind Pc) (hpre : ∀ U : State, U.heap = H → s.WarmedH U.vm → Pc (Value.ref b :: As).toArray U) (hrec : ∃ cellB : Cell, H[b]? = some cellB ∧ cellB.vm.isStatics = false ∧ s.vm.findClass y.cls = some cellB.cls) (hB : hp_LB y bytes maxL ret n) (hV : hp_LV y κ) (hL : hp_LK own index y) (hRf : d' + 1 ≤ R.frames) (hRl : 8 + (maxL + 11) + 45 * d' ≤ R.locals) (hff : cells + mc ≤ R.cells ∧ slots + ms ≤ R.slots) (hlen : As.length = n) (hsz : ls.size = nL) (hst : st = As.reverse ++ .ref b :: rest) (hcat : (rest.map fun v => v.category).sum ≤ 8) (hdg : decode cc pc = .ok (.invokevirtual index, 3)) :
    va_Run p l e R s m args below meth c H locs cells slots mc ms (F0 m pc ls st) rest (Qc (Value.ref b :: As).toArray) (hp_A Γ) := by
  obtain ⟨h1, h2, h3, h4⟩ := hB
  obtain ⟨v1, v2, v3, v4, v5⟩ := hV
  have hts := C.1.2.2.2.2
  have hp : PreV s H y.cls b Pc As := ⟨hbl, hrec, hpre⟩
  have hRR : (hp_rm d' mc ms).frames + 1 ≤ R.frames ∧ 8 + (maxL + 11) + (hp_rm d' mc ms).locals ≤ R.locals := ⟨hRf, hRl⟩
  rcases hL with hL | ⟨host, hL⟩
  · exact va_runV (As := As) (rest := rest) (n := n) (C := y.cls) C.1 hM ⟨callB_of n hts (hp_gs h1) rfl rfl rfl (hts _ h2) (hts _ hL) h4 hRR, hts _ v1, hts _ v2⟩ hp rfl hlen hsz hst (lv_room (m := m) (pc := pc) (ls := ls) (rest := st) hcat) hdg hff
  · exact va_runVN (As := As) (rest := rest) (n := n) (C := y.cls) C.1 hM ⟨va_cnB n hts (hp_gs h1) rfl rfl rfl (C.2.2.1 _ hL) (hts _ h2) h4 hRR, hts _ v1, hts _ v2⟩ hp rfl hlen hsz hst (lv_room (m := m) (pc := pc) (ls := ls) (rest := st) hcat) hdg hff
theorem l_runV {Qc : Array Value → State → Outcome → State → Prop} (C : hp_C Γ p m c cc nL s args own) (B : hp_B Γ Iv s α0 α H locs) (hM : Met l y (hp_ws y bytes maxL ret) (hp_rm d' mc ms) (hp_Pc Γ α (.ref b :: As)) Qc mc ms (hp_A Γ)) (hB : hp_LB y bytes maxL ret n) (hV : hp_LV y κ) (hL : hp_LK own index y) (hk : hp_K α b = κ) (hRf : d' + 1 ≤ R.frames) (hRl : 8 + (maxL + 11) + 45 * d' ≤ R.locals) (hff : cells + mc ≤ R.cells ∧ slots + ms ≤ R.slots) (hlen : As.length = n) (hsz : ls.size = nL) (hst : st = As.reverse ++ .ref b :: rest) (hcat : (rest.map fun v => v.category).sum ≤ 8) (hdg : decode cc pc = .ok (.invokevirtual index, 3)) :
    va_Run p l e R s m args below meth c H locs cells slots mc ms (F0 m pc ls st) rest (Qc (Value.ref b :: As).toArray) (hp_A Γ) :=
  l_run C hM (hp_blind Γ α _) (fun U hU hW => ⟨rfl, by rw [hU]; exact B.1, C.2.warm hW⟩) (l_recv C B hV hk) hB hV hL hRf hRl hff hlen hsz hst hcat hdg
theorem l_runH {Qc : Array Value → State → Outcome → State → Prop} (C : hp_C Γ p m c cc nL s args own) (B : hp_B Γ Iv s α0 α H locs) (hM : Met l y (hp_ws y bytes maxL ret) (hp_rm d' mc ms) (hp_PcH Γ α H (.ref b :: As)) Qc mc ms (hp_A Γ)) (hB : hp_LB y bytes maxL ret n) (hV : hp_LV y κ) (hL : hp_LK own index y) (hk : hp_K α b = κ) (hRf : d' + 1 ≤ R.frames) (hRl : 8 + (maxL + 11) + 45 * d' ≤ R.locals) (hff : cells + mc ≤ R.cells ∧ slots + ms ≤ R.slots) (hlen : As.length = n) (hsz : ls.size = nL) (hst : st = As.reverse ++ .ref b :: rest) (hcat : (rest.map fun v => v.category).sum ≤ 8) (hdg : decode cc pc = .ok (.invokevirtual index, 3)) :
    va_Run p l e R s m args below meth c H locs cells slots mc ms (F0 m pc ls st) rest (Qc (Value.ref b :: As).toArray) (hp_A Γ) :=
  l_run C hM (hp_blindH Γ α H _) (fun U hU hW => ⟨rfl, hU, by rw [hU]; exact B.1, C.2.warm hW⟩) (l_recv C B hV hk) hB hV hL hRf hRl hff hlen hsz hst hcat hdg
/-- the call that may make Roots: two ways on -/
theorem l_ciZ {post : Int32 → hp_T → Prop} {a : Array Value} {a0 : Nat} (B : hp_B Γ (fun _ _ => True) s α α H locs) (hr : va_Run p l e R s m args below meth c H locs cells slots mc ms (F0 m pc ls st) rest (va_Qi post (hp_Bz Γ H a0) (hp_A Γ) a) (hp_A Γ)) (hpc : pc + 3 = pc')
    (k0 : ∀ (r : Int32) (β : hp_T) (H1 : Heap) (locs1 : List Loc), post r β → hp_N β 618 a0 = none → hp_B Γ (fun _ _ => True) s α β H1 locs1 → W p l e R s m args below meth c H1 locs1 cells slots Q (F0 m pc' ls (.int r :: rest)))
    (k1 : ∀ (r : Int32) (β : hp_T) (H1 : Heap) (locs1 : List Loc), post r β → hp_N β 618 a0 ≠ none → hp_B Γ (fun _ _ => True) s α β H1 locs1 → W p l e R s m args below meth c H1 locs1 (cells + mc) (slots + ms) Q (F0 m pc' ls (.int r :: rest))) : W p l e R s m args below meth c H locs cells slots Q (F0 m pc ls st) := by
  subst hpc
  intro T hT X
  obtain ⟨v, st₀, t, T', L, h0, X', hL, e1, e2, ⟨⟨r, u, hv, hp, hb⟩, hz, hk⟩, st'⟩ := hr T hT X
  cases hv
  rw [h0] at hz hk
  have hS := B.2.1
  have hS1 : va_S (hp_A Γ) s.heap T'.heap (locs ++ L) := ⟨Nat.le_trans hS.1 (by rw [e1]; exact hz), fun q h1 h2 => by rw [e1, hk q (Nat.lt_of_lt_of_le h1 hS.1) h2]; exact hS.2.1 q h1 h2, fun q hq => by
    rcases List.mem_append.mp hq with h | h
    · exact hS.2.2 q h
    · exact hL q h⟩
  have hB1 : hp_B Γ (fun _ _ => True) s α u T'.heap (locs ++ L) := ⟨by rw [e1]; exact hb.1, hS1, trivial⟩
  by_cases hn : hp_N u 618 a0 = none
  · have hz2 := hb.2 hn
    obtain ⟨t2, a1, b1⟩ := k0 r u T'.heap (locs ++ L) hp hn hB1 T' rfl (zs_narrow X X' (by rw [hT, e1]; exact hz2))
    exact ⟨t2, st' t2 a1, b1⟩
  · obtain ⟨t2, a1, b1⟩ := k1 r u T'.heap (locs ++ L) hp hn hB1 T' rfl X'
    exact ⟨t2, st' t2 a1, b1⟩
/-- an int of the script -/
theorem l_arg {bb Ln : Nat} {xs : Nat → Int32} {i : Int32} {j : Int32} {pc1 pc2 pc3 pc4 : Nat} {lv : List (Nat × Value)} (C : hp_C Γ p m c cc nL s args own) (B : hp_B Γ Iv s α0 α H locs) (hX : va_X bb Ln xs s s.heap) (hbl : bb < s.heap.size) (hbA : ¬ hp_A Γ bb) (hl : lv_has ls nL lv) {q0 q3 : Nat} (h0 : lv[q0]? = some (0, .ref bb)) (h3 : lv[q3]? = some (3, .int i)) (hj : j = 1 ∨ j = 2 ∨ j = 3 ∨ j = 4 ∨ j = 5) (hi : 0 ≤ i.toInt) (hi2 : i.toInt + 6 ≤ (Ln : Int)) (hi3 : (Ln : Int) ≤ 3072)
    (d0 : decode cc pc = .ok (.aload_n 0, 1)) (d1 : decode cc pc1 = .ok (.iload_n 3, 1)) {nj : Int} (hnj : Int32.ofInt nj = j) (d2 : decode cc pc2 = .ok (.iconst nj, 1)) (d3 : decode cc pc3 = .ok (.iadd, 1)) (d4 : decode cc pc4 = .ok (.iaload, 1)) (e1 : pc + 1 = pc1) (e2 : pc1 + 1 = pc2) (e3 : pc2 + 1 = pc3) (e4 : pc3 + 1 = pc4) (e5 : pc4 + 1 = pc')
    (kk : ∀ v : Int32, v = xs (i + j).toNatClampNeg → W p l e R s m args below meth c H locs cells slots Q (F0 m pc' ls (.int v :: rest))) : W p l e R s m args below meth c H locs cells slots Q (F0 m pc ls rest) := by
  obtain ⟨⟨hx, hb, hml, hown, hts⟩, hK⟩ := C
  subst e1; subst e2; subst e3; subst e4; subst e5
  have hjj : 1 ≤ j.toInt ∧ j.toInt ≤ 5 := by rcases hj with h | h | h | h | h <;> rw [h] <;> decide
  have hij : (i + j).toInt = i.toInt + j.toInt := ii_add (by omega) (by omega)
  refine lv_aload_n hx hb d0 rfl (lv_at hl q0 h0) ?_
  refine lv_iload_n hx hb d1 rfl (lv_at hl q3 h3) ?_
  refine lv_iconst (v := j) hx hb d2 hnj ?_
  refine lv_iadd hx hb d3 ?_
  exact va_sld hx hb hX hbl hbA B.2.1 (vi_of (by omega) (by omega)) d4 (lv_topi kk)
end LR
