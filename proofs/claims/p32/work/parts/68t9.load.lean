set_option maxRecDepth 100000
theorem LX_load {α β : hp_T} {x : Nat} {σ τ : ms_T} (h : LX α x σ) (hL : LXW β x τ) (hf : ldf x α β) (hr : fr ldw [40, 41, 42, 43, 44, 46] σ τ) (hC : rC (ms_E τ 40)) : LX β x τ := by
  obtain ⟨-, -, -, -, -, l, h5, ⟨y1, y2, y3, y4⟩⟩ := h
  obtain ⟨l1, l2, l3, l4, -, -⟩ := hL
  obtain ⟨f1, f2, f3, f4, f5, f6, f7⟩ := hf
  have e6 : hp_R β 606 x = hp_R α 606 x := f1 606 x (by omega) (by omega)
  have e7 : hp_R β 607 x = hp_R α 607 x := f1 607 x (by omega) (by omega)
  have e8 : hp_R β 500 (x + 922) = hp_R α 500 (x + 922) := f1 500 _ (by omega) (by omega)
  have e9 : hp_R β 500 (x + 924) = hp_R α 500 (x + 924) := f1 500 _ (by omega) (by omega)
  refine ⟨hC, l1, RWZ_X l2, l3, l4, l, TYS_e h5 (hr.1 664 (by decide)) (fun j => hr.2 45 (by decide) j), by rw [e6, e7]; exact y1, e8.trans y2, e9.trans y3, ?_⟩
  rw [e6]
  obtain ⟨b1, b2, b3, b4⟩ := y4
  have ht : hp_R α 606 x = x + 922 ∨ hp_R α 606 x = x + 924 := by rcases y1 with q | q; exact Or.inl q.1; exact Or.inr q.1
  have hE : hp_R β 500 (hp_R α 606 x) = hp_R α 500 (hp_R α 606 x) ∧ x + 922 ≤ hp_R α 500 (hp_R α 606 x) ∧ hp_R α 500 (hp_R α 606 x) < x + 926 := by
    rcases ht with q | q
    · rw [q, e8, y2]; omega
    · rw [q, e9, y3]; omega
  refine ⟨b1, by rw [f5 501 _ (by omega) (by omega)]; exact b2, fun k hk => ?_, b4⟩
  rw [hE.1, f7 27 _ k (by omega) (by omega) (by omega)]; exact b3 k hk
/-- two ends of one run -/
theorem ws_2 {R : Type} {o : Option R} {P Q : R → Prop} (h : ws o P) (g : ws o Q) : ws o (fun r => P r ∧ Q r) := ws_pr h (pr_w g)
/-- how the law's loop takes them -/
theorem lx_kq {α β : hp_T} {x : Nat} {σ τ : ms_T} (h : LX α x σ) (c : mo α β) (k : kq σ τ) (e7 : ms_I τ 667 = ms_I σ 667) (hR : RI τ) : LX β x τ :=
  LX_mo (LX_s h (cel_kq k) hR.2 (k.1 664 rfl) e7 (fun j => k.2 45 rfl j) (fun j => k.2 47 rfl j)) c
theorem lx_kpd {α β : hp_T} {x : Nat} {σ τ : ms_T} (h : LX α x σ) (c : mo α β) (k : kpd σ τ) (e7 : ms_I τ 667 = ms_I σ 667) (hR : RI τ) : LX β x τ :=
  LX_mo (LX_s h (cel_kpd k hR.2) hR.2 k.1 e7 (fun j => k.2.1 45 rfl j) (fun j => k.2.1 47 rfl j)) c
