set_option maxRecDepth 100000
/-! ===== kinds of what is kept; a change that makes things ===== -/
theorem gkr {α : hp_T} {φ a : Nat} (g : GC α) (hk : hp_K α a = φ / 50) (hr : gc_rk φ ≠ 0) (h3 : φ ≠ 350) : hp_K α (hp_R α φ a) = gc_rk φ := by
  rcases g.2.1 φ a hk hr with q | q
  · exact q
  · exact absurd q.1 h3
theorem gkR {α : hp_T} {φ a b κ : Nat} (g : GC α) (hk : hp_K α a = φ / 50) (e : hp_R α φ a = b) (hr : gc_rk φ = κ) (h0 : κ ≠ 0) (h3 : φ ≠ 350) : hp_K α b = κ := by
  rw [← e, ← hr]
  exact gkr g hk (by rw [hr]; exact h0) h3
theorem gkQ {α : hp_T} {κ a j b μ : Nat} (g : GC α) (hk : hp_K α a = κ) (e : hp_Q α κ a j = some b) (hr : gc_qk κ = μ) (h0 : μ ≠ 0) : hp_K α b = μ := by
  rw [← hr]
  exact g.2.2.2 κ a j b hk (by rw [hr]; exact h0) e
theorem adr {w b : Nat} (h0 : w ≤ b) (h1 : b < w + 459) : (b = w ∨ b = w + 1 ∨ b = w + 2 ∨ b = w + 3 ∨ b = w + 4 ∨ b = w + 5 ∨ b = w + 6 ∨ b = w + 7 ∨ b = w + 8 ∨ b = w + 9 ∨ b = w + 10) ∨ (∃ r, r < 4 ∧ (b = lpA w r ∨ b = lpA w r + 1 ∨ b = lpA w r + 2 ∨ ∃ i, i < 48 ∧ (b = wdA w r i ∨ b = wdA w r i + 1))) ∨ (∃ i, i < 16 ∧ (b = fzA w i ∨ b = fzA w i + 1 ∨ b = fzA w i + 2)) ∨ ∃ i, i < 4 ∧ b = wtA w i := by
  by_cases c1 : b < w + 11
  · left; omega
  · by_cases c2 : b < w + 407
    · right; left
      refine ⟨(b - w - 11) / 99, by omega, ?_⟩
      unfold lpA wdA
      by_cases d1 : (b - w - 11) % 99 < 3
      · omega
      · right; right; right
        exact ⟨((b - w - 11) % 99 - 3) / 2, by omega, by omega⟩
    · by_cases c3 : b < w + 455
      · right; right; left
        exact ⟨(b - w - 407) / 3, by omega, by unfold fzA; omega⟩
      · right; right; right
        exact ⟨b - w - 455, by omega, by unfold wtA; omega⟩
theorem nz {k κ : Nat} (h : k = κ) (h0 : κ ≠ 0) : k ≠ 0 := by rw [h]; exact h0
theorem SHK {α : hp_T} {w : Nat} (g : GC α) (hk : hp_K α w = 11) (h : SHW α w) : ∀ b, w ≤ b → b < w + 459 → hp_K α b ≠ 0 := by
  obtain ⟨a1, a2, a3, a4, a5, a6, a7, a8, a9, a10, ⟨a11, a12, a13⟩, a14, a15⟩ := h
  have k1 : hp_K α (w + 1) = 30 := gkR g hk a1 rfl (by decide) (by decide)
  have k2 : hp_K α (w + 2) = 31 := gkR g hk a2 rfl (by decide) (by decide)
  have k3 : hp_K α (w + 3) = 32 := gkR g hk a3 rfl (by decide) (by decide)
  have k5 : hp_K α (w + 5) = 6 := gkR g hk a5 rfl (by decide) (by decide)
  have k7 : hp_K α (w + 7) = 9 := gkR g hk a6 rfl (by decide) (by decide)
  intro b h0 h1
  rcases adr h0 h1 with (e | e | e | e | e | e | e | e | e | e | e) | ⟨r, hr4, hb⟩ | ⟨i, hi16, hb⟩ | ⟨i, hi4, e⟩
  · rw [e]; exact nz hk (by decide)
  · rw [e]; exact nz k1 (by decide)
  · rw [e]; exact nz k2 (by decide)
  · rw [e]; exact nz k3 (by decide)
  · rw [e]; exact nz (gkR g hk a4 rfl (by decide) (by decide)) (by decide)
  · rw [e]; exact nz k5 (by decide)
  · rw [e]; exact nz (gkR g k5 a10 rfl (by decide) (by decide)) (by decide)
  · rw [e]; exact nz k7 (by decide)
  · rw [e]; exact nz (gkR g k7 a11 rfl (by decide) (by decide)) (by decide)
  · rw [e]; exact nz (gkR g k7 a12 rfl (by decide) (by decide)) (by decide)
  · rw [e]; exact nz (gkR g k7 a13 rfl (by decide) (by decide)) (by decide)
  · obtain ⟨b1, b2, b3⟩ := a14 r hr4
    have kl : hp_K α (lpA w r) = 3 := gkQ g k1 (a7 r hr4) rfl (by decide)
    have kl1 : hp_K α (lpA w r + 1) = 28 := gkR g kl b1 rfl (by decide) (by decide)
    rcases hb with e | e | e | ⟨i, hi, e | e⟩
    · rw [e]; exact nz kl (by decide)
    · rw [e]; exact nz kl1 (by decide)
    · rw [e]; exact nz (gkR g kl b2 rfl (by decide) (by decide)) (by decide)
    · rw [e]; exact nz (gkQ g kl1 (b3 i hi).1 rfl (by decide)) (by decide)
    · rw [e]; exact nz (gkR g (gkQ g kl1 (b3 i hi).1 rfl (by decide)) (b3 i hi).2 rfl (by decide) (by decide)) (by decide)
  · have kf : hp_K α (fzA w i) = 2 := gkQ g k2 (a8 i hi16) rfl (by decide)
    have kf1 : hp_K α (fzA w i + 1) = 6 := gkR g kf (a15 i hi16).1 rfl (by decide) (by decide)
    rcases hb with e | e | e
    · rw [e]; exact nz kf (by decide)
    · rw [e]; exact nz kf1 (by decide)
    · rw [e]; exact nz (gkR g kf1 (a15 i hi16).2 rfl (by decide) (by decide)) (by decide)
  · rw [e]; exact nz (gkQ g k3 (a9 i hi4) rfl (by decide)) (by decide)
theorem adx {x w u b : Nat} (hb : inX x b) (h3 : (w = x + 1 ∧ u = x + 460) ∨ (w = x + 460 ∧ u = x + 1)) : b = x ∨ (w ≤ b ∧ b < w + 459) ∨ (u ≤ b ∧ b < u + 459) ∨ b = x + 919 ∨ b = x + 920 ∨ b = x + 921 ∨ b = x + 922 ∨ b = x + 923 ∨ b = x + 924 ∨ b = x + 925 ∨ b = x + 944 ∨ b = x + 944 + 9 := by
  unfold inX at hb
  omega
theorem LXK {α : hp_T} {x : Nat} {σ : ms_T} (g : GC α) (hk : hp_K α x = 12) (h : LX α x σ) : ∀ b, inX x b → hp_K α b ≠ 0 := by
  obtain ⟨-, ⟨z1, z2, z3, z4, z5, z6, z7, z8⟩, ⟨w, u, h1, h2, h3, h4, h5⟩, -, -, l, -, ⟨y1, y2, y3, -⟩⟩ := h
  have kw : hp_K α w = 11 := gkR g hk h1 rfl (by decide) (by decide)
  have ku : hp_K α u = 11 := gkR g hk h2 rfl (by decide) (by decide)
  have k19 : hp_K α (x + 919) = 6 := gkR g hk z1 rfl (by decide) (by decide)
  have k44 : hp_K α (x + 944) = 4 := gkR g hk z5 rfl (by decide) (by decide)
  have k22 : hp_K α (x + 922) = 10 ∧ hp_K α (x + 924) = 10 := by
    rcases y1 with q | q
    · exact ⟨gkR g hk q.1 rfl (by decide) (by decide), gkR g hk q.2 rfl (by decide) (by decide)⟩
    · exact ⟨gkR g hk q.2 rfl (by decide) (by decide), gkR g hk q.1 rfl (by decide) (by decide)⟩
  intro b hb
  rcases adx hb h3 with e | e | e | e | e | e | e | e | e | e | e | e
  · rw [e]; exact nz hk (by decide)
  · exact SHK g kw h4.1 b e.1 e.2
  · exact SHK g ku h5 b e.1 e.2
  · rw [e]; exact nz k19 (by decide)
  · rw [e]; exact nz (gkR g k19 z2 rfl (by decide) (by decide)) (by decide)
  · rw [e]; exact nz z4 (by decide)
  · rw [e]; exact nz k22.1 (by decide)
  · rw [e]; exact nz (gkR g k22.1 y2 rfl (by decide) (by decide)) (by decide)
  · rw [e]; exact nz k22.2 (by decide)
  · rw [e]; exact nz (gkR g k22.2 y3 rfl (by decide) (by decide)) (by decide)
  · rw [e]; exact nz k44 (by decide)
  · rw [e]; exact nz (gkR g k44 z7 rfl (by decide) (by decide)) (by decide)
theorem LX_cg {w : cw_W} {α β : hp_T} {x : Nat} {σ : ms_T} (g : GC α) (hk : hp_K α x = 12) (h : LX α x σ) (c : cg w α β) (hw : wlx w = true) : LX β x σ := by
  have hK := LXK g hk h
  obtain ⟨c0, c1, c2, c3, c4, c5, c6, c7⟩ := c
  exact LX_p h (fun φ b p r => c3 φ b (hK b p) (wlx_R hw r)) (fun κ b j p => c7 κ b j (hK b p)) (fun φ b p r => c2 φ b (hK b p) (wlx_I hw r)) (fun κ b j p r => c4 κ b j (hK b p) (wlx_E hw r)) (c1 _ (hK _ (by unfold inX; omega)))
