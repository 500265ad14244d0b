set_option maxRecDepth 100000
/-! ===== kinds of what is kept; a change that makes things ===== -/
theorem gkr {α : hp_T} {φ a : Nat} (g : GC α) (hk : hp_K α a = φ / 50) (hr : gc_rk φ ≠ 0) (h3 : φ ≠ 350) : hp_K α (hp_R α φ a) = gc_rk φ := by
  rcases g.2.1 φ a hk hr with q | q
  · exact q
  · exact absurd q.1 h3
theorem gkR {α : hp_T} {φ a b κ : Nat} (g : GC α) (hk : hp_K α a = φ / 50) (e : hp_R α φ a = b) (hr : gc_rk φ = κ) (h0 : κ ≠ 0) (h3 : φ ≠ 350) : hp_K α b = κ := by
  rw [← e, ← hr]
  exact gkr g hk (by rw [hr]; exact h0) h3
theorem gkQ {α : hp_T} {κ a j b μ : Nat} (g : GC α) (hk : hp_K α a = κ) (e : hp_Q α κ a j = some b) (hr : gc_qk κ = μ) (h0 : μ ≠ 0) : hp_K α b = μ := by
  rw [← hr]
  exact g.2.2.2 κ a j b hk (by rw [hr]; exact h0) e
theorem SHK {α : hp_T} {w : Nat} (g : GC α) (hk : hp_K α w = 11) (h : SHW α w) : ∀ b, w ≤ b → b < w + 459 → hp_K α b ≠ 0 := by
  obtain ⟨a1, a2, a3, a4, a5, a6, a7, a8, a9, a10, ⟨a11, a12, a13⟩, a14, a15⟩ := h
  have k1 : hp_K α (w + 1) = 30 := gkR g hk a1 rfl (by decide) (by decide)
  have k2 : hp_K α (w + 2) = 31 := gkR g hk a2 rfl (by decide) (by decide)
  have k3 : hp_K α (w + 3) = 32 := gkR g hk a3 rfl (by decide) (by decide)
  have k4 : hp_K α (w + 4) = 33 := gkR g hk a4 rfl (by decide) (by decide)
  have k5 : hp_K α (w + 5) = 6 := gkR g hk a5 rfl (by decide) (by decide)
  have k6 : hp_K α (w + 6) = 20 := gkR g k5 a10 rfl (by decide) (by decide)
  have k7 : hp_K α (w + 7) = 9 := gkR g hk a6 rfl (by decide) (by decide)
  have k8 : hp_K α (w + 8) = 21 := gkR g k7 a11 rfl (by decide) (by decide)
  have k9 : hp_K α (w + 9) = 22 := gkR g k7 a12 rfl (by decide) (by decide)
  have k10 : hp_K α (w + 10) = 23 := gkR g k7 a13 rfl (by decide) (by decide)
  intro b h0 h1
  by_cases c1 : b < w + 11
  · have : b = w ∨ b = w + 1 ∨ b = w + 2 ∨ b = w + 3 ∨ b = w + 4 ∨ b = w + 5 ∨ b = w + 6 ∨ b = w + 7 ∨ b = w + 8 ∨ b = w + 9 ∨ b = w + 10 := by omega
    clear a1 a2 a3 a4 a5 a6 a7 a8 a9 a10 a11 a12 a13 a14 a15
    rcases this with e | e | e | e | e | e | e | e | e | e | e <;> rw [e]
    · rw [hk]; decide
    · rw [k1]; decide
    · rw [k2]; decide
    · rw [k3]; decide
    · rw [k4]; decide
    · rw [k5]; decide
    · rw [k6]; decide
    · rw [k7]; decide
    · rw [k8]; decide
    · rw [k9]; decide
    · rw [k10]; decide
  · by_cases c2 : b < w + 407
    · obtain ⟨r, hr⟩ : ∃ r, r = (b - w - 11) / 99 := ⟨_, rfl⟩
      obtain ⟨o, ho⟩ : ∃ o, o = (b - w - 11) % 99 := ⟨_, rfl⟩
      have hr4 : r < 4 := by omega
      have hb : b = w + 11 + 99 * r + o := by omega
      obtain ⟨b1, b2, b3⟩ := a14 r hr4
      have kl : hp_K α (lpA w r) = 3 := gkQ g k1 (a7 r hr4) rfl (by decide)
      have kl1 : hp_K α (lpA w r + 1) = 28 := gkR g kl b1 rfl (by decide) (by decide)
      have kl2 : hp_K α (lpA w r + 2) = 29 := gkR g kl b2 rfl (by decide) (by decide)
      by_cases d1 : o < 3
      · have : b = lpA w r ∨ b = lpA w r + 1 ∨ b = lpA w r + 2 := by unfold lpA; omega
        rcases this with e | e | e <;> rw [e]
        · rw [kl]; decide
        · rw [kl1]; decide
        · rw [kl2]; decide
      · obtain ⟨i, hi⟩ : ∃ i, i = (o - 3) / 2 := ⟨_, rfl⟩
        have hi48 : i < 48 := by omega
        obtain ⟨q1, q2⟩ := b3 i hi48
        have kw : hp_K α (wdA w r i) = 10 := gkQ g kl1 q1 rfl (by decide)
        have kw1 : hp_K α (wdA w r i + 1) = 27 := gkR g kw q2 rfl (by decide) (by decide)
        have : b = wdA w r i ∨ b = wdA w r i + 1 := by unfold wdA; omega
        rcases this with e | e <;> rw [e]
        · rw [kw]; decide
        · rw [kw1]; decide
    · by_cases c3 : b < w + 455
      · obtain ⟨i, hi⟩ : ∃ i, i = (b - w - 407) / 3 := ⟨_, rfl⟩
        have hi16 : i < 16 := by omega
        obtain ⟨q1, q2⟩ := a15 i hi16
        have kf : hp_K α (fzA w i) = 2 := gkQ g k2 (a8 i hi16) rfl (by decide)
        have kf1 : hp_K α (fzA w i + 1) = 6 := gkR g kf q1 rfl (by decide) (by decide)
        have kf2 : hp_K α (fzA w i + 2) = 20 := gkR g kf1 q2 rfl (by decide) (by decide)
        have : b = fzA w i ∨ b = fzA w i + 1 ∨ b = fzA w i + 2 := by unfold fzA; omega
        rcases this with e | e | e <;> rw [e]
        · rw [kf]; decide
        · rw [kf1]; decide
        · rw [kf2]; decide
      · obtain ⟨i, hi⟩ : ∃ i, i = b - w - 455 := ⟨_, rfl⟩
        have hi4 : i < 4 := by omega
        have kt : hp_K α (wtA w i) = 8 := gkQ g k3 (a9 i hi4) rfl (by decide)
        have : b = wtA w i := by unfold wtA; omega
        rw [this, kt]; decide
theorem LXK {α : hp_T} {x : Nat} {σ : ms_T} (g : GC α) (hk : hp_K α x = 12) (h : LX α x σ) : ∀ b, inX x b → hp_K α b ≠ 0 := by
  obtain ⟨-, ⟨z1, z2, z3, z4, z5, z6, z7, z8⟩, ⟨w, u, h1, h2, h3, h4, h5⟩, -, -, l, -, ⟨y1, y2, y3, -⟩⟩ := h
  have kw : hp_K α w = 11 := gkR g hk h1 rfl (by decide) (by decide)
  have ku : hp_K α u = 11 := gkR g hk h2 rfl (by decide) (by decide)
  have sw := SHK g kw h4.1
  have su := SHK g ku h5
  have k19 : hp_K α (x + 919) = 6 := gkR g hk z1 rfl (by decide) (by decide)
  have k20 : hp_K α (x + 920) = 20 := gkR g k19 z2 rfl (by decide) (by decide)
  have k44 : hp_K α (x + 944) = 4 := gkR g hk z5 rfl (by decide) (by decide)
  have k53 : hp_K α (x + 944 + 9) = 10 := gkR g k44 z7 rfl (by decide) (by decide)
  have k22 : hp_K α (x + 922) = 10 ∧ hp_K α (x + 924) = 10 := by
    rcases y1 with q | q
    · exact ⟨gkR g hk q.1 rfl (by decide) (by decide), gkR g hk q.2 rfl (by decide) (by decide)⟩
    · exact ⟨gkR g hk q.2 rfl (by decide) (by decide), gkR g hk q.1 rfl (by decide) (by decide)⟩
  have k23 : hp_K α (x + 923) = 27 := gkR g k22.1 y2 rfl (by decide) (by decide)
  have k25 : hp_K α (x + 925) = 27 := gkR g k22.2 y3 rfl (by decide) (by decide)
  intro b hb
  unfold inX at hb
  by_cases c0 : b = x
  · rw [c0, hk]; decide
  by_cases c1 : b < x + 919 ∧ x < b
  · by_cases c2 : w ≤ b ∧ b < w + 459
    · exact sw b c2.1 c2.2
    · exact su b (by omega) (by omega)
  · have : b = x + 919 ∨ b = x + 920 ∨ b = x + 921 ∨ b = x + 922 ∨ b = x + 923 ∨ b = x + 924 ∨ b = x + 925 ∨ b = x + 944 ∨ b = x + 944 + 9 := by omega
    clear sw su y1 y2 y3 z1 z2 z3 z5 z6 z7 z8
    rcases this with e | e | e | e | e | e | e | e | e <;> rw [e]
    · rw [k19]; decide
    · rw [k20]; decide
    · rw [z4]; decide
    · rw [k22.1]; decide
    · rw [k23]; decide
    · rw [k22.2]; decide
    · rw [k25]; decide
    · rw [k44]; decide
    · rw [k53]; decide
theorem LX_cg {w : cw_W} {α β : hp_T} {x : Nat} {σ : ms_T} (g : GC α) (hk : hp_K α x = 12) (h : LX α x σ) (c : cg w α β) (hw : wlx w = true) : LX β x σ := by
  have hK := LXK g hk h
  obtain ⟨c0, c1, c2, c3, c4, c5, c6, c7⟩ := c
  exact LX_p h (fun φ b p r => c3 φ b (hK b p) (wlx_R hw r)) (fun κ b j p => c7 κ b j (hK b p)) (fun φ b p r => c2 φ b (hK b p) (wlx_I hw r)) (fun κ b j p r => c4 κ b j (hK b p) (wlx_E hw r)) (c1 _ (hK _ (by unfold inX; omega)))
