/-! ===== constructors: what grows, what an object under way has ===== -/
def sa (α β : hp_T) (b : Nat) : Prop := hp_K β b = hp_K α b ∧ (∀ φ, hp_I β φ b = hp_I α φ b) ∧ (∀ φ, hp_J β φ b = hp_J α φ b) ∧ (∀ φ, hp_R β φ b = hp_R α φ b) ∧ (∀ φ, hp_N β φ b = hp_N α φ b) ∧ (∀ κ j, hp_E β κ b j = hp_E α κ b j) ∧ (∀ κ j, hp_L β κ b j = hp_L α κ b j) ∧ (∀ κ j, hp_Q β κ b j = hp_Q α κ b j)
theorem sa_rf {α : hp_T} {b : Nat} : sa α α b := ⟨rfl, fun _ => rfl, fun _ => rfl, fun _ => rfl, fun _ => rfl, fun _ _ => rfl, fun _ _ => rfl, fun _ _ => rfl⟩
theorem sa_tr {α β γ : hp_T} {b : Nat} (h : sa α β b) (g : sa β γ b) : sa α γ b := by
  obtain ⟨h1, h2, h3, h4, h5, h6, h7, h8⟩ := h
  obtain ⟨g1, g2, g3, g4, g5, g6, g7, g8⟩ := g
  exact ⟨g1.trans h1, fun φ => (g2 φ).trans (h2 φ), fun φ => (g3 φ).trans (h3 φ), fun φ => (g4 φ).trans (h4 φ), fun φ => (g5 φ).trans (h5 φ), fun κ j => (g6 κ j).trans (h6 κ j), fun κ j => (g7 κ j).trans (h7 κ j), fun κ j => (g8 κ j).trans (h8 κ j)⟩
theorem lk_mem {φ v : Nat} : ∀ l : List (Nat × Nat), l.lookup φ = some v → (φ, v) ∈ l := by
  intro l
  induction l with
  | nil => intro h; cases h
  | cons q l ih =>
    intro h
    rw [List.lookup_cons] at h
    by_cases e : φ == q.1
    · rw [e] at h
      have e2 : φ = q.1 := by simpa using e
      have e3 : q.2 = v := by simpa using h
      rw [show q = (φ, v) by rw [e2, ← e3]]
      exact List.mem_cons_self
    · have e2 : (φ == q.1) = false := by simpa using e
      rw [e2] at h
      exact List.mem_cons_of_mem _ (ih h)
theorem gc_rk_mem {φ : Nat} (h : gc_rk φ ≠ 0) : (φ, gc_rk φ) ∈ gc_rt := by
  unfold gc_rk at h ⊢
  cases e : gc_rt.lookup φ with
  | none => rw [e] at h; exact absurd rfl h
  | some v => exact lk_mem gc_rt e
theorem gc_rt_ok : ∀ q ∈ gc_rt, q.1 / 50 ≤ 13 ∧ q.2 < 60 := by decide +kernel
theorem gc_t_lt {φ k : Nat} (h : gc_rk φ ≠ 0) (t : gc_t φ k) : k ≠ 0 ∧ k < 60 := by
  have := (gc_rt_ok _ (gc_rk_mem h)).2
  rcases t with t | t
  · rw [t]; exact ⟨h, this⟩
  · rw [t.2]; decide
theorem gc_q_lt {κ : Nat} : gc_qk κ < 60 := by
  unfold gc_qk
  split
  · decide
  · split
    · decide
    · split
      · decide
      · split <;> decide
theorem gc_q_20 {κ : Nat} (h : gc_qk κ ≠ 0) : 20 ≤ κ ∧ κ < 60 := by
  unfold gc_qk at h
  split at h
  · omega
  · split at h
    · omega
    · split at h
      · omega
      · split at h
        · omega
        · exact absurd rfl h
theorem gc_i0 (φ : Nat) : gc_i φ 0 := fun _ => by decide
theorem gc_nw {α : hp_T} {h κ : Nat} (g : GC α) (hh : hp_K α h = 0) (hκ : 20 ≤ κ) : GC (hp_nw α h κ) := by
  obtain ⟨g1, g2, g3, g4⟩ := g
  have hk : ∀ b, b ≠ h → hp_K (hp_nw α h κ) b = hp_K α b := fun b hb => by simp [hp_K, hp_nw, hb]
  have hkh : hp_K (hp_nw α h κ) h = κ := by simp [hp_K, hp_nw]
  refine ⟨fun φ a => ?_, fun φ a ha hr => ?_, fun a b ha hb => ?_, fun κ' a j b ha hq hb => ?_⟩
  · by_cases e : a = h
    · rw [show hp_I (hp_nw α h κ) φ a = 0 by simp [hp_I, hp_nw, e]]; exact gc_i0 φ
    · rw [show hp_I (hp_nw α h κ) φ a = hp_I α φ a by simp [hp_I, hp_nw, e]]; exact g1 φ a
  · have h13 := (gc_rt_ok _ (gc_rk_mem hr)).1
    by_cases e : a = h
    · rw [e, hkh] at ha
      simp only at h13
      omega
    · rw [hk a e] at ha
      have t := g2 φ a ha hr
      have hne : hp_R α φ a ≠ h := fun q => (gc_t_lt hr t).1 (by rw [q]; exact hh)
      show gc_t φ (hp_K (hp_nw α h κ) (hp_R α φ a))
      rw [hk _ hne]; exact t
  · by_cases e : a = h
    · rw [show hp_N (hp_nw α h κ) 618 a = none by simp [hp_N, hp_nw, e]] at hb; cases hb
    · rw [hk a e] at ha
      rw [show hp_N (hp_nw α h κ) 618 a = hp_N α 618 a by simp [hp_N, hp_nw, e]] at hb
      have t := g3 a b ha hb
      rw [hk b (fun q => by rw [q, hh] at t; cases t)]; exact t
  · by_cases e : a = h
    · rw [show hp_Q (hp_nw α h κ) κ' a j = none by simp [hp_Q, hp_nw, e]] at hb; cases hb
    · rw [hk a e] at ha
      rw [show hp_Q (hp_nw α h κ) κ' a j = hp_Q α κ' a j by simp [hp_Q, hp_nw, e]] at hb
      have t := g4 κ' a j b ha hq hb
      rw [hk b (fun q => by rw [q, hh] at t; exact hq t.symm)]; exact t
theorem gc_sI {α : hp_T} {φ a : Nat} {v : Int32} (g : GC α) (hv : gc_i φ v) : GC (hp_sI α φ a v) := by
  refine ⟨fun ψ b => ?_, g.2⟩
  by_cases e : ψ = φ ∧ b = a
  · obtain ⟨rfl, rfl⟩ := e
    rw [hp_I_at]; exact hv
  · rw [show hp_I (hp_sI α φ a v) ψ b = hp_I α ψ b by simp [hp_I, hp_sI, hp_up, e]]; exact g.1 ψ b
theorem gc_sN {α : hp_T} {φ a : Nat} {x : Option Nat} (g : GC α) (hk : hp_K α a ≠ 12) : GC (hp_sN α φ a x) := by
  refine ⟨g.1, g.2.1, fun b c hb hc => ?_, g.2.2.2⟩
  have e : ¬ (618 = φ ∧ b = a) := fun q => hk (by rw [← q.2]; exact hb)
  rw [show hp_N (hp_sN α φ a x) 618 b = hp_N α 618 b by simp [hp_N, hp_sN, hp_up, e]] at hc
  exact g.2.2.1 b c hb hc
theorem gc_sQ {α : hp_T} {κ a j w : Nat} (g : GC α) (hw : hp_K α w = gc_qk κ) : GC (hp_sQ α κ a j (some w)) := by
  refine ⟨g.1, g.2.1, g.2.2.1, fun κ' b i c hb hq hc => ?_⟩
  by_cases e : κ' = κ ∧ b = a ∧ i = j
  · obtain ⟨rfl, rfl, rfl⟩ := e
    rw [show hp_Q (hp_sQ α κ' b i (some w)) κ' b i = some w by simp [hp_Q, hp_sQ, hp_uq]] at hc
    cases hc
    exact hw
  · rw [show hp_Q (hp_sQ α κ a j (some w)) κ' b i = hp_Q α κ' b i by simp [hp_Q, hp_sQ, hp_uq, e]] at hc
    exact g.2.2.2 κ' b i c hb hq hc
/-- since α0 all that was there stays, but the object a0 -/
def gx (a0 : Nat) (α0 α : hp_T) : Prop := GC α ∧ ∀ b, b ≠ a0 → hp_K α0 b ≠ 0 → sa α0 α b
theorem gx_rf {a0 : Nat} {α : hp_T} (g : GC α) : gx a0 α α := ⟨g, fun _ _ _ => sa_rf⟩
theorem gx_st {a0 : Nat} {α0 α β : hp_T} (h : gx a0 α0 α) (g : GC β) (hs : ∀ b, b ≠ a0 → hp_K α0 b ≠ 0 → hp_K α b ≠ 0 → sa α β b) : gx a0 α0 β := ⟨g, fun b h1 h2 => by
  have h3 := h.2 b h1 h2
  exact sa_tr h3 (hs b h1 h2 (by rw [h3.1]; exact h2))⟩
theorem sa_nw {α : hp_T} {h κ b : Nat} (hb : b ≠ h) : sa α (hp_nw α h κ) b := by
  refine ⟨?_, fun φ => ?_, fun φ => ?_, fun φ => rfl, fun φ => ?_, fun κ j => ?_, fun κ j => ?_, fun κ j => ?_⟩ <;> simp [hp_K, hp_I, hp_J, hp_N, hp_E, hp_L, hp_Q, hp_nw, hb]
theorem sa_sI {α : hp_T} {φ a b : Nat} {v : Int32} (hb : b ≠ a) : sa α (hp_sI α φ a v) b := by
  refine ⟨rfl, fun ψ => ?_, fun φ => rfl, fun φ => rfl, fun φ => rfl, fun κ j => rfl, fun κ j => rfl, fun κ j => rfl⟩
  simp [hp_I, hp_sI, hp_up, hb]
theorem sa_sN {α : hp_T} {φ a b : Nat} {v : Option Nat} (hb : b ≠ a) : sa α (hp_sN α φ a v) b := by
  refine ⟨rfl, fun ψ => rfl, fun φ => rfl, fun φ => rfl, fun ψ => ?_, fun κ j => rfl, fun κ j => rfl, fun κ j => rfl⟩
  simp [hp_N, hp_sN, hp_up, hb]
theorem sa_sQ {α : hp_T} {κ a j b : Nat} {v : Option Nat} (hb : b ≠ a) : sa α (hp_sQ α κ a j v) b := by
  refine ⟨rfl, fun ψ => rfl, fun φ => rfl, fun φ => rfl, fun ψ => rfl, fun κ j => rfl, fun κ j => rfl, fun κ j => ?_⟩
  simp [hp_Q, hp_sQ, hp_uq, hb]
theorem sa_sL {α : hp_T} {κ a j b : Nat} {v : Int64} (hb : b ≠ a) : sa α (hp_sL α κ a j v) b := by
  refine ⟨rfl, fun ψ => rfl, fun φ => rfl, fun φ => rfl, fun ψ => rfl, fun κ j => rfl, fun κ j => ?_, fun κ j => rfl⟩
  simp [hp_L, hp_sL, hp_uq, hb]
/-- an object under way: the references that it has, the ints that were set -/
def co (α0 : hp_T) (a0 κ : Nat) (α : hp_T) (l : List Nat) (f : List (Nat × Int32)) : Prop := hp_K α a0 = 100 + κ ∧ (∀ φ ∈ l, ∃ x, hp_N α φ a0 = some x ∧ gc_t φ (hp_K α x) ∧ hp_K α x ≠ 0 ∧ hp_K α x < 60 ∧ hp_K α0 x = 0 ∧ (20 ≤ hp_K α x → ∀ j, hp_E α (hp_K α x) x j = 0)) ∧ (∀ q ∈ f, hp_I α q.1 a0 = q.2) ∧ ∀ φ, (∀ q ∈ f, q.1 ≠ φ) → hp_I α φ a0 = 0
section CO
variable {α0 α β : hp_T} {a0 κ : Nat} {l : List Nat} {f : List (Nat × Int32)} {h κ' b φ x j w : Nat} {v : Int32}
theorem co_0 (hk : hp_K α a0 = 100 + κ) (z : ∀ φ, hp_I α φ a0 = 0) : co α a0 κ α [] [] := ⟨hk, fun _ h => (by cases h), fun _ h => (by cases h), fun φ _ => z φ⟩
/-- a step that leaves the object and all complete ones as they are -/
theorem co_st (O : co α0 a0 κ α l f) (h0 : sa α β a0) (hx : ∀ x, hp_K α x ≠ 0 → hp_K α x < 60 → sa α β x) : co α0 a0 κ β l f := by
  obtain ⟨o1, o2, o3, o4⟩ := O
  refine ⟨by rw [h0.1]; exact o1, fun φ hφ => ?_, fun q hq => by rw [h0.2.1]; exact o3 q hq, fun φ hφ => by rw [h0.2.1]; exact o4 φ hφ⟩
  obtain ⟨x, x1, x2, x3, x4, x5, x6⟩ := o2 φ hφ
  have hs := hx x x3 x4
  refine ⟨x, by rw [h0.2.2.2.2.1]; exact x1, by rw [hs.1]; exact x2, by rw [hs.1]; exact x3, by rw [hs.1]; exact x4, x5, fun h j => ?_⟩
  rw [hs.1] at h
  rw [hs.1, hs.2.2.2.2.2.1]
  exact x6 h j
theorem co_nw (O : co α0 a0 κ α l f) (hh : hp_K α h = 0) : co α0 a0 κ (hp_nw α h κ') l f :=
  co_st O (sa_nw (fun e => by rw [← e, O.1] at hh; omega)) (fun x hx _ => sa_nw (fun e => hx (by rw [e]; exact hh)))
theorem co_call (O : co α0 a0 κ α l f) (g : gx b α β) (hb : a0 ≠ b) (hkb : 60 ≤ hp_K α b) : co α0 a0 κ β l f :=
  co_st O (g.2 a0 hb (by rw [O.1]; omega)) (fun x h1 h2 => g.2 x (fun e => by rw [e] at h2; omega) h1)
theorem co_sQ (O : co α0 a0 κ α l f) : co α0 a0 κ (hp_sQ α κ' b j (some w)) l f := O
theorem co_sL {y : Int64} (O : co α0 a0 κ α l f) : co α0 a0 κ (hp_sL α κ' b j y) l f := O
theorem co_sN (O : co α0 a0 κ α l f) (hx : gc_t φ (hp_K α x) ∧ hp_K α x ≠ 0 ∧ hp_K α x < 60 ∧ hp_K α0 x = 0 ∧ (20 ≤ hp_K α x → ∀ j, hp_E α (hp_K α x) x j = 0)) : co α0 a0 κ (hp_sN α φ a0 (some x)) (φ :: l) f := by
  refine ⟨O.1, fun ψ hψ => ?_, O.2.2.1, O.2.2.2⟩
  by_cases e : ψ = φ
  · subst e
    exact ⟨x, by simp [hp_N, hp_sN, hp_up], hx⟩
  · obtain ⟨y, y1, y2⟩ := O.2.1 ψ (by rcases List.mem_cons.mp hψ with q | q; exact absurd q e; exact q)
    exact ⟨y, by rw [show hp_N (hp_sN α φ a0 (some x)) ψ a0 = hp_N α ψ a0 by simp [hp_N, hp_sN, hp_up, e]]; exact y1, y2⟩
theorem co_s0 (O : co α0 a0 κ α l f) (hφ : φ ∉ l) : co α0 a0 κ (hp_sN α φ a0 none) l f := by
  refine ⟨O.1, fun ψ hψ => ?_, O.2.2.1, O.2.2.2⟩
  have e : ψ ≠ φ := fun q => hφ (q ▸ hψ)
  obtain ⟨y, y1, y2⟩ := O.2.1 ψ hψ
  exact ⟨y, by rw [show hp_N (hp_sN α φ a0 none) ψ a0 = hp_N α ψ a0 by simp [hp_N, hp_sN, hp_up, e]]; exact y1, y2⟩
theorem co_sI (O : co α0 a0 κ α l f) (hφ : ∀ q ∈ f, q.1 ≠ φ) : co α0 a0 κ (hp_sI α φ a0 v) l ((φ, v) :: f) := by
  refine ⟨O.1, O.2.1, fun q hq => ?_, fun ψ hψ => ?_⟩
  · rcases List.mem_cons.mp hq with e | e
    · rw [e]; exact hp_I_at
    · rw [hp_I_ne (hφ q e)]; exact O.2.2.1 q e
  · have e : ψ ≠ φ := fun q => hψ (φ, v) List.mem_cons_self q.symm
    rw [hp_I_ne e]
    exact O.2.2.2 ψ (fun q hq => hψ q (List.mem_cons_of_mem _ hq))
theorem gx_new (G : gx a0 α0 α) (O : co α0 a0 κ α l f) (hh : hp_K α h = 0) : hp_K α0 h = 0 ∧ a0 ≠ h := by
  have hne : a0 ≠ h := fun e => by rw [← e, O.1] at hh; omega
  refine ⟨?_, hne⟩
  by_cases e : hp_K α0 h = 0
  · exact e
  · exact absurd ((G.2 h (fun q => hne q.symm) e).1.symm.trans hh) e
theorem gx_nw (G : gx a0 α0 α) (hκ : 20 ≤ κ') (hh : hp_K α h = 0) : gx a0 α0 (hp_nw α h κ') :=
  gx_st G (gc_nw G.1 hh hκ) (fun b _ _ h3 => sa_nw (fun e => h3 (by rw [e]; exact hh)))
theorem gx_sI (G : gx a0 α0 α) (hv : gc_i φ v) : gx a0 α0 (hp_sI α φ a0 v) := gx_st G (gc_sI G.1 hv) (fun _ h1 _ _ => sa_sI h1)
theorem gx_sN {y : Option Nat} (G : gx a0 α0 α) (O : co α0 a0 κ α l f) : gx a0 α0 (hp_sN α φ a0 y) := gx_st G (gc_sN G.1 (by rw [O.1]; omega)) (fun _ h1 _ _ => sa_sN h1)
theorem gx_sQ (G : gx a0 α0 α) (hb : hp_K α0 b = 0) (hw : hp_K α w = gc_qk κ') : gx a0 α0 (hp_sQ α κ' b j (some w)) := gx_st G (gc_sQ G.1 hw) (fun _ _ h2 _ => sa_sQ (fun e => h2 (by rw [e]; exact hb)))
theorem gx_sL {y : Int64} (G : gx a0 α0 α) (hb : hp_K α0 b = 0) : gx a0 α0 (hp_sL α κ' b j y) := gx_st G G.1 (fun _ _ h2 _ => sa_sL (fun e => h2 (by rw [e]; exact hb)))
theorem gx_call (G : gx a0 α0 α) (g : gx b α β) (hb : hp_K α0 b = 0) : gx a0 α0 β := gx_st G g.1 (fun _ _ h2 h3 => g.2 _ (fun e => h2 (by rw [e]; exact hb)) h3)
/-- the object is complete: its kind is its class's -/
def hp_cv (α : hp_T) (a κ : Nat) : hp_T := (fun b => if b = a then κ else α.1 b, α.2.1, α.2.2.1, fun φ b => if b = a then (α.2.2.2.2.1 φ a).getD 0 else α.2.2.2.1 φ b, α.2.2.2.2)
theorem cv_fv {a : Nat} : ∀ (ts : List Nat) (ψ : Nat), (∀ k, ts[k]? = some 1 → hp_N α (ψ + k) a ≠ none) → hp_fv (hp_cv α a κ) a ts ψ = hp_fv α a (ts.map hp_rw) ψ := by
  intro ts
  induction ts with
  | nil => intro ψ _; rfl
  | cons t ts ih =>
    intro ψ ht
    show _ :: _ = _ :: _
    rw [ih (ψ + 1) (fun k hk => by rw [show ψ + 1 + k = ψ + (k + 1) by omega]; exact ht (k + 1) hk)]
    congr 1
    unfold hp_rw
    by_cases e : t = 1
    · subst e
      have h0 := ht 0 rfl
      cases hn : hp_N α ψ a with
      | none => exact absurd hn h0
      | some x =>
        have hr : hp_R (hp_cv α a κ) ψ a = x := by
          show (if a = a then (hp_N α ψ a).getD 0 else hp_R α ψ a) = x
          rw [if_pos rfl, hn]; rfl
        simp [hp_v, hr, hn, va_rf]
    · rw [if_neg e]
      simp [hp_v, e, hp_I, hp_J, hp_N, hp_cv]
theorem hp_Rep.cv {Γ : hp_G} {H : Heap} {a : Nat} (R : hp_Rep Γ α H) (hk : hp_K α a = 100 + κ) (hκ : 1 ≤ κ ∧ κ < 20) (hn : ∀ k, (hp_tg κ)[k]? = some 1 → hp_N α (50 * κ + k) a ≠ none) : hp_Rep Γ (hp_cv α a κ) H := by
  refine ⟨R.1, R.2.1, fun b hb => ?_⟩
  by_cases e : b = a
  · subst e
    have hkb : hp_K (hp_cv α b κ) b = κ := by simp [hp_K, hp_cv]
    rw [hkb]
    obtain ⟨r1, r2⟩ := R.2.2 b (by rw [hk]; omega)
    refine ⟨r1, ?_⟩
    rw [hk, hp_ce_c (by unfold hp_isC; simp; omega), hp_b_100] at r2
    have hc : hp_isC κ = true := by unfold hp_isC; simp; omega
    have hbk : hp_b κ = κ := by unfold hp_b; rw [if_pos (by omega)]
    have htg : hp_tg (100 + κ) = (hp_tg κ).map hp_rw := by
      unfold hp_tg
      rw [if_neg (by omega), if_pos (by omega), show 100 + κ - 101 = κ - 1 by omega]
    rw [hp_ce_c hc, hbk, cv_fv _ _ hn, ← htg]
    exact r2
  · have hkb : hp_K (hp_cv α a κ) b = hp_K α b := by simp [hp_K, hp_cv, e]
    rw [hkb] at hb ⊢
    obtain ⟨r1, r2⟩ := R.2.2 b hb
    refine ⟨r1, ?_⟩
    have hce := hp_ce_neE (dA := Γ.2.2.2.1) (α := α) (β := hp_cv α a κ) (b := b) (fun t φ => by simp [hp_v, hp_I, hp_J, hp_R, hp_N, hp_cv, e]) (fun κ' => ⟨rfl, rfl, rfl⟩) (hp_K α b)
    rw [hce]
    exact r2
theorem cv_k (hb : b ≠ a0) : hp_K (hp_cv α a0 κ) b = hp_K α b := by simp [hp_K, hp_cv, hb]
theorem gc_cv (g : GC α) (hk : hp_K α a0 = 100 + κ) (hκ : 1 ≤ κ ∧ κ < 20) (hn : ∀ φ, φ / 50 = κ → gc_rk φ ≠ 0 → ∃ x, hp_N α φ a0 = some x ∧ gc_t φ (hp_K α x)) (h3 : κ = 12 → hp_N α 618 a0 = none) : GC (hp_cv α a0 κ) := by
  obtain ⟨g1, g2, g3, g4⟩ := g
  have hk0 : hp_K (hp_cv α a0 κ) a0 = κ := by simp [hp_K, hp_cv]
  refine ⟨g1, fun φ a ha hr => ?_, fun a b ha hb => ?_, fun κ' a j b ha hq hb => ?_⟩
  · by_cases e : a = a0
    · subst e
      rw [hk0] at ha
      obtain ⟨x, x1, x2⟩ := hn φ ha.symm hr
      have hR : hp_R (hp_cv α a κ) φ a = x := by
        show (if a = a then (hp_N α φ a).getD 0 else hp_R α φ a) = x
        rw [if_pos rfl, x1]; rfl
      have hx := (gc_t_lt hr x2).2
      rw [hR, cv_k (fun q => by rw [q, hk] at hx; omega)]
      exact x2
    · rw [cv_k e] at ha
      have t := g2 φ a ha hr
      have hR : hp_R (hp_cv α a0 κ) φ a = hp_R α φ a := by simp [hp_R, hp_cv, e]
      have hx := (gc_t_lt hr t).2
      rw [hR, cv_k (fun q => by rw [q, hk] at hx; omega)]
      exact t
  · have hb' : hp_N α 618 a = some b := hb
    by_cases e : a = a0
    · subst e
      rw [hk0] at ha
      rw [h3 ha] at hb'; cases hb'
    · rw [cv_k e] at ha
      have t := g3 a b ha hb'
      rw [cv_k (fun q => by rw [q, hk] at t; omega)]; exact t
  · have hb' : hp_Q α κ' a j = some b := hb
    by_cases e : a = a0
    · subst e
      rw [hk0] at ha
      have := (gc_q_20 hq).1
      omega
    · rw [cv_k e] at ha
      have t := g4 κ' a j b ha hq hb'
      have := gc_q_lt (κ := κ')
      rw [cv_k (fun q => by rw [q, hk] at t; omega)]; exact t
theorem gx_cv (G : gx a0 α0 α) (g : GC (hp_cv α a0 κ)) : gx a0 α0 (hp_cv α a0 κ) := gx_st G g (fun b h1 _ _ => by
  refine ⟨cv_k h1, fun _ => rfl, fun _ => rfl, fun φ => ?_, fun _ => rfl, fun _ _ => rfl, fun _ _ => rfl, fun _ _ => rfl⟩
  simp [hp_R, hp_cv, h1])
/-- the references of a class -/
def gc_fl (κ : Nat) : List Nat := (gc_rt.filter (fun q => q.1 / 50 == κ)).map (fun q => q.1)
theorem co_done {Γ : hp_G} {H : Heap} {s : State} {locs : List Loc} (B : hp_B Γ (gx a0) s α0 α H locs) (O : co α0 a0 κ α l f) (hκ : 1 ≤ κ ∧ κ < 20) (hl : ∀ φ ∈ gc_fl κ, φ ∈ l) (ht : ∀ k, (hp_tg κ)[k]? = some 1 → 50 * κ + k ∈ l) (h3 : κ = 12 → hp_N α 618 a0 = none) : hp_B Γ (gx a0) s α0 (hp_cv α a0 κ) H locs ∧ hp_K (hp_cv α a0 κ) a0 = κ ∧ (∀ q ∈ f, hp_I (hp_cv α a0 κ) q.1 a0 = q.2) ∧ (∀ φ, (∀ q ∈ f, q.1 ≠ φ) → hp_I (hp_cv α a0 κ) φ a0 = 0) ∧ ∀ φ ∈ l, ∃ x, hp_R (hp_cv α a0 κ) φ a0 = x ∧ hp_N α φ a0 = some x ∧ hp_K (hp_cv α a0 κ) x = hp_K α x ∧ gc_t φ (hp_K α x) ∧ (20 ≤ hp_K α x → ∀ j, hp_E α (hp_K α x) x j = 0) := by
  have gC : GC (hp_cv α a0 κ) := gc_cv B.2.2.1 O.1 hκ (fun φ h1 h2 => by
    obtain ⟨x, x1, x2, -⟩ := O.2.1 φ (hl φ (List.mem_map.mpr ⟨(φ, gc_rk φ), List.mem_filter.mpr ⟨gc_rk_mem h2, by simpa using h1⟩, rfl⟩))
    exact ⟨x, x1, x2⟩) h3
  refine ⟨⟨B.1.cv O.1 hκ (fun k hk => ?_), B.2.1, gx_cv B.2.2 gC⟩, by simp [hp_K, hp_cv], O.2.2.1, O.2.2.2, fun φ hφ => ?_⟩
  · obtain ⟨x, x1, -⟩ := O.2.1 _ (ht k hk)
    rw [x1]; intro q; cases q
  · obtain ⟨x, x1, x2, x3, x4, x5, x6⟩ := O.2.1 φ hφ
    refine ⟨x, ?_, x1, cv_k (fun q => by rw [q, O.1] at x4; omega), x2, x6⟩
    show (if a0 = a0 then (hp_N α φ a0).getD 0 else hp_R α φ a0) = x
    rw [if_pos rfl, x1]; rfl
end CO
theorem nw_k {α : hp_T} {h κ : Nat} : hp_K (hp_nw α h κ) h = κ := by simp [hp_K, hp_nw]
theorem nw_i {α : hp_T} {h κ φ : Nat} : hp_I (hp_nw α h κ) φ h = 0 := by simp [hp_I, hp_nw]
theorem nw_e {α : hp_T} {h κ ψ j : Nat} : hp_E (hp_nw α h κ) ψ h j = 0 := by simp [hp_E, hp_nw]
theorem sN_at {α : hp_T} {φ a : Nat} {x : Option Nat} : hp_N (hp_sN α φ a x) φ a = x := by simp [hp_N, hp_sN, hp_up]
theorem co_fin {α0 α : hp_T} {a0 κ : Nat} {l : List Nat} {f : List (Nat × Int32)} {Γ : hp_G} {H : Heap} {s : State} {locs : List Loc} (B : hp_B Γ (gx a0) s α0 α H locs) (O : co α0 a0 κ α l f) (hκ : 1 ≤ κ ∧ κ < 20) (hl : ∀ φ ∈ gc_fl κ, φ ∈ l) (ht : ∀ k, k < (hp_tg κ).length → (hp_tg κ)[k]? = some 1 → 50 * κ + k ∈ l) (h3 : κ = 12 → hp_N α 618 a0 = none) : hp_B Γ (gx a0) s α0 (hp_cv α a0 κ) H locs ∧ hp_K (hp_cv α a0 κ) a0 = κ ∧ (∀ q ∈ f, hp_I (hp_cv α a0 κ) q.1 a0 = q.2) ∧ (∀ φ, (∀ q ∈ f, q.1 ≠ φ) → hp_I (hp_cv α a0 κ) φ a0 = 0) ∧ ∀ φ ∈ l, ∃ x, hp_R (hp_cv α a0 κ) φ a0 = x ∧ hp_N α φ a0 = some x ∧ hp_K (hp_cv α a0 κ) x = hp_K α x ∧ gc_t φ (hp_K α x) ∧ (20 ≤ hp_K α x → ∀ j, hp_E α (hp_K α x) x j = 0) := co_done B O hκ hl (fun k hk => ht k (List.getElem?_eq_some_iff.mp hk).1 hk) h3
