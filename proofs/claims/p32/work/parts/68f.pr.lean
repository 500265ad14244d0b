/-! ===== what holds of whatever comes out ===== -/
def pr {R : Type} (o : Option R) (P : R → Prop) : Prop := ∀ r, o = some r → P r
section PR
variable {A S R : Type} {P Q : R → Prop} {i j : Int32} {n : Nat} {k : Option R}
theorem pr_0 : pr (none : Option R) P := fun _ h => by cases h
theorem pr_s {r : R} (h : P r) : pr (some r) P := fun r' e => by cases e; exact h
theorem pr_m {o : Option R} (h : pr o P) (g : ∀ r, P r → Q r) : pr o Q := fun r e => g r (h r e)
theorem pr_g (h : 0 ≤ i.toInt → i.toInt < (n : Int) → pr k P) : pr (ms_g i n k) P := fun r e => by
  obtain ⟨⟨h0, h1⟩, e⟩ := ms_gE e
  exact h h0 h1 r e
theorem pr_n (h : ¬ i = 0 → pr k P) : pr (ms_n i k) P := fun r e => h (ms_nE e).1 r (ms_nE e).2
theorem pr_nl {i : Int64} (h : ¬ i = 0 → pr k P) : pr (ms_nl i k) P := fun r e => h (ms_nlE e).1 r (ms_nlE e).2
theorem pr_q (h : 0 ≤ i.toInt → i.toInt < j.toInt → pr k P) : pr (ms_q i j k) P := fun r e => h (ms_qE e).1.1 (ms_qE e).1.2 r (ms_qE e).2
theorem pr_l {v : A} {k : A → Option R} (h : pr (k v) P) : pr (ms_l v k) P := h
theorem pr_ln {v : A} {k : A → Option R} (h : ∀ x, x = v → pr (k x) P) : pr (ms_l v k) P := h v rfl
theorem pr_b {x : Option A} {k : A → Option R} {T : A → Prop} (h : pr x T) (g : ∀ a, T a → pr (k a) P) : pr (ms_b x k) P := fun r e => by
  obtain ⟨a, e1, e2⟩ := ms_bE e
  exact g a (h a e1) r e2
theorem pr_c {x : Option (A × ms_T)} {k : A → ms_T → Option R} {T : A × ms_T → Prop} (h : pr x T) (g : ∀ a τ, T (a, τ) → pr (k a τ) P) : pr (ms_c x k) P := fun r e => by
  obtain ⟨a, τ, e1, e2⟩ := ms_cE e
  exact g a τ (h _ e1) r e2
theorem pr_i {c : Prop} [Decidable c] {a b : Option R} (h : c → pr a P) (g : ¬ c → pr b P) : pr (if c then a else b) P := by
  by_cases e : c
  · rw [if_pos e]; exact h e
  · rw [if_neg e]; exact g e
theorem pr_lt {a b : Option R} (h : i.toInt < j.toInt → pr a P) (g : j.toInt ≤ i.toInt → pr b P) : pr (if i < j then a else b) P := pr_i (fun e => h (il_lt e)) (fun e => g (il_nlt e))
theorem pr_le {a b : Option R} (h : i.toInt ≤ j.toInt → pr a P) (g : j.toInt < i.toInt → pr b P) : pr (if i ≤ j then a else b) P := pr_i (fun e => h (il_le e)) (fun e => g (il_nle e))
theorem pr_e {a b : Option R} (h : i = j → pr a P) (g : ¬ i.toInt = j.toInt → pr b P) : pr (if i = j then a else b) P := pr_i h (fun e => g (il_ne e))
theorem ws_pr {o : Option R} (h : ws o P) (g : pr o Q) : ws o (fun r => P r ∧ Q r) := by
  obtain ⟨r, e, p⟩ := h
  exact ⟨r, e, p, g r e⟩
theorem ws_hc {x : Option (A × S)} {k : A → S → Option R} {T : A × S → Prop} (h : ws x T) (g : ∀ a τ, T (a, τ) → ws (k a τ) P) : ws (hq_c x k) P := by
  obtain ⟨⟨a, τ⟩, rfl, q⟩ := h
  exact g a τ q
end PR
theorem hI_sI {α : hp_T} {φ a ψ b : Nat} {v : Int32} : hp_I (hp_sI α φ a v) ψ b = if ψ = φ ∧ b = a then v else hp_I α ψ b := rfl
theorem hI_sE {α : hp_T} {κ a j ψ b : Nat} {v : Int32} : hp_I (hp_sE α κ a j v) ψ b = hp_I α ψ b := rfl
theorem hE_sI {α : hp_T} {φ a κ b j : Nat} {v : Int32} : hp_E (hp_sI α φ a v) κ b j = hp_E α κ b j := rfl
theorem hE_sE {α : hp_T} {κ a i κ' b j : Nat} {v : Int32} : hp_E (hp_sE α κ a i v) κ' b j = if κ' = κ ∧ b = a ∧ j = i then v else hp_E α κ' b j := rfl
theorem hR_sI {α : hp_T} {φ a ψ b : Nat} {v : Int32} : hp_R (hp_sI α φ a v) ψ b = hp_R α ψ b := rfl
theorem hR_sE {α : hp_T} {κ a j ψ b : Nat} {v : Int32} : hp_R (hp_sE α κ a j v) ψ b = hp_R α ψ b := rfl
theorem hR_sR {α : hp_T} {φ a x ψ b : Nat} : hp_R (hp_sR α φ a x) ψ b = if ψ = φ ∧ b = a then x else hp_R α ψ b := rfl
theorem i_ofN {v : Int32} {k : Nat} (h : v.toInt = (k : Int)) : v = Int32.ofNat k := by
  rw [← Int32.toInt_inj, h, Int32.toInt_ofNat_of_lt]
  have := ib_hi v
  omega
