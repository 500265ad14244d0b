/-! ===== pure functions: what comes of them ===== -/
def ws {R : Type} (o : Option R) (P : R → Prop) : Prop := ∃ r, o = some r ∧ P r
section WS
variable {R A : Type} {P Q : R → Prop} {k : Option R} {i j : Int32} {n : Nat}
theorem ws_s {r : R} (h : P r) : ws (some r) P := ⟨r, rfl, h⟩
theorem ws_m {o : Option R} (h : ws o P) (g : ∀ r, P r → Q r) : ws o Q := by
  obtain ⟨r, h1, h2⟩ := h
  exact ⟨r, h1, g r h2⟩
theorem ws_g (h0 : 0 ≤ i.toInt) (h1 : i.toInt < (n : Int)) (h : ws k P) : ws (ms_g i n k) P := by
  unfold ms_g; rw [if_pos ⟨h0, h1⟩]; exact h
theorem ws_n (h0 : ¬ i = 0) (h : ws k P) : ws (ms_n i k) P := by
  unfold ms_n; rw [if_neg h0]; exact h
theorem ws_nl {i : Int64} (h0 : ¬ i = 0) (h : ws k P) : ws (ms_nl i k) P := by
  unfold ms_nl; rw [if_neg h0]; exact h
theorem ws_z (h0 : i = 0 ∨ i = 1) (h : ws k P) : ws (ms_z i k) P := by
  unfold ms_z; rw [if_pos h0]; exact h
theorem ws_q (h0 : 0 ≤ i.toInt) (h1 : i.toInt < j.toInt) (h : ws k P) : ws (ms_q i j k) P := by
  unfold ms_q; rw [if_pos ⟨h0, h1⟩]; exact h
theorem ws_l {v : A} {k : A → Option R} (h : ws (k v) P) : ws (ms_l v k) P := h
theorem ws_ln {v : A} {k : A → Option R} (h : ∀ x, x = v → ws (k x) P) : ws (ms_l v k) P := h v rfl
theorem ws_b {x : Option A} {k : A → Option R} {S : A → Prop} (h : ws x S) (g : ∀ a, S a → ws (k a) P) : ws (ms_b x k) P := by
  obtain ⟨a, h1, h2⟩ := h
  unfold ms_b; rw [h1]; exact g a h2
theorem ws_c {x : Option (A × ms_T)} {k : A → ms_T → Option R} {S : A × ms_T → Prop} (h : ws x S) (g : ∀ a τ, S (a, τ) → ws (k a τ) P) : ws (ms_c x k) P := by
  obtain ⟨a, h1, h2⟩ := h
  unfold ms_c; rw [h1]; exact g a.1 a.2 h2
theorem ws_i {c : Prop} [Decidable c] {a b : Option R} (h : c → ws a P) (g : ¬ c → ws b P) : ws (if c then a else b) P := by
  by_cases e : c
  · rw [if_pos e]; exact h e
  · rw [if_neg e]; exact g e
theorem ws_lt {a b : Option R} (h : i.toInt < j.toInt → ws a P) (g : j.toInt ≤ i.toInt → ws b P) : ws (if i < j then a else b) P := ws_i (fun e => h (il_lt e)) (fun e => g (il_nlt e))
theorem ws_le {a b : Option R} (h : i.toInt ≤ j.toInt → ws a P) (g : j.toInt < i.toInt → ws b P) : ws (if i ≤ j then a else b) P := ws_i (fun e => h (il_le e)) (fun e => g (il_nle e))
theorem ws_e {a b : Option R} (h : i = j → ws a P) (g : ¬ i.toInt = j.toInt → ws b P) : ws (if i = j then a else b) P := ws_i h (fun e => g (il_ne e))
end WS
theorem mI_sI {σ : ms_T} {φ ψ : Nat} {v : Int32} : ms_I (ms_sI σ φ v) ψ = if ψ = φ then v else ms_I σ ψ := rfl
theorem mI_sE {σ : ms_T} {κ j ψ : Nat} {v : Int32} : ms_I (ms_sE σ κ j v) ψ = ms_I σ ψ := rfl
theorem mI_sJ {σ : ms_T} {ψ : Nat} {v : Int64} : ms_I (ms_sJ σ v) ψ = ms_I σ ψ := rfl
theorem mE_sI {σ : ms_T} {φ κ j : Nat} {v : Int32} : ms_E (ms_sI σ φ v) κ j = ms_E σ κ j := rfl
theorem mE_sE {σ : ms_T} {κ j ψ i : Nat} {v : Int32} : ms_E (ms_sE σ κ j v) ψ i = if ψ = κ ∧ i = j then v else ms_E σ ψ i := rfl
/-- the reference's ranges: of the cells, of what counts stay between calls -/
def rC (f : Nat → Int32) : Prop := (1 ≤ (f 0).toInt ∧ (f 0).toInt ≤ 4) ∧ (101 ≤ (f 1).toInt ∧ (f 1).toInt ≤ 65521) ∧ (0 ≤ (f 2).toInt ∧ (f 2).toInt ≤ 64) ∧ (0 ≤ (f 3).toInt ∧ (f 3).toInt ≤ 16) ∧ (∀ r, r < 4 → 0 ≤ (f (72 + r)).toInt ∧ (f (72 + r)).toInt ≤ 48) ∧ (∀ w, w < 4 → 0 ≤ (f (76 + 4 * w)).toInt ∧ (f (76 + 4 * w)).toInt ≤ 48) ∧ (∀ i, i < 16 → 0 ≤ (f (92 + 10 * i)).toInt ∧ (f (92 + 10 * i)).toInt ≤ 3) ∧ (∀ i, i < 16 → 0 ≤ (f (93 + 10 * i)).toInt ∧ (f (93 + 10 * i)).toInt ≤ 48) ∧ (∀ q, q < 192 → 0 ≤ (f (252 + q)).toInt ∧ (f (252 + q)).toInt ≤ 8)
def rI (σ : ms_T) : Prop := (0 ≤ (ms_I σ 664).toInt ∧ (ms_I σ 664).toInt ≤ 8) ∧ (0 ≤ (ms_I σ 667).toInt ∧ (ms_I σ 667).toInt ≤ 900) ∧ (0 ≤ (ms_I σ 682).toInt ∧ (ms_I σ 682).toInt ≤ 20) ∧ (0 ≤ (ms_I σ 697).toInt ∧ (ms_I σ 697).toInt ≤ 900)
def RI (σ : ms_T) : Prop := rI σ ∧ rC (ms_E σ 40)
/-- clears() -/
def cl_P (σ τ : ms_T) : Prop := (∀ φ, ms_I τ φ = ms_I σ φ) ∧ (∀ κ j, κ ≠ 40 → ms_E τ κ j = ms_E σ κ j) ∧ ms_E τ 40 0 = 1 ∧ ms_E τ 40 1 = 65521 ∧ ∀ j, 2 ≤ j → j < 1980 → ms_E τ 40 j = 0
theorem cl_L (n : Nat) : ∀ (k : Nat) (σ σ0 : ms_T) (v : Int32), 0 ≤ v.toInt → v.toInt ≤ 1980 → 1980 - v.toInt < (k : Int) → (∀ φ, ms_I σ φ = ms_I σ0 φ) → (∀ κ j, κ ≠ 40 → ms_E σ κ j = ms_E σ0 κ j) → (∀ j : Nat, (j : Int) < v.toInt → ms_E σ 40 j = 0) → ws (f_X12_clears_L2 n k σ v) (cl_P σ0) := by
  intro k
  induction k with
  | zero => intro σ σ0 v h0 h1 h2; omega
  | succ k ih =>
    intro σ σ0 v h0 h1 h2 hI hE hz
    have l1 : (1980 : Int32).toInt = 1980 := by decide
    rw [f_X12_clears_L2.eq_2]
    refine ws_le (fun c => ?_) (fun c => ?_)
    · refine ws_g (by decide) (by decide) (ws_l (ws_g (by decide) (by decide) (ws_l (ws_s ?_))))
      refine ⟨fun φ => by rw [mI_sE, mI_sE]; exact hI φ, fun κ j hκ => ?_, ?_, ?_, fun j h2 h3 => ?_⟩
      · rw [mE_sE, mE_sE, if_neg (fun q => hκ q.1), if_neg (fun q => hκ q.1)]; exact hE κ j hκ
      · rw [mE_sE, mE_sE, if_neg (by decide), if_pos (by decide)]
      · rw [mE_sE, if_pos (by decide)]
      · have z0 : (0 : Int32).toNatClampNeg = 0 := by decide
        have z1 : (1 : Int32).toNatClampNeg = 1 := by decide
        rw [mE_sE, mE_sE, z0, z1, if_neg (fun q => by omega), if_neg (fun q => by omega)]
        exact hz j (by omega)
    · have hc := ic_clamp h0
      have e1 : (v + 1).toInt = v.toInt + 1 := ii_add (x := v) (y := 1) (by rw [show (1 : Int32).toInt = 1 from rfl]; omega) (by rw [show (1 : Int32).toInt = 1 from rfl]; omega)
      refine ws_g h0 (by omega) (ws_l (ws_l ?_))
      refine ih _ σ0 (v + 1) (by omega) (by omega) (by omega) (fun φ => by rw [mI_sE]; exact hI φ) (fun κ j hκ => ?_) (fun j hj => ?_)
      · rw [mE_sE, if_neg (fun q => hκ q.1)]; exact hE κ j hκ
      · rw [mE_sE]
        by_cases e : j = v.toNatClampNeg
        · rw [if_pos ⟨rfl, e⟩]
        · rw [if_neg (fun q => e q.2)]
          exact hz j (by omega)
theorem s_clears (n : Nat) (hn : 1981 ≤ n) (σ : ms_T) : ws (f_X12_clears n σ) (cl_P σ) := by
  unfold f_X12_clears
  exact cl_L n n σ σ 0 (by decide) (by decide) (by rw [show (0 : Int32).toInt = 0 from rfl]; omega) (fun _ => rfl) (fun _ _ _ => rfl) (fun j hj => by rw [show (0 : Int32).toInt = 0 from rfl] at hj; omega)
theorem cl_rC {σ τ : ms_T} (h : cl_P σ τ) : rC (ms_E τ 40) := by
  obtain ⟨-, -, h0, h1, hz⟩ := h
  have z : (0 : Int32).toInt = 0 := rfl
  refine ⟨by rw [h0]; decide, by rw [h1]; decide, by rw [hz 2 (by omega) (by omega)]; decide, by rw [hz 3 (by omega) (by omega)]; decide, fun r hr => ?_, fun r hr => ?_, fun r hr => ?_, fun r hr => ?_, fun r hr => ?_⟩
  · rw [hz _ (by omega) (by omega)]; decide
  · rw [hz _ (by omega) (by omega)]; decide
  · rw [hz _ (by omega) (by omega)]; decide
  · rw [hz _ (by omega) (by omega)]; decide
  · rw [hz _ (by omega) (by omega)]; decide
theorem gc_mo {α β : hp_T} (h : mo α β) (g : GC α) : GC β := by
  obtain ⟨h1, h2, h3, h4, h5, h6, h7⟩ := h
  obtain ⟨g1, g2, g3, g4⟩ := g
  refine ⟨fun φ a => ?_, ?_, ?_, ?_⟩
  · intro hφ
    have hφ2 : φ = 453 ∨ φ = 301 := by simpa using hφ
    rw [h6 φ (by omega)]
    exact g1 φ a hφ
  · rw [h1, h2]; exact g2
  · rw [h1, h3]; exact g3
  · rw [h1, h4]; exact g4
/-! the reference's constructor -/
def lwx (α : hp_T) (a0 : Nat) : Prop := ∃ h, hp_N α 678 a0 = some h ∧ hp_K α h ≠ 0 ∧ ∀ j, j < 12 → hp_L α 48 h j = ms_w j
theorem lwx_nw {α : hp_T} {a0 h κ : Nat} (l : lwx α a0) (hk : hp_K α a0 ≠ 0) (hh : hp_K α h = 0) : lwx (hp_nw α h κ) a0 := by
  obtain ⟨x, x1, x2, x3⟩ := l
  have s0 := sa_nw (α := α) (κ := κ) (b := a0) (h := h) (fun e => hk (by rw [e]; exact hh))
  have sx := sa_nw (α := α) (κ := κ) (b := x) (h := h) (fun e => x2 (by rw [e]; exact hh))
  exact ⟨x, by rw [s0.2.2.2.2.1]; exact x1, by rw [sx.1]; exact x2, fun j hj => by rw [sx.2.2.2.2.2.2.1]; exact x3 j hj⟩
theorem lwx_sN {α : hp_T} {a0 φ : Nat} {y : Option Nat} (l : lwx α a0) (hφ : φ ≠ 678) : lwx (hp_sN α φ a0 y) a0 := by
  obtain ⟨x, x1, x2, x3⟩ := l
  exact ⟨x, by rw [show hp_N (hp_sN α φ a0 y) 678 a0 = hp_N α 678 a0 by simp [hp_N, hp_sN, hp_up, Ne.symm hφ]]; exact x1, x2, x3⟩
theorem sL_step {α : hp_T} {h i : Nat} {v : Int64} (l : ∀ j, j < i → hp_L α 48 h j = ms_w j) (hv : ms_w i = v) : ∀ j, j < i + 1 → hp_L (hp_sL α 48 h i v) 48 h j = ms_w j := by
  intro j hj
  rw [hp_sL_at]
  show (if j = i then v else hp_L α 48 h j) = ms_w j
  by_cases e : j = i
  · rw [if_pos e, e, hv]
  · rw [if_neg e]; exact l j (by omega)
theorem ms_mf_ok : ∀ q ∈ ms_mf, (ms_mf.lookup q.1).getD 0 = q.2 ∧ gc_rk q.2 = q.1 ∧ q.2 ≠ 350 ∧ 20 ≤ q.1 := by decide +kernel
theorem hm_make {α : hp_T} {a0 : Nat} {l : List Nat} (hk : hp_K (hp_cv α a0 13) a0 = 13) (hx : ∀ φ ∈ l, ∃ x, hp_R (hp_cv α a0 13) φ a0 = x ∧ hp_N α φ a0 = some x ∧ hp_K (hp_cv α a0 13) x = hp_K α x ∧ gc_t φ (hp_K α x) ∧ (20 ≤ hp_K α x → ∀ j, hp_E α (hp_K α x) x j = 0)) (hl : ∀ q ∈ ms_mf, q.2 ∈ l) (lw : lwx α a0) : ∃ ρ σ, hm_M (hp_cv α a0 13) a0 ρ σ ∧ (∀ φ, ms_I σ φ = hp_I (hp_cv α a0 13) φ a0) := by
  refine ⟨fun κ => hp_R (hp_cv α a0 13) ((ms_mf.lookup κ).getD 0) a0, (fun φ => hp_I (hp_cv α a0 13) φ a0, fun κ j => hp_E (hp_cv α a0 13) κ (hp_R (hp_cv α a0 13) ((ms_mf.lookup κ).getD 0) a0) j, hp_J (hp_cv α a0 13) 677 a0), ⟨hk, fun q hq => ?_, fun φ _ => rfl, fun κ j _ _ => rfl, rfl, fun j hj => ?_⟩, fun φ => rfl⟩
  · obtain ⟨o1, o2, o3, o4⟩ := ms_mf_ok q hq
    obtain ⟨x, x1, x2, x3, x4, -⟩ := hx q.2 (hl q hq)
    dsimp only
    rw [o1]
    refine ⟨rfl, ?_⟩
    rw [x1, x3]
    rcases x4 with e | e
    · rw [e, o2]
    · exact absurd e.1 o3
  · obtain ⟨x, x1, x2, x3, x4, -⟩ := hx 678 (hl (48, 678) (by decide))
    obtain ⟨y, y1, y2, y3⟩ := lw
    rw [y1] at x2
    cases x2
    show hp_L α 48 (hp_R (hp_cv α a0 13) 678 a0) j = ms_w j
    rw [x1]
    exact y3 j hj
