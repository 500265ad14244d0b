/-! ===== the class as pure functions over the picture: rows over them ===== -/
def hq_m {R : Type} (o : Option Nat) (x : Option R) (k : Nat → Option R) : Option R := match o with
  | none => x
  | some b => k b
def hq_c {A S R : Type} (x : Option (A × S)) (k : A → S → Option R) : Option R := match x with
  | some q => k q.1 q.2
  | none => none
theorem hq_N {R : Type} {x : Option R} {k : Nat → Option R} {r : R} (h : hq_m none x k = some r) : x = some r := h
theorem hq_S {R : Type} {b : Nat} {x : Option R} {k : Nat → Option R} {r : R} (h : hq_m (some b) x k = some r) : k b = some r := h
theorem hq_E {R : Type} {o : Option Nat} {x : Option R} {k : Nat → Option R} {r : R} (h : hq_m o x k = some r) : (o = none ∧ x = some r) ∨ ∃ b, o = some b ∧ k b = some r := by
  cases o with
  | none => exact Or.inl ⟨rfl, h⟩
  | some b => exact Or.inr ⟨b, rfl, h⟩
theorem hq_cE {A S R : Type} {x : Option (A × S)} {k : A → S → Option R} {r : R} (h : hq_c x k = some r) : ∃ a σ, x = some (a, σ) ∧ k a σ = some r := by
  cases x with
  | none => cases h
  | some q => exact ⟨q.1, q.2, rfl, h⟩
section HPD
variable {p : Program} {l : Launch} {e : Env} {R : Room} {s : State} {m : MethodId} {args : Array Value} {below : List Frame} {meth : Method} {c : Code} {H : Heap} {locs : List Loc} {cells slots : Nat} {Q : State → Prop} {cc : ByteArray} {nL : Nat} {own : String} {Γ : hp_G} {α0 α : hp_T} {Iv : hp_T → hp_T → Prop} {pc pc' : Nat} {ls : Array Slot} {rest st : List Value} {mc ms κ : Nat} {aa : Array Value} {v w : cw_W}
theorem d_ci {r : Int32} {τ : hp_T} (B : hp_B Γ (cw w) s α0 α H locs) (hr : va_Run p l e R s m args below meth c H locs cells slots mc ms (F0 m pc ls st) rest (hp_Qi Γ (fun r' β => r' = r ∧ β = τ ∧ cw v α β) aa) (hp_A Γ)) (hs : cw_sub v w = true) (hpc : pc + 3 = pc')
    (kk : ∀ (H1 : Heap) (locs1 : List Loc), hp_B Γ (cw w) s α0 τ H1 locs1 → W p l e R s m args below meth c H1 locs1 (cells + mc) (slots + ms) Q (F0 m pc' ls (.int r :: rest))) : W p l e R s m args below meth c H locs cells slots Q (F0 m pc ls st) :=
  q_ci B hr (fun _ _ h => cw_tr B.2.2 h.2.2 hs) hpc (fun r' β H1 L1 h B1 => by rw [h.1]; rw [h.2.1] at B1; exact kk H1 L1 B1)
theorem d_cv {τ : hp_T} (B : hp_B Γ (cw w) s α0 α H locs) (hr : va_Run p l e R s m args below meth c H locs cells slots mc ms (F0 m pc ls st) rest (hp_Qv Γ (fun β => β = τ ∧ cw v α β) aa) (hp_A Γ)) (hs : cw_sub v w = true) (hpc : pc + 3 = pc')
    (kk : ∀ (H1 : Heap) (locs1 : List Loc), hp_B Γ (cw w) s α0 τ H1 locs1 → W p l e R s m args below meth c H1 locs1 (cells + mc) (slots + ms) Q (F0 m pc' ls rest)) : W p l e R s m args below meth c H locs cells slots Q (F0 m pc ls st) :=
  q_cv B hr (fun _ h => cw_tr B.2.2 h.2 hs) hpc (fun β H1 L1 h B1 => by rw [h.1] at B1; exact kk H1 L1 B1)
/-- of what changes nothing -/
theorem d_pi {r : Int32} (B : hp_B Γ Iv s α0 α H locs) (hr : va_Run p l e R s m args below meth c H locs cells slots mc ms (F0 m pc ls st) rest (hp_Qi Γ (fun r' β => β = α ∧ r' = r) aa) (hp_A Γ)) (hpc : pc + 3 = pc')
    (kk : ∀ (H1 : Heap) (locs1 : List Loc), hp_B Γ Iv s α0 α H1 locs1 → W p l e R s m args below meth c H1 locs1 (cells + mc) (slots + ms) Q (F0 m pc' ls (.int r :: rest))) : W p l e R s m args below meth c H locs cells slots Q (F0 m pc ls st) :=
  q_ci B hr (fun _ _ h => by rw [h.1]; exact B.2.2) hpc (fun r' β H1 L1 h B1 => by rw [h.2]; rw [h.1] at B1; exact kk H1 L1 B1)
theorem d_pq {r : Option Nat} (B : hp_B Γ (cw w) s α0 α H locs) (hr : va_Run p l e R s m args below meth c H locs cells slots mc ms (F0 m pc ls st) rest (hp_Qq Γ (fun r' β => (β = α ∧ r' = r) ∧ ∀ b, r' = some b → hp_K α b = κ) aa) (hp_A Γ)) (hpc : pc + 3 = pc')
    (kk : ∀ (H1 : Heap) (locs1 : List Loc), hp_B Γ (cw w) s α0 α H1 locs1 → (∀ b, r = some b → hp_K α0 b = κ) → W p l e R s m args below meth c H1 locs1 (cells + mc) (slots + ms) Q (F0 m pc' ls (va_rf r :: rest))) : W p l e R s m args below meth c H locs cells slots Q (F0 m pc ls st) :=
  q_cq B hr (fun _ _ h => by rw [h.1.1]; exact B.2.2) hpc (fun r' β H1 L1 h B1 => by
    rw [h.1.2]; rw [h.1.1] at B1
    exact kk H1 L1 B1 (fun b hb => cw_k' B.2.2 (h.2 b (h.1.2.trans hb))))
end HPD
