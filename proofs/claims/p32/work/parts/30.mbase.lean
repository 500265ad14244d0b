/-! ===== the reference as pure functions: its state, rows over it ===== -/
abbrev ms_T : Type := (Nat → Int32) × (Nat → Nat → Int32) × Int64
def ms_I (σ : ms_T) (φ : Nat) : Int32 := σ.1 φ
def ms_E (σ : ms_T) (κ j : Nat) : Int32 := σ.2.1 κ j
def ms_J (σ : ms_T) : Int64 := σ.2.2
def ms_sI (σ : ms_T) (φ : Nat) (v : Int32) : ms_T := (fun ψ => if ψ = φ then v else σ.1 ψ, σ.2)
def ms_sE (σ : ms_T) (κ j : Nat) (v : Int32) : ms_T := (σ.1, fun ψ i => if ψ = κ ∧ i = j then v else σ.2.1 ψ i, σ.2.2)
def ms_sJ (σ : ms_T) (v : Int64) : ms_T := (σ.1, σ.2.1, v)
def ms_w (j : Nat) : Int64 := ([9886, 841, 555, 129530, 95762147, 380237, 257, 151331, 411, 257105, 161140, 79] : List Int64).getD j 0
def ms_mf : List (Nat × Nat) := [(40, 650), (41, 651), (42, 654), (43, 655), (44, 656), (45, 662), (46, 663), (47, 666), (48, 678), (49, 680), (50, 681), (51, 686), (52, 687), (53, 688), (54, 690), (55, 691), (56, 692), (57, 693), (58, 694), (59, 696)]
/-- a guard, a name, what comes behind a part -/
def ms_g {R : Type} (i : Int32) (n : Nat) (k : Option R) : Option R := if 0 ≤ i.toInt ∧ i.toInt < (n : Int) then k else none
def ms_n {R : Type} (i : Int32) (k : Option R) : Option R := if i = 0 then none else k
def ms_nl {R : Type} (i : Int64) (k : Option R) : Option R := if i = 0 then none else k
def ms_z {R : Type} (i : Int32) (k : Option R) : Option R := if i = 0 ∨ i = 1 then k else none
def ms_q {R : Type} (i k : Int32) (o : Option R) : Option R := if 0 ≤ i.toInt ∧ i.toInt < k.toInt then o else none
def ms_l {A R : Type} (v : A) (k : A → Option R) : Option R := k v
def ms_b {A R : Type} (x : Option A) (k : A → Option R) : Option R := match x with
  | some a => k a
  | none => none
def ms_c {A R : Type} (x : Option (A × ms_T)) (k : A → ms_T → Option R) : Option R := match x with
  | some q => k q.1 q.2
  | none => none
theorem ms_gE {R : Type} {i : Int32} {n : Nat} {k : Option R} {r : R} (h : ms_g i n k = some r) : (0 ≤ i.toInt ∧ i.toInt < (n : Int)) ∧ k = some r := by
  unfold ms_g at h
  split at h
  · exact ⟨by assumption, h⟩
  · cases h
theorem ms_nE {R : Type} {i : Int32} {k : Option R} {r : R} (h : ms_n i k = some r) : ¬ i = 0 ∧ k = some r := by
  unfold ms_n at h
  split at h
  · cases h
  · exact ⟨by assumption, h⟩
theorem ms_nlE {R : Type} {i : Int64} {k : Option R} {r : R} (h : ms_nl i k = some r) : ¬ i = 0 ∧ k = some r := by
  unfold ms_nl at h
  split at h
  · cases h
  · exact ⟨by assumption, h⟩
theorem ms_zE {R : Type} {i : Int32} {k : Option R} {r : R} (h : ms_z i k = some r) : (i = 0 ∨ i = 1) ∧ k = some r := by
  unfold ms_z at h
  split at h
  · exact ⟨by assumption, h⟩
  · cases h
theorem ms_qE {R : Type} {i k : Int32} {o : Option R} {r : R} (h : ms_q i k o = some r) : (0 ≤ i.toInt ∧ i.toInt < k.toInt) ∧ o = some r := by
  unfold ms_q at h
  split at h
  · exact ⟨by assumption, h⟩
  · cases h
theorem ms_lE {A R : Type} {v x : A} {k : A → Option R} {r : R} (e : x = v) (h : ms_l v k = some r) : k x = some r := by
  rw [e]; exact h
theorem ms_bE {A R : Type} {x : Option A} {k : A → Option R} {r : R} (h : ms_b x k = some r) : ∃ a, x = some a ∧ k a = some r := by
  cases x with
  | none => cases h
  | some a => exact ⟨a, rfl, h⟩
theorem ms_cE {A R : Type} {x : Option (A × ms_T)} {k : A → ms_T → Option R} {r : R} (h : ms_c x k = some r) : ∃ a σ, x = some (a, σ) ∧ k a σ = some r := by
  cases x with
  | none => cases h
  | some q => exact ⟨q.1, q.2, rfl, h⟩
theorem ms_iT {R : Type} {c : Prop} [Decidable c] {a b r : R} (h : c) (e : (if c then a else b) = r) : a = r := by
  rw [if_pos h] at e; exact e
theorem ms_iF {R : Type} {c : Prop} [Decidable c] {a b r : R} (h : ¬ c) (e : (if c then a else b) = r) : b = r := by
  rw [if_neg h] at e; exact e
/-- the reference's object in the picture -/
def hm_M (α : hp_T) (a : Nat) (ρ : Nat → Nat) (σ : ms_T) : Prop := hp_K α a = 13 ∧ (∀ q ∈ ms_mf, hp_R α q.2 a = ρ q.1 ∧ hp_K α (ρ q.1) = q.1) ∧ (∀ φ, 650 ≤ φ → hp_I α φ a = ms_I σ φ) ∧ (∀ κ j, 40 ≤ κ → κ < 60 → hp_E α κ (ρ κ) j = ms_E σ κ j) ∧ hp_J α 677 a = ms_J σ ∧ (∀ j, j < 12 → hp_L α 48 (ρ 48) j = ms_w j)
/-- all else stays -/
def mo (α0 α : hp_T) : Prop := hp_K α = hp_K α0 ∧ hp_R α = hp_R α0 ∧ hp_N α = hp_N α0 ∧ hp_Q α = hp_Q α0 ∧ hp_L α = hp_L α0 ∧ (∀ φ, φ < 650 → hp_I α φ = hp_I α0 φ) ∧ (∀ κ, κ < 40 → hp_E α κ = hp_E α0 κ)
theorem mo_rf {α : hp_T} : mo α α := ⟨rfl, rfl, rfl, rfl, rfl, fun _ _ => rfl, fun _ _ => rfl⟩
theorem mo_tr {α β γ : hp_T} (h : mo α β) (g : mo β γ) : mo α γ := by
  obtain ⟨h1, h2, h3, h4, h5, h6, h7⟩ := h
  obtain ⟨g1, g2, g3, g4, g5, g6, g7⟩ := g
  exact ⟨g1.trans h1, g2.trans h2, g3.trans h3, g4.trans h4, g5.trans h5, fun φ hφ => (g6 φ hφ).trans (h6 φ hφ), fun κ hκ => (g7 κ hκ).trans (h7 κ hκ)⟩
theorem mo_sI {α0 α : hp_T} {φ a : Nat} {v : Int32} (h : mo α0 α) (hφ : 650 ≤ φ) : mo α0 (hp_sI α φ a v) := by
  refine mo_tr h ⟨rfl, rfl, rfl, rfl, rfl, fun ψ hψ => ?_, fun _ _ => rfl⟩
  funext b
  simp [hp_I, hp_sI, hp_up, show ψ ≠ φ by omega]
theorem mo_sJ {α0 α : hp_T} {φ a : Nat} {v : Int64} (h : mo α0 α) : mo α0 (hp_sJ α φ a v) := mo_tr h ⟨rfl, rfl, rfl, rfl, rfl, fun _ _ => rfl, fun _ _ => rfl⟩
theorem mo_sE {α0 α : hp_T} {κ a j : Nat} {v : Int32} (h : mo α0 α) (hκ : 40 ≤ κ) : mo α0 (hp_sE α κ a j v) := by
  refine mo_tr h ⟨rfl, rfl, rfl, rfl, rfl, fun _ _ => rfl, fun ψ hψ => ?_⟩
  funext b i
  simp [hp_E, hp_sE, hp_uq, show ψ ≠ κ by omega]
theorem hm_sI {α : hp_T} {a : Nat} {ρ : Nat → Nat} {σ : ms_T} {φ : Nat} {v : Int32} (h : hm_M α a ρ σ) : hm_M (hp_sI α φ a v) a ρ (ms_sI σ φ v) := by
  obtain ⟨h1, h2, h3, h4, h5, h6⟩ := h
  refine ⟨h1, h2, fun ψ hψ => ?_, h4, h5, h6⟩
  have := h3 ψ hψ
  by_cases e : ψ = φ
  · subst e; simp [hp_I, hp_sI, hp_up, ms_I, ms_sI]
  · simp only [hp_I, ms_I] at this
    simp [hp_I, hp_sI, hp_up, ms_I, ms_sI, e, this]
theorem hm_sJ {α : hp_T} {a : Nat} {ρ : Nat → Nat} {σ : ms_T} {v : Int64} (h : hm_M α a ρ σ) : hm_M (hp_sJ α 677 a v) a ρ (ms_sJ σ v) := by
  obtain ⟨h1, h2, h3, h4, h5, h6⟩ := h
  refine ⟨h1, h2, h3, h4, ?_, h6⟩
  simp [hp_J, hp_sJ, hp_up, ms_J, ms_sJ]
theorem hm_sE {α : hp_T} {a : Nat} {ρ : Nat → Nat} {σ : ms_T} {κ j : Nat} {v : Int32} (h : hm_M α a ρ σ) : hm_M (hp_sE α κ (ρ κ) j v) a ρ (ms_sE σ κ j v) := by
  obtain ⟨h1, h2, h3, h4, h5, h6⟩ := h
  refine ⟨h1, h2, h3, fun ψ i hψ hψ2 => ?_, h5, h6⟩
  have := h4 ψ i hψ hψ2
  by_cases e : ψ = κ ∧ i = j
  · obtain ⟨rfl, rfl⟩ := e; simp [hp_E, hp_sE, hp_uq, ms_E, ms_sE]
  · have e2 : ¬ (ψ = κ ∧ ρ ψ = ρ κ ∧ i = j) := fun q => e ⟨q.1, q.2.2⟩
    simp only [hp_E, ms_E] at this
    simp only [hp_E, hp_sE, hp_uq, ms_E, ms_sE, if_neg e, if_neg e2]
    exact this
section HPM
variable {p : Program} {l : Launch} {e : Env} {R : Room} {s : State} {m : MethodId} {args : Array Value} {below : List Frame} {meth : Method} {c : Code} {H : Heap} {locs : List Loc} {cells slots : Nat} {Q : State → Prop} {cc : ByteArray} {nL : Nat} {own : String} {Γ : hp_G} {α0 α : hp_T} {Iv : hp_T → hp_T → Prop} {pc pc' : Nat} {ls : Array Slot} {rest : List Value} {a κ k index φ n : Nat} {ρ : Nat → Nat} {σ : ms_T} {i x : Int32}
theorem ms_mf40 : ∀ q ∈ ms_mf, 40 ≤ q.1 := by decide
theorem ms_mf60 : ∀ q ∈ ms_mf, q.1 < 60 := by decide
theorem m_geti (C : hp_C Γ p m c cc nL s args own) (B : hp_B Γ Iv s α0 α H locs) (hM : hm_M α a ρ σ) (hF : hp_F own index 13 k) (ht : (hp_tg 13)[k]? = some 0) (hφ : 650 + k = φ) (hdg : decode cc pc = .ok (.getfield index, 3)) (hpc : pc + 3 = pc')
    (kk : W p l e R s m args below meth c H locs cells slots Q (F0 m pc' ls (.int (ms_I σ φ) :: rest))) : W p l e R s m args below meth c H locs cells slots Q (F0 m pc ls (.ref a :: rest)) := by
  subst hφ
  exact q_get (κ := 13) C B hM.1 hF rfl ht (show Value.int (hp_I α (650 + k) a) = Value.int (ms_I σ (650 + k)) by rw [hM.2.2.1 _ (by omega)]) hdg hpc kk
theorem m_getl (C : hp_C Γ p m c cc nL s args own) (B : hp_B Γ Iv s α0 α H locs) (hM : hm_M α a ρ σ) (hF : hp_F own index 13 27) (hdg : decode cc pc = .ok (.getfield index, 3)) (hpc : pc + 3 = pc')
    (kk : W p l e R s m args below meth c H locs cells slots Q (F0 m pc' ls (.long (ms_J σ) :: rest))) : W p l e R s m args below meth c H locs cells slots Q (F0 m pc ls (.ref a :: rest)) := by
  exact q_get (κ := 13) (k := 27) (t := 2) C B hM.1 hF rfl rfl (show Value.long (hp_J α 677 a) = Value.long (ms_J σ) by rw [hM.2.2.2.2.1]) hdg hpc kk
theorem m_getr (C : hp_C Γ p m c cc nL s args own) (B : hp_B Γ Iv s α0 α H locs) (hM : hm_M α a ρ σ) (hF : hp_F own index 13 k) (ht : (hp_tg 13)[k]? = some 1) (hm : (κ, 650 + k) ∈ ms_mf) (hdg : decode cc pc = .ok (.getfield index, 3)) (hpc : pc + 3 = pc')
    (kk : W p l e R s m args below meth c H locs cells slots Q (F0 m pc' ls (.ref (ρ κ) :: rest))) : W p l e R s m args below meth c H locs cells slots Q (F0 m pc ls (.ref a :: rest)) :=
  q_get (κ := 13) C B hM.1 hF rfl ht (show Value.ref (hp_R α (650 + k) a) = Value.ref (ρ κ) by rw [(hM.2.1 _ hm).1]) hdg hpc kk
theorem m_puti (C : hp_C Γ p m c cc nL s args own) (B : hp_B Γ mo s α0 α H locs) (hM : hm_M α a ρ σ) (hF : hp_F own index 13 k) (ht : (hp_tg 13)[k]? = some 0) (hφ : 650 + k = φ) (hfin : ((hp_q 13).2.1 k).2.2.2 = false) (hn : narrow (hp_ty 13 k) (.int x) = .int x) (hfit : fits (hp_ty 13 k) (.int x) = true) (hdg : decode cc pc = .ok (.putfield index, 3)) (hpc : pc + 3 = pc')
    (kk : ∀ (β : hp_T) (H1 : Heap) (locs1 : List Loc) (τ : ms_T), τ = ms_sI σ φ x → hp_B Γ mo s α0 β H1 locs1 → hm_M β a ρ τ → W p l e R s m args below meth c H1 locs1 cells slots Q (F0 m pc' ls rest)) : W p l e R s m args below meth c H locs cells slots Q (F0 m pc ls (.int x :: .ref a :: rest)) := by
  subst hφ
  exact q_puti (κ := 13) (φ := 650 + k) C B hM.1 hF rfl ht hfin hn hfit rfl (mo_sI B.2.2 (by omega)) hdg hpc (fun β H1 L1 eb B1 => kk β H1 L1 _ rfl B1 (by rw [eb]; exact hm_sI hM))
theorem m_putl {x : Int64} (C : hp_C Γ p m c cc nL s args own) (B : hp_B Γ mo s α0 α H locs) (hM : hm_M α a ρ σ) (hF : hp_F own index 13 27) (hdg : decode cc pc = .ok (.putfield index, 3)) (hpc : pc + 3 = pc')
    (kk : ∀ (β : hp_T) (H1 : Heap) (locs1 : List Loc) (τ : ms_T), τ = ms_sJ σ x → hp_B Γ mo s α0 β H1 locs1 → hm_M β a ρ τ → W p l e R s m args below meth c H1 locs1 cells slots Q (F0 m pc' ls rest)) : W p l e R s m args below meth c H locs cells slots Q (F0 m pc ls (.long x :: .ref a :: rest)) := by
  exact q_putl (κ := 13) (k := 27) (φ := 677) C B hM.1 hF rfl rfl rfl rfl rfl rfl (mo_sJ B.2.2) hdg hpc (fun β H1 L1 eb B1 => kk β H1 L1 _ rfl B1 (by rw [eb]; exact hm_sJ hM))
theorem m_ial (C : hp_C Γ p m c cc nL s args own) (B : hp_B Γ Iv s α0 α H locs) (hM : hm_M α a ρ σ) (hm : (κ, φ) ∈ ms_mf) (hc : 20 ≤ κ ∧ κ < 60) (hn : hp_ar κ = (0, n)) (hin : 0 ≤ i.toInt ∧ i.toInt < (n : Int)) (hdg : decode cc pc = .ok (.iaload, 1)) (hpc : pc + 1 = pc')
    (kk : W p l e R s m args below meth c H locs cells slots Q (F0 m pc' ls (.int (ms_E σ κ i.toNatClampNeg) :: rest))) : W p l e R s m args below meth c H locs cells slots Q (F0 m pc ls (.int i :: .ref (ρ κ) :: rest)) :=
  q_ial (κ := κ) C B (hM.2.1 _ hm).2 hc hn (vi_of hin.1 hin.2) hdg hpc (by rw [hM.2.2.2.1 _ _ (ms_mf40 _ hm) (ms_mf60 _ hm)]; exact kk)
theorem m_bal (C : hp_C Γ p m c cc nL s args own) (B : hp_B Γ Iv s α0 α H locs) (hM : hm_M α a ρ σ) (hm : (κ, φ) ∈ ms_mf) (hc : 20 ≤ κ ∧ κ < 60) (hn : hp_ar κ = (1, n)) (hin : 0 ≤ i.toInt ∧ i.toInt < (n : Int)) (hdg : decode cc pc = .ok (.baload, 1)) (hpc : pc + 1 = pc')
    (kk : W p l e R s m args below meth c H locs cells slots Q (F0 m pc' ls (.int (ms_E σ κ i.toNatClampNeg) :: rest))) : W p l e R s m args below meth c H locs cells slots Q (F0 m pc ls (.int i :: .ref (ρ κ) :: rest)) :=
  q_bal (κ := κ) C B (hM.2.1 _ hm).2 hc hn (vi_of hin.1 hin.2) hdg hpc (by rw [hM.2.2.2.1 _ _ (ms_mf40 _ hm) (ms_mf60 _ hm)]; exact kk)
theorem m_lal (C : hp_C Γ p m c cc nL s args own) (B : hp_B Γ Iv s α0 α H locs) (hM : hm_M α a ρ σ) (hin : 0 ≤ i.toInt ∧ i.toInt < ((12 : Nat) : Int)) (hdg : decode cc pc = .ok (.laload, 1)) (hpc : pc + 1 = pc')
    (kk : W p l e R s m args below meth c H locs cells slots Q (F0 m pc' ls (.long (ms_w i.toNatClampNeg) :: rest))) : W p l e R s m args below meth c H locs cells slots Q (F0 m pc ls (.int i :: .ref (ρ 48) :: rest)) :=
  q_lal (κ := 48) (n := 12) C B (hM.2.1 (48, 678) (by decide)).2 (by decide) rfl (vi_of hin.1 hin.2) hdg hpc (by
    have h1 := ic_clamp hin.1
    rw [hM.2.2.2.2.2 _ (by omega)]; exact kk)
theorem m_ias (C : hp_C Γ p m c cc nL s args own) (B : hp_B Γ mo s α0 α H locs) (hM : hm_M α a ρ σ) (hm : (κ, φ) ∈ ms_mf) (hc : 40 ≤ κ ∧ κ < 60) (hn : hp_ar κ = (0, n)) (hin : 0 ≤ i.toInt ∧ i.toInt < (n : Int)) (hdg : decode cc pc = .ok (.iastore, 1)) (hpc : pc + 1 = pc')
    (kk : ∀ (β : hp_T) (H1 : Heap) (locs1 : List Loc) (τ : ms_T), τ = ms_sE σ κ i.toNatClampNeg x → hp_B Γ mo s α0 β H1 locs1 → hm_M β a ρ τ → W p l e R s m args below meth c H1 locs1 cells slots Q (F0 m pc' ls rest)) : W p l e R s m args below meth c H locs cells slots Q (F0 m pc ls (.int x :: .int i :: .ref (ρ κ) :: rest)) :=
  q_ias (κ := κ) C B (hM.2.1 _ hm).2 ⟨by omega, hc.2⟩ hn (vi_of hin.1 hin.2) rfl (mo_sE B.2.2 hc.1) hdg hpc (fun β H1 L1 eb B1 => kk β H1 L1 _ rfl B1 (by rw [eb]; exact hm_sE hM))
theorem m_bas (C : hp_C Γ p m c cc nL s args own) (B : hp_B Γ mo s α0 α H locs) (hM : hm_M α a ρ σ) (hm : (κ, φ) ∈ ms_mf) (hc : 40 ≤ κ ∧ κ < 60) (hn : hp_ar κ = (1, n)) (hin : 0 ≤ i.toInt ∧ i.toInt < (n : Int)) (hdg : decode cc pc = .ok (.bastore, 1)) (hpc : pc + 1 = pc')
    (kk : ∀ (β : hp_T) (H1 : Heap) (locs1 : List Loc) (τ : ms_T), τ = ms_sE σ κ i.toNatClampNeg x.toInt8.toInt32 → hp_B Γ mo s α0 β H1 locs1 → hm_M β a ρ τ → W p l e R s m args below meth c H1 locs1 cells slots Q (F0 m pc' ls rest)) : W p l e R s m args below meth c H locs cells slots Q (F0 m pc ls (.int x :: .int i :: .ref (ρ κ) :: rest)) :=
  q_bas (κ := κ) (y := x.toInt8.toInt32) C B (hM.2.1 _ hm).2 ⟨by omega, hc.2⟩ hn (vi_of hin.1 hin.2) rfl rfl (mo_sE B.2.2 hc.1) hdg hpc (fun β H1 L1 eb B1 => kk β H1 L1 _ rfl B1 (by rw [eb]; exact hm_sE hM))
variable {st : List Value} {mc ms : Nat} {aa : Array Value}
/-- calls: of what changes the state, of what does not -/
theorem m_ci {r : Int32} {τ : ms_T} (B : hp_B Γ mo s α0 α H locs) (hr : va_Run p l e R s m args below meth c H locs cells slots mc ms (F0 m pc ls st) rest (hp_Qi Γ (fun r' β => r' = r ∧ mo α β ∧ hm_M β a ρ τ) aa) (hp_A Γ)) (hpc : pc + 3 = pc')
    (kk : ∀ (β : hp_T) (H1 : Heap) (locs1 : List Loc), hp_B Γ mo s α0 β H1 locs1 → hm_M β a ρ τ → W p l e R s m args below meth c H1 locs1 (cells + mc) (slots + ms) Q (F0 m pc' ls (.int r :: rest))) : W p l e R s m args below meth c H locs cells slots Q (F0 m pc ls st) :=
  q_ci B hr (fun _ _ h => mo_tr B.2.2 h.2.1) hpc (fun r' β H1 L1 h B1 => by rw [h.1]; exact kk β H1 L1 B1 h.2.2)
theorem m_cv {τ : ms_T} (B : hp_B Γ mo s α0 α H locs) (hr : va_Run p l e R s m args below meth c H locs cells slots mc ms (F0 m pc ls st) rest (hp_Qv Γ (fun β => mo α β ∧ hm_M β a ρ τ) aa) (hp_A Γ)) (hpc : pc + 3 = pc')
    (kk : ∀ (β : hp_T) (H1 : Heap) (locs1 : List Loc), hp_B Γ mo s α0 β H1 locs1 → hm_M β a ρ τ → W p l e R s m args below meth c H1 locs1 (cells + mc) (slots + ms) Q (F0 m pc' ls rest)) : W p l e R s m args below meth c H locs cells slots Q (F0 m pc ls st) :=
  q_cv B hr (fun _ h => mo_tr B.2.2 h.1) hpc (fun β H1 L1 h B1 => kk β H1 L1 B1 h.2)
theorem m_cp {r : Int32} (B : hp_B Γ Iv s α0 α H locs) (hr : va_Run p l e R s m args below meth c H locs cells slots mc ms (F0 m pc ls st) rest (hp_Qi Γ (fun r' β => β = α ∧ r' = r) aa) (hp_A Γ)) (hpc : pc + 3 = pc')
    (kk : ∀ (H1 : Heap) (locs1 : List Loc), hp_B Γ Iv s α0 α H1 locs1 → W p l e R s m args below meth c H1 locs1 (cells + mc) (slots + ms) Q (F0 m pc' ls (.int r :: rest))) : W p l e R s m args below meth c H locs cells slots Q (F0 m pc ls st) :=
  q_ci B hr (fun _ β h => by rw [h.1]; exact B.2.2) hpc (fun r' β H1 L1 h B1 => by rw [h.2]; rw [h.1] at B1; exact kk H1 L1 B1)
end HPM
