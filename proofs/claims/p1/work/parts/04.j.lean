section JN2_0
/-! ===== the heap as a picture: kinds, int fields, long fields, references, references that may be null, rows of ints, of longs, of references ===== -/
abbrev hp_T : Type := (Nat → Nat) × (Nat → Nat → Int32) × (Nat → Nat → Int64) × (Nat → Nat → Nat) × (Nat → Nat → Option Nat) × (Nat → Nat → Nat → Int32) × (Nat → Nat → Nat → Int64) × (Nat → Nat → Nat → Option Nat)
def hp_K (α : hp_T) : Nat → Nat := α.1
def hp_I (α : hp_T) : Nat → Nat → Int32 := α.2.1
def hp_J (α : hp_T) : Nat → Nat → Int64 := α.2.2.1
def hp_R (α : hp_T) : Nat → Nat → Nat := α.2.2.2.1
def hp_N (α : hp_T) : Nat → Nat → Option Nat := α.2.2.2.2.1
def hp_E (α : hp_T) : Nat → Nat → Nat → Int32 := α.2.2.2.2.2.1
def hp_L (α : hp_T) : Nat → Nat → Nat → Int64 := α.2.2.2.2.2.2.1
def hp_Q (α : hp_T) : Nat → Nat → Nat → Option Nat := α.2.2.2.2.2.2.2
def hp_up {β : Type} (f : Nat → Nat → β) (φ a : Nat) (v : β) : Nat → Nat → β := fun ψ b => if ψ = φ ∧ b = a then v else f ψ b
def hp_uq {β : Type} (f : Nat → Nat → Nat → β) (κ a j : Nat) (v : β) : Nat → Nat → Nat → β := fun ψ b i => if ψ = κ ∧ b = a ∧ i = j then v else f ψ b i
def hp_sI (α : hp_T) (φ a : Nat) (v : Int32) : hp_T := (α.1, hp_up α.2.1 φ a v, α.2.2)
def hp_sJ (α : hp_T) (φ a : Nat) (v : Int64) : hp_T := (α.1, α.2.1, hp_up α.2.2.1 φ a v, α.2.2.2)
def hp_sR (α : hp_T) (φ a : Nat) (v : Nat) : hp_T := (α.1, α.2.1, α.2.2.1, hp_up α.2.2.2.1 φ a v, α.2.2.2.2)
def hp_sN (α : hp_T) (φ a : Nat) (v : Option Nat) : hp_T := (α.1, α.2.1, α.2.2.1, α.2.2.2.1, hp_up α.2.2.2.2.1 φ a v, α.2.2.2.2.2)
def hp_sE (α : hp_T) (κ a j : Nat) (v : Int32) : hp_T := (α.1, α.2.1, α.2.2.1, α.2.2.2.1, α.2.2.2.2.1, hp_uq α.2.2.2.2.2.1 κ a j v, α.2.2.2.2.2.2)
def hp_sL (α : hp_T) (κ a j : Nat) (v : Int64) : hp_T := (α.1, α.2.1, α.2.2.1, α.2.2.2.1, α.2.2.2.2.1, α.2.2.2.2.2.1, hp_uq α.2.2.2.2.2.2.1 κ a j v, α.2.2.2.2.2.2.2)
def hp_sQ (α : hp_T) (κ a j : Nat) (v : Option Nat) : hp_T := (α.1, α.2.1, α.2.2.1, α.2.2.2.1, α.2.2.2.2.1, α.2.2.2.2.2.1, α.2.2.2.2.2.2.1, hp_uq α.2.2.2.2.2.2.2 κ a j v)
def hp_tl : List (List Nat) := [[0,1,0,0,0], [0,0,0,0,1], [1,1,0], [1,1,1,0,0,0,0,1,0,0], [1,1,0,1,1,0,0,0,0,0,0], [1,0], [1,0,0,0,0,0,0], [0,0,0,0], [1,1,1,0,0], [1,0], [0,1,0,1,0,1,0,1,1,1], [0,1,1,1,1,0,1,1,1,1,1,0,1,1,1,1,1,1,3], [1,1,0,0,1,1,1,0,0,0,0,0,1,1,0,0,1,0,0,0,0,0,0,0,0,0,0,2,1,0,1,1,0,0,0,0,1,1,1,0,1,1,1,1,1,0,1,0]]
def hp_b (κ : Nat) : Nat := if κ < 100 then κ else κ - 100
def hp_rw (t : Nat) : Nat := if t = 1 then 3 else t
def hp_tg (κ : Nat) : List Nat := if κ < 100 then hp_tl.getD (κ - 1) [] else (hp_tl.getD (κ - 101) []).map hp_rw
def hp_v (α : hp_T) (a t φ : Nat) : Value := if t = 0 then .int (hp_I α φ a) else if t = 1 then .ref (hp_R α φ a) else if t = 2 then .long (hp_J α φ a) else va_rf (hp_N α φ a)
def hp_fv (α : hp_T) (a : Nat) : List Nat → Nat → List Value
  | [], _ => []
  | t :: ts, φ => hp_v α a t φ :: hp_fv α a ts (φ + 1)
def hp_al : List (Nat × Nat) := [(0, 64), (0, 64), (0, 64), (2, 64), (1, 900), (1, 256), (0, 256), (1, 8), (7, 48), (0, 48), (4, 4), (5, 16), (6, 4), (0, 48), (0, 65521), (0, 65521), (1, 0), (0, 0), (0, 0), (0, 0), (0, 1980), (0, 1980), (0, 128), (0, 128), (0, 128), (0, 8), (0, 8), (1, 900), (3, 12), (0, 20), (0, 20), (0, 64), (0, 64), (0, 64), (0, 64), (0, 64), (0, 64), (0, 256), (0, 256), (0, 900)]
def hp_ar (κ : Nat) : Nat × Nat := hp_al.getD (κ - 20) (0, 0)
def hp_cx (α : hp_T) (κ a : Nat) (t : Nat) : (Nat → Int32) ⊕ (Nat → Int64) ⊕ (Nat → UInt32) ⊕ (Nat → UInt64) ⊕ (Nat → Option Nat) := if t < 3 then .inl (hp_E α κ a) else if t = 3 then .inr (.inl (hp_L α κ a)) else .inr (.inr (.inr (.inr (hp_Q α κ a))))
def hp_ca (dA : Nat → ClassId) (α : hp_T) (κ a : Nat) : va_E := .inl (dA (hp_ar κ).1, (hp_ar κ).2, hp_cx α κ a (hp_ar κ).1)
def hp_ce (dA : Nat → ClassId) (α : hp_T) (κ a : Nat) : va_E := if 20 ≤ κ ∧ κ < 60 then hp_ca dA α κ a else .inr (hp_b κ - 1, hp_fv α a (hp_tg κ) (50 * hp_b κ))
def hp_tys (dA : Nat → ClassId) : List (ClassId × FieldType) := [(dA 0, .int), (dA 1, .byte), (dA 2, .boolean), (dA 3, .long), (dA 4, .object "ProvenRecord$Log"), (dA 5, .object "ProvenRecord$Frozen"), (dA 6, .object "ProvenRecord$Watcher"), (dA 7, .object "ProvenRecord$Word")]
/-- the heap at the law's start; class numbers, slots, row classes -/
abbrev hp_G : Type := Heap × (Nat → ClassId) × (Nat → Nat → Nat) × (Nat → ClassId) × (Nat → Nat) × (Nat → Nat)
def hp_A (Γ : hp_G) : Nat → Prop := fun q => Γ.1.size ≤ q
def hp_Rep (Γ : hp_G) (α : hp_T) (H : Heap) : Prop := Γ.1.size ≤ H.size ∧ (∀ q : Nat, q < Γ.1.size → H[q]? = Γ.1[q]?) ∧ ∀ a : Nat, hp_K α a ≠ 0 → Γ.1.size ≤ a ∧ va_at (Γ.2.1, Γ.2.2.1) vwCl (a, hp_ce Γ.2.2.2.1 α (hp_K α a) a) H
def hp_isN : Cond → Bool
  | .methodLinkNest _ _ _ _ => true
  | .arrayOver (.object _) => true
  | _ => false
/-- the texts: where they stand, which they are -/
def hp_sl : List (String × Nat × String × Nat) := [("ProvenRecord", 409, "in ", 15), ("ProvenRecord", 418, " of ", 4), ("ProvenRecord", 420, " mark ", 3), ("ProvenRecord", 422, " head ", 2), ("ProvenRecord", 427, "grow ", 12), ("ProvenRecord", 429, " to ", 5), ("ProvenRecord", 496, " by", 1), ("ProvenRecord", 498, " ", 0), ("ProvenRecord", 500, ";", 6), ("ProvenRecord$Reader", 107, "freeze", 10), ("ProvenRecord$Reader", 112, "show", 19), ("ProvenRecord$Reader", 127, "in", 14), ("ProvenRecord$Reader", 129, "grow", 11), ("ProvenRecord$Reader", 156, "of", 18), ("ProvenRecord$Reader", 161, "mark", 16), ("ProvenRecord$Reader", 166, "head", 13), ("ProvenRecord$Reader", 186, "by", 8), ("ProvenRecord$Reader", 69, "mod", 17), ("ProvenRecord$Reader", 86, "add", 7), ("ProvenRecord$Reader", 92, "to", 20), ("ProvenRecord$Reader", 97, "fork", 9), ("ProvenRecordModel", 447, "in", 14), ("ProvenRecordModel", 453, "of", 18), ("ProvenRecordModel", 455, "mark", 16), ("ProvenRecordModel", 457, "head", 13), ("ProvenRecordModel", 462, "grow", 11), ("ProvenRecordModel", 464, "to", 20)]
def hp_sn : List Nat := [1, 3, 6, 6, 4, 4, 1, 3, 2, 4, 6, 4, 5, 4, 2, 3, 4, 3, 2, 4, 2]
def hp_sb : List (List Int32) := [[32], [32, 98, 121], [32, 104, 101, 97, 100, 32], [32, 109, 97, 114, 107, 32], [32, 111, 102, 32], [32, 116, 111, 32], [59], [97, 100, 100], [98, 121], [102, 111, 114, 107], [102, 114, 101, 101, 122, 101], [103, 114, 111, 119], [103, 114, 111, 119, 32], [104, 101, 97, 100], [105, 110], [105, 110, 32], [109, 97, 114, 107], [109, 111, 100], [111, 102], [115, 104, 111, 119], [116, 111]]
def hp_nest : List Cond := lw_tbl.filter hp_isN
def lw_u : List Cond := lw_tbl.filter goodWord
/-- texts and statics of the JDK as they are at the law's start -/
def hp_TX (Γ : hp_G) (U : State) : Prop := (∀ q ∈ hp_sl, vk_R q.1 q.2.1 q.2.2.1 (Γ.2.2.2.2.1 q.2.2.2) U) ∧ vk_S 21 hp_sn hp_sb Γ.2.2.2.2.1 Γ.2.2.2.2.2 (hp_A Γ) U Γ.1 ∧ va_Z "java/lang/String" "COMPACT_STRINGS" "Z" (.int 1) (hp_A Γ) U Γ.1 ∧ va_Zq "jdk/internal/util/Preconditions" "SIOOBE_FORMATTER" "Ljava/util/function/BiFunction;" (hp_A Γ) U Γ.1
def hp_KK (Γ : hp_G) (U : State) : Prop := va_K (Γ.2.1, Γ.2.2.1) vwCl (hp_tys Γ.2.2.2.1) U ∧ (∀ w ∈ hp_nest, va_Nw w U) ∧ hp_TX Γ U
def hp_ws (y : MethodName) (cc : ByteArray) (n : Nat) (ret : Option FieldType) : List Cond := Cond.code y cc n ret :: lw_u
def hp_B (Γ : hp_G) (Iv : hp_T → hp_T → Prop) (s : State) (α0 α : hp_T) (H : Heap) (locs : List Loc) : Prop := hp_Rep Γ α H ∧ va_S (hp_A Γ) s.heap H locs ∧ Iv α0 α
def hp_C (Γ : hp_G) (p : Program) (m : MethodId) (c : Code) (cc : ByteArray) (nL : Nat) (s : State) (args : Array Value) (own : String) : Prop := CallFix p m c cc nL s args lw_u own ∧ hp_KK Γ s
def hp_q (κ : Nat) : vw_C := vwCl.getD (κ - 1) (RX0, TX0, 5)
def hp_ty (κ : Nat) : Nat → FieldType := ([tyX0, tyX1, tyX2, tyX3, tyX4, tyX5, tyX6, tyX7, tyX8, tyX9, tyX10, tyX11, tyX12] : List (Nat → FieldType)).getD (κ - 1) tyX0
theorem hp_mu {w : Cond} (h : w ∈ lw_tbl) (g : goodWord w = true) : w ∈ lw_u := List.mem_filter.mpr ⟨h, g⟩
theorem hp_gs {y : MethodName} {cc : ByteArray} {n : Nat} {ret : Option FieldType} (h : Cond.code y cc n ret ∈ lw_u) : GoodIn lw_u (hp_ws y cc n ret) := fun w hw => by
  have h2 : w ∈ lw_u := by
    rcases List.mem_cons.mp hw with e | h3
    · rw [e]; exact h
    · exact h3
  exact ⟨h2, good_of_word (List.mem_filter.mp h2).2⟩
/-- a field's link: of class kind κ the k-th -/
def hp_F (own : String) (index κ k : Nat) : Prop := vwCl[κ - 1]? = some (hp_q κ) ∧ k < (hp_q κ).2.2 ∧ (∀ w ∈ u_ws (hp_q κ).1 (hp_q κ).2.1 (hp_q κ).2.2, w ∈ lw_u) ∧ (∀ j, j < (hp_q κ).2.2 → parseFieldDescriptor ((hp_q κ).2.1 j).2.2.1 = some (hp_ty κ j)) ∧ (∀ a, a < (hp_q κ).2.2 → ∀ b, b < (hp_q κ).2.2 → a ≠ b → ((hp_q κ).2.1 a).2.1 ≠ ((hp_q κ).2.1 b).2.1) ∧ Cond.fieldLink own index ((hp_q κ).2.1 k).1 ((hp_q κ).2.1 k).2.1 ((hp_q κ).2.1 k).2.2.1 ∈ lw_u
theorem hp_fv_get {α : hp_T} {a t : Nat} : ∀ (ts : List Nat) (k ψ : Nat), ts[k]? = some t → (hp_fv α a ts ψ)[k]? = some (hp_v α a t (ψ + k)) := by
  intro ts
  induction ts with
  | nil => intro k ψ h; simp at h
  | cons t0 ts ih =>
    intro k ψ h
    cases k with
    | zero => simp only [List.getElem?_cons_zero, Option.some.injEq] at h; subst h; rfl
    | succ k =>
      simp only [List.getElem?_cons_succ] at h
      have := ih k (ψ + 1) h
      show (hp_fv α a ts (ψ + 1))[k]? = _
      rw [this, show ψ + 1 + k = ψ + (k + 1) by omega]
theorem hp_fv_len {α : hp_T} {a : Nat} : ∀ (ts : List Nat) (ψ : Nat), (hp_fv α a ts ψ).length = ts.length := by
  intro ts
  induction ts with
  | nil => intro ψ; rfl
  | cons t ts ih => intro ψ; show (hp_fv α a ts (ψ + 1)).length + 1 = _; rw [ih]; rfl
/-- two pictures with the same values at an address from a field on -/
theorem hp_fv_congr {α β : hp_T} {a : Nat} : ∀ (ts : List Nat) (ψ : Nat), (∀ t φ, ψ ≤ φ → hp_v α a t φ = hp_v β a t φ) → hp_fv α a ts ψ = hp_fv β a ts ψ := by
  intro ts
  induction ts with
  | nil => intro ψ _; rfl
  | cons t ts ih =>
    intro ψ h
    show _ :: _ = _ :: _
    rw [h t ψ (Nat.le_refl _), ih (ψ + 1) (fun t φ hφ => h t φ (by omega))]
/-- one field changed -/
theorem hp_fv_set {α β : hp_T} {a t0 : Nat} {v : Value} : ∀ (ts : List Nat) (k ψ : Nat), ts[k]? = some t0 → hp_v β a t0 (ψ + k) = v → (∀ t φ, φ ≠ ψ + k → hp_v β a t φ = hp_v α a t φ) → hp_fv β a ts ψ = (hp_fv α a ts ψ).set k v := by
  intro ts
  induction ts with
  | nil => intro k ψ h; simp at h
  | cons t ts ih =>
    intro k ψ h hv hn
    cases k with
    | zero =>
      simp only [List.getElem?_cons_zero, Option.some.injEq] at h
      subst h
      show _ :: _ = _ :: _
      rw [hp_fv_congr ts (ψ + 1) (fun t φ hφ => hn t φ (by omega))]
      rw [show ψ + 0 = ψ from rfl] at hv
      rw [hv]
    | succ k =>
      simp only [List.getElem?_cons_succ] at h
      show _ :: _ = _ :: _
      rw [hn t ψ (by omega), ih k (ψ + 1) h (by rw [show ψ + 1 + k = ψ + (k + 1) by omega]; exact hv) (fun t φ hφ => hn t φ (by omega))]
theorem hp_P1 {D : va_G} {cl : List vw_C} {q : Nat × va_E} {H : Heap} (h : va_at D cl q H) : va_P D cl [q] H := by
  intro k x hx
  have hz : k < 1 := (List.getElem?_eq_some_iff.mp hx).1
  rw [show k = 0 by omega] at hx
  cases hx
  exact h
theorem hp_Rep.upd {Γ : hp_G} {α α' : hp_T} {H H1 : Heap} (h : hp_Rep Γ α H) {a : Nat} (z : H1.size = H.size) (oq : ∀ q : Nat, q ≠ a → H1[q]? = H[q]?) (hka : hp_K α a ≠ 0) (he : va_at (Γ.2.1, Γ.2.2.1) vwCl (a, hp_ce Γ.2.2.2.1 α' (hp_K α a) a) H1) (hK : hp_K α' = hp_K α) (hb : ∀ b, b ≠ a → ∀ κ, hp_ce Γ.2.2.2.1 α' κ b = hp_ce Γ.2.2.2.1 α κ b) : hp_Rep Γ α' H1 := by
  refine ⟨by rw [z]; exact h.1, fun q hq => ?_, fun b hk => ?_⟩
  · have h1 := (h.2.2 a hka).1
    rw [oq q (by omega)]
    exact h.2.1 q hq
  · rw [hK] at hk ⊢
    refine ⟨(h.2.2 b hk).1, ?_⟩
    by_cases hba : b = a
    · subst hba; exact he
    · rw [hb b hba]
      exact (h.2.2 b hk).2.kept (oq b hba)
def hp_isC (κ : Nat) : Bool := decide (κ ≠ 0) && !(decide (20 ≤ κ) && decide (κ < 60))
theorem hp_ce_c {dA : Nat → ClassId} {α : hp_T} {κ a : Nat} (h : hp_isC κ = true) : hp_ce dA α κ a = .inr (hp_b κ - 1, hp_fv α a (hp_tg κ) (50 * hp_b κ)) := by
  unfold hp_ce
  rw [if_neg]
  intro hh
  simp [hp_isC, hh.1, hh.2] at h
theorem hp_ce_a {dA : Nat → ClassId} {α : hp_T} {κ a t n : Nat} (h : 20 ≤ κ ∧ κ < 60) (hn : hp_ar κ = (t, n)) : hp_ce dA α κ a = .inl (dA t, n, hp_cx α κ a t) := by
  unfold hp_ce
  rw [if_pos h]
  unfold hp_ca
  rw [hn]
section HPR
variable {p : Program} {l : Launch} {e : Env} {R : Room} {s : State} {m : MethodId} {args : Array Value} {below : List Frame} {meth : Method} {c : Code} {H : Heap} {locs : List Loc} {cells slots : Nat} {Q : State → Prop} {cc : ByteArray} {nL : Nat} {own : String} {Γ : hp_G} {α0 α α' : hp_T} {Iv : hp_T → hp_T → Prop} {pc pc' : Nat} {ls : Array Slot} {rest : List Value} {a κ k t index : Nat} {v : Value}
theorem hp_B.at (B : hp_B Γ Iv s α0 α H locs) (hk : hp_K α a = κ) (hc : hp_isC κ = true) : Γ.1.size ≤ a ∧ va_at (Γ.2.1, Γ.2.2.1) vwCl (a, .inr (hp_b κ - 1, hp_fv α a (hp_tg κ) (50 * hp_b κ))) H := by
  have h0 : hp_K α a ≠ 0 := by rw [hk]; intro h; rw [h] at hc; cases hc
  have h := B.1.2.2 a h0
  rw [hk, hp_ce_c hc] at h
  exact h
theorem hp_B.ar {n : Nat} (B : hp_B Γ Iv s α0 α H locs) (hk : hp_K α a = κ) (hc : 20 ≤ κ ∧ κ < 60) (hn : hp_ar κ = (t, n)) : Γ.1.size ≤ a ∧ va_at (Γ.2.1, Γ.2.2.1) vwCl (a, .inl (Γ.2.2.2.1 t, n, hp_cx α κ a t)) H := by
  have h0 : hp_K α a ≠ 0 := by rw [hk]; omega
  have h := B.1.2.2 a h0
  rw [hk, hp_ce_a hc hn] at h
  exact h
/-- getfield -/
theorem q_get (C : hp_C Γ p m c cc nL s args own) (B : hp_B Γ Iv s α0 α H locs) (hk : hp_K α a = κ) (hF : hp_F own index (hp_b κ) k) (hc : hp_isC κ = true) (ht : (hp_tg κ)[k]? = some t) (hv : hp_v α a t (50 * hp_b κ + k) = v) (hdg : decode cc pc = .ok (.getfield index, 3)) (hpc : pc + 3 = pc')
    (kk : W p l e R s m args below meth c H locs cells slots Q (F0 m pc' ls (v :: rest))) : W p l e R s m args below meth c H locs cells slots Q (F0 m pc ls (.ref a :: rest)) := by
  obtain ⟨⟨hx, hb, hml, hown, hts⟩, hK, -⟩ := C
  obtain ⟨hq, hkN, hin, -, -, hlk⟩ := hF
  have hat := (B.at hk hc).2
  subst hpc
  refine va_get hx hb (own := own) (C := (hp_q (hp_b κ)).1) (T := (hp_q (hp_b κ)).2.1) (N := (hp_q (hp_b κ)).2.2) hts hin hown hK (hp_P1 hat) 0 rfl hq k hkN (hts _ hlk) (fun _ h => h) (v := v) ?_ hdg kk
  rw [hp_fv_get _ _ _ ht, hv]
/-- putfield, not final -/
theorem q_put (C : hp_C Γ p m c cc nL s args own) (B : hp_B Γ Iv s α0 α H locs) (hk : hp_K α a = κ) (hF : hp_F own index (hp_b κ) k) (hc : hp_isC κ = true) (ht : (hp_tg κ)[k]? = some t) (hfin : ((hp_q (hp_b κ)).2.1 k).2.2.2 = false) (hn : narrow (hp_ty (hp_b κ) k) v = v) (hfit : fits (hp_ty (hp_b κ) k) v = true)
    (hK' : hp_K α' = hp_K α) (hv : hp_v α' a t (50 * hp_b κ + k) = v) (hv' : ∀ t φ, φ ≠ 50 * hp_b κ + k → hp_v α' a t φ = hp_v α a t φ) (hb' : ∀ b, b ≠ a → ∀ κ, hp_ce Γ.2.2.2.1 α' κ b = hp_ce Γ.2.2.2.1 α κ b) (hiv : Iv α0 α')
    (hdg : decode cc pc = .ok (.putfield index, 3)) (hpc : pc + 3 = pc')
    (kk : ∀ (H1 : Heap) (locs1 : List Loc), hp_B Γ Iv s α0 α' H1 locs1 → W p l e R s m args below meth c H1 locs1 cells slots Q (F0 m pc' ls rest)) : W p l e R s m args below meth c H locs cells slots Q (F0 m pc ls (v :: .ref a :: rest)) := by
  obtain ⟨⟨hx, hb, hml, hown, hts⟩, hK, -⟩ := C
  obtain ⟨hq, hkN, hin, hty, hnm, hlk⟩ := hF
  obtain ⟨hbase, hat⟩ := B.at hk hc
  subst hpc
  have h0 : hp_K α a ≠ 0 := by rw [hk]; intro h; rw [h] at hc; cases hc
  have hap := va_apart (own := own) hts hin (hp_ty (hp_b κ)) hty hnm hK hq
  obtain ⟨r, h1, cell, q1, q2, q3, q4⟩ := hat
  have hr : r = hp_q (hp_b κ) := Option.some.inj (h1.symm.trans hq)
  subst hr
  obtain ⟨hS, hfc, kC, hkC, hkind⟩ := hK.1 _ _ hq
  obtain ⟨cf, kf, fi, f, hi, hsl⟩ := hS k hkN
  have hlay := hts _ (hin _ (u_in_lay hkN))
  unfold u_lay at hlay
  rw [if_neg (by rw [hfin]; decide)] at hlay
  have hst := (u_facts hfc hkC (u_lays hts hin hkN) hi).1
  have h6 := u_store hfc hkC hkind hlay hi (hty k hkN) hn hfit
  refine W.putK hx hb (f := f) ⟨hown, hts _ hlk, ⟨_, _, _, hi⟩, hst⟩ (by rw [q2]; exact h6) q1 q3 (by rw [hsl]; exact k2_hasslot (q4 k hkN)) rfl rfl hdg fun H' e1 e2 e3 => ?_
  rw [hsl] at e1 ⊢
  refine kk H' _ ⟨B.1.upd e2 e3 h0 ?_ hK' hb', B.2.1.put e2 e3 hbase, hiv⟩
  rw [hk, hp_ce_c hc]
  have hl : k < (hp_fv α a (hp_tg κ) (50 * hp_b κ)).length := by rw [hp_fv_len]; exact (List.getElem?_eq_some_iff.mp ht).1
  refine ⟨_, hq, t_OB.to (V := updV (vp_V (hp_fv α a (hp_tg κ) (50 * hp_b κ))) k v) ⟨_, e1, q2, q3, t_set q4 hap hkN v⟩ (fun j _ => ?_)⟩
  rw [vp_updV_set hl v j, hp_fv_set (hp_tg κ) k (50 * hp_b κ) ht hv hv']
theorem hp_ce_ne {dA : Nat → ClassId} {β : hp_T} {b : Nat} (h1 : ∀ t φ, hp_v β b t φ = hp_v α b t φ) (h2 : hp_E β = hp_E α ∧ hp_L β = hp_L α ∧ hp_Q β = hp_Q α) : ∀ κ, hp_ce dA β κ b = hp_ce dA α κ b := by
  intro κ
  unfold hp_ce hp_ca hp_cx
  rw [h2.1, h2.2.1, h2.2.2, hp_fv_congr (hp_tg κ) (50 * hp_b κ) (fun t φ _ => h1 t φ)]
theorem q_puti {x : Int32} {φ : Nat} (C : hp_C Γ p m c cc nL s args own) (B : hp_B Γ Iv s α0 α H locs) (hk : hp_K α a = κ) (hF : hp_F own index (hp_b κ) k) (hc : hp_isC κ = true) (ht : (hp_tg κ)[k]? = some 0) (hfin : ((hp_q (hp_b κ)).2.1 k).2.2.2 = false) (hn : narrow (hp_ty (hp_b κ) k) (.int x) = .int x) (hfit : fits (hp_ty (hp_b κ) k) (.int x) = true) (hφ : 50 * hp_b κ + k = φ) (hiv : Iv α0 (hp_sI α φ a x))
    (hdg : decode cc pc = .ok (.putfield index, 3)) (hpc : pc + 3 = pc')
    (kk : ∀ (β : hp_T) (H1 : Heap) (locs1 : List Loc), β = hp_sI α φ a x → hp_B Γ Iv s α0 β H1 locs1 → W p l e R s m args below meth c H1 locs1 cells slots Q (F0 m pc' ls rest)) : W p l e R s m args below meth c H locs cells slots Q (F0 m pc ls (.int x :: .ref a :: rest)) := by
  subst hφ
  refine q_put C B hk hF hc ht hfin hn hfit (α' := hp_sI α (50 * hp_b κ + k) a x) rfl ?_ ?_ (fun b hb => hp_ce_ne (fun t φ => ?_) ⟨rfl, rfl, rfl⟩) hiv hdg hpc (fun H1 locs1 B1 => kk _ H1 locs1 rfl B1)
  · simp [hp_v, hp_I, hp_sI, hp_up]
  · intro t φ h; simp [hp_v, hp_I, hp_R, hp_J, hp_N, hp_sI, hp_up, h]
  · simp [hp_v, hp_I, hp_R, hp_J, hp_N, hp_sI, hp_up, hb]
theorem q_putl {x : Int64} {φ : Nat} (C : hp_C Γ p m c cc nL s args own) (B : hp_B Γ Iv s α0 α H locs) (hk : hp_K α a = κ) (hF : hp_F own index (hp_b κ) k) (hc : hp_isC κ = true) (ht : (hp_tg κ)[k]? = some 2) (hfin : ((hp_q (hp_b κ)).2.1 k).2.2.2 = false) (hn : narrow (hp_ty (hp_b κ) k) (.long x) = .long x) (hfit : fits (hp_ty (hp_b κ) k) (.long x) = true) (hφ : 50 * hp_b κ + k = φ) (hiv : Iv α0 (hp_sJ α φ a x))
    (hdg : decode cc pc = .ok (.putfield index, 3)) (hpc : pc + 3 = pc')
    (kk : ∀ (β : hp_T) (H1 : Heap) (locs1 : List Loc), β = hp_sJ α φ a x → hp_B Γ Iv s α0 β H1 locs1 → W p l e R s m args below meth c H1 locs1 cells slots Q (F0 m pc' ls rest)) : W p l e R s m args below meth c H locs cells slots Q (F0 m pc ls (.long x :: .ref a :: rest)) := by
  subst hφ
  refine q_put C B hk hF hc ht hfin hn hfit (α' := hp_sJ α (50 * hp_b κ + k) a x) rfl ?_ ?_ (fun b hb => hp_ce_ne (fun t φ => ?_) ⟨rfl, rfl, rfl⟩) hiv hdg hpc (fun H1 locs1 B1 => kk _ H1 locs1 rfl B1)
  · simp [hp_v, hp_J, hp_sJ, hp_up]
  · intro t φ h; simp [hp_v, hp_I, hp_R, hp_J, hp_N, hp_sJ, hp_up, h]
  · simp [hp_v, hp_I, hp_R, hp_J, hp_N, hp_sJ, hp_up, hb]
theorem q_putr {x : Nat} {φ : Nat} (C : hp_C Γ p m c cc nL s args own) (B : hp_B Γ Iv s α0 α H locs) (hk : hp_K α a = κ) (hF : hp_F own index (hp_b κ) k) (hc : hp_isC κ = true) (ht : (hp_tg κ)[k]? = some 1) (hfin : ((hp_q (hp_b κ)).2.1 k).2.2.2 = false) (hn : narrow (hp_ty (hp_b κ) k) (.ref x) = .ref x) (hfit : fits (hp_ty (hp_b κ) k) (.ref x) = true) (hφ : 50 * hp_b κ + k = φ) (hiv : Iv α0 (hp_sR α φ a x))
    (hdg : decode cc pc = .ok (.putfield index, 3)) (hpc : pc + 3 = pc')
    (kk : ∀ (β : hp_T) (H1 : Heap) (locs1 : List Loc), β = hp_sR α φ a x → hp_B Γ Iv s α0 β H1 locs1 → W p l e R s m args below meth c H1 locs1 cells slots Q (F0 m pc' ls rest)) : W p l e R s m args below meth c H locs cells slots Q (F0 m pc ls (.ref x :: .ref a :: rest)) := by
  subst hφ
  refine q_put C B hk hF hc ht hfin hn hfit (α' := hp_sR α (50 * hp_b κ + k) a x) rfl ?_ ?_ (fun b hb => hp_ce_ne (fun t φ => ?_) ⟨rfl, rfl, rfl⟩) hiv hdg hpc (fun H1 locs1 B1 => kk _ H1 locs1 rfl B1)
  · simp [hp_v, hp_R, hp_sR, hp_up]
  · intro t φ h; simp [hp_v, hp_I, hp_R, hp_J, hp_N, hp_sR, hp_up, h]
  · simp [hp_v, hp_I, hp_R, hp_J, hp_N, hp_sR, hp_up, hb]
theorem q_putn {x : Nat} {φ : Nat} (C : hp_C Γ p m c cc nL s args own) (B : hp_B Γ Iv s α0 α H locs) (hk : hp_K α a = κ) (hF : hp_F own index (hp_b κ) k) (hc : hp_isC κ = true) (ht : (hp_tg κ)[k]? = some 3) (hfin : ((hp_q (hp_b κ)).2.1 k).2.2.2 = false) (hn : narrow (hp_ty (hp_b κ) k) (.ref x) = .ref x) (hfit : fits (hp_ty (hp_b κ) k) (.ref x) = true) (hφ : 50 * hp_b κ + k = φ) (hiv : Iv α0 (hp_sN α φ a (some x)))
    (hdg : decode cc pc = .ok (.putfield index, 3)) (hpc : pc + 3 = pc')
    (kk : ∀ (β : hp_T) (H1 : Heap) (locs1 : List Loc), β = hp_sN α φ a (some x) → hp_B Γ Iv s α0 β H1 locs1 → W p l e R s m args below meth c H1 locs1 cells slots Q (F0 m pc' ls rest)) : W p l e R s m args below meth c H locs cells slots Q (F0 m pc ls (.ref x :: .ref a :: rest)) := by
  subst hφ
  refine q_put C B hk hF hc ht hfin hn hfit (α' := hp_sN α (50 * hp_b κ + k) a (some x)) rfl ?_ ?_ (fun b hb => hp_ce_ne (fun t φ => ?_) ⟨rfl, rfl, rfl⟩) hiv hdg hpc (fun H1 locs1 B1 => kk _ H1 locs1 rfl B1)
  · simp [hp_v, hp_N, hp_sN, hp_up, va_rf]
  · intro t φ h; simp [hp_v, hp_I, hp_R, hp_J, hp_N, hp_sN, hp_up, h]
  · simp [hp_v, hp_I, hp_R, hp_J, hp_N, hp_sN, hp_up, hb]
end HPR
end JN2_0
section JN2_1
/-! ===== rows of arrays, calls, ends over the picture ===== -/
theorem hp_n {p : Program} {l : Launch} {e : Env} {R : Room} {s : State} {m : MethodId} {args : Array Value} {below : List Frame} {meth : Method} {c : Code} {H : Heap} {locs : List Loc} {cells slots : Nat} {Q : State → Prop} {ls : Array Slot} {rest : List Value} {pc n : Nat} (h : pc = n) (k : W p l e R s m args below meth c H locs cells slots Q (F0 m n ls rest)) : W p l e R s m args below meth c H locs cells slots Q (F0 m pc ls rest) := h ▸ k
theorem hp_ce_neE {dA : Nat → ClassId} {α β : hp_T} {b : Nat} (h1 : ∀ t φ, hp_v β b t φ = hp_v α b t φ) (h2 : ∀ κ, hp_E β κ b = hp_E α κ b ∧ hp_L β κ b = hp_L α κ b ∧ hp_Q β κ b = hp_Q α κ b) : ∀ κ, hp_ce dA β κ b = hp_ce dA α κ b := by
  intro κ
  unfold hp_ce hp_ca hp_cx
  rw [(h2 κ).1, (h2 κ).2.1, (h2 κ).2.2, hp_fv_congr (hp_tg κ) (50 * hp_b κ) (fun t φ _ => h1 t φ)]
theorem hp_sE_at {α : hp_T} {κ a j : Nat} {x : Int32} : hp_E (hp_sE α κ a j x) κ a = upd (hp_E α κ a) j x := by
  funext i
  by_cases h : i = j
  · subst h; simp [hp_E, hp_sE, hp_uq, upd]
  · simp [hp_E, hp_sE, hp_uq, upd, h]
theorem hp_sE_ne {α : hp_T} {κ a j b κ' : Nat} {x : Int32} (h : b ≠ a) : hp_E (hp_sE α κ a j x) κ' b = hp_E α κ' b := by
  funext i
  simp [hp_E, hp_sE, hp_uq, h]
section HPA
variable {p : Program} {l : Launch} {e : Env} {R : Room} {s : State} {m : MethodId} {args : Array Value} {below : List Frame} {meth : Method} {c : Code} {H : Heap} {locs : List Loc} {cells slots : Nat} {Q : State → Prop} {cc : ByteArray} {nL : Nat} {own : String} {Γ : hp_G} {α0 α α' : hp_T} {Iv : hp_T → hp_T → Prop} {pc pc' : Nat} {ls : Array Slot} {rest : List Value} {a κ k t index n : Nat} {v : Value} {i x : Int32}
theorem q_ial (C : hp_C Γ p m c cc nL s args own) (B : hp_B Γ Iv s α0 α H locs) (hk : hp_K α a = κ) (hc : 20 ≤ κ ∧ κ < 60) (hn : hp_ar κ = (0, n)) (hin : vp_in i n) (hdg : decode cc pc = .ok (.iaload, 1)) (hpc : pc + 1 = pc')
    (kk : W p l e R s m args below meth c H locs cells slots Q (F0 m pc' ls (.int (hp_E α κ a i.toNatClampNeg) :: rest))) : W p l e R s m args below meth c H locs cells slots Q (F0 m pc ls (.int i :: .ref a :: rest)) := by
  subst hpc
  exact va_iald C.1.1 C.1.2.1 C.2.1 (hp_P1 (B.ar hk hc hn).2) 0 0 rfl rfl hin hdg kk
theorem q_bal (C : hp_C Γ p m c cc nL s args own) (B : hp_B Γ Iv s α0 α H locs) (hk : hp_K α a = κ) (hc : 20 ≤ κ ∧ κ < 60) (hn : hp_ar κ = (1, n)) (hin : vp_in i n) (hdg : decode cc pc = .ok (.baload, 1)) (hpc : pc + 1 = pc')
    (kk : W p l e R s m args below meth c H locs cells slots Q (F0 m pc' ls (.int (hp_E α κ a i.toNatClampNeg) :: rest))) : W p l e R s m args below meth c H locs cells slots Q (F0 m pc ls (.int i :: .ref a :: rest)) := by
  subst hpc
  exact va_bald C.1.1 C.1.2.1 C.2.1 (hp_P1 (B.ar hk hc hn).2) 0 1 rfl rfl hin hdg kk
theorem q_zal (C : hp_C Γ p m c cc nL s args own) (B : hp_B Γ Iv s α0 α H locs) (hk : hp_K α a = κ) (hc : 20 ≤ κ ∧ κ < 60) (hn : hp_ar κ = (2, n)) (hin : vp_in i n) (hdg : decode cc pc = .ok (.baload, 1)) (hpc : pc + 1 = pc')
    (kk : W p l e R s m args below meth c H locs cells slots Q (F0 m pc' ls (.int (hp_E α κ a i.toNatClampNeg) :: rest))) : W p l e R s m args below meth c H locs cells slots Q (F0 m pc ls (.int i :: .ref a :: rest)) := by
  subst hpc
  exact va_zald C.1.1 C.1.2.1 C.2.1 (hp_P1 (B.ar hk hc hn).2) 0 2 rfl rfl hin hdg kk
theorem q_lal (C : hp_C Γ p m c cc nL s args own) (B : hp_B Γ Iv s α0 α H locs) (hk : hp_K α a = κ) (hc : 20 ≤ κ ∧ κ < 60) (hn : hp_ar κ = (3, n)) (hin : vp_in i n) (hdg : decode cc pc = .ok (.laload, 1)) (hpc : pc + 1 = pc')
    (kk : W p l e R s m args below meth c H locs cells slots Q (F0 m pc' ls (.long (hp_L α κ a i.toNatClampNeg) :: rest))) : W p l e R s m args below meth c H locs cells slots Q (F0 m pc ls (.int i :: .ref a :: rest)) := by
  subst hpc
  exact va_lald C.1.1 C.1.2.1 C.2.1 (hp_P1 (B.ar hk hc hn).2) 0 3 rfl rfl hin hdg kk
theorem q_aal {C0 : String} (C : hp_C Γ p m c cc nL s args own) (B : hp_B Γ Iv s α0 α H locs) (hk : hp_K α a = κ) (hc : 20 ≤ κ ∧ κ < 60) (hn : hp_ar κ = (t, n)) (ht : (hp_tys Γ.2.2.2.1)[t]? = some (Γ.2.2.2.1 t, .object C0)) (ht3 : 4 ≤ t) (hin : vp_in i n) (hdg : decode cc pc = .ok (.aaload, 1)) (hpc : pc + 1 = pc')
    (kk : W p l e R s m args below meth c H locs cells slots Q (F0 m pc' ls (va_rf (hp_Q α κ a i.toNatClampNeg) :: rest))) : W p l e R s m args below meth c H locs cells slots Q (F0 m pc ls (.int i :: .ref a :: rest)) := by
  subst hpc
  have h := (B.ar hk hc hn).2
  rw [show hp_cx α κ a t = .inr (.inr (.inr (.inr (hp_Q α κ a)))) by unfold hp_cx; rw [if_neg (by omega), if_neg (by omega)]] at h
  exact va_aldq C.1.1 C.1.2.1 C.2.1 (hp_P1 h) 0 t rfl ht hin hdg kk
theorem q_alen {x : Int32} {ty : FieldType} (C : hp_C Γ p m c cc nL s args own) (B : hp_B Γ Iv s α0 α H locs) (hk : hp_K α a = κ) (hc : 20 ≤ κ ∧ κ < 60) (hn : hp_ar κ = (t, n)) (ht : (hp_tys Γ.2.2.2.1)[t]? = some (Γ.2.2.2.1 t, ty)) (hx : Int32.ofNat n = x) (hdg : decode cc pc = .ok (.arraylength, 1)) (hpc : pc + 1 = pc')
    (kk : W p l e R s m args below meth c H locs cells slots Q (F0 m pc' ls (.int x :: rest))) : W p l e R s m args below meth c H locs cells slots Q (F0 m pc ls (.ref a :: rest)) := by
  subst hpc
  exact va_alen C.1.1 C.1.2.1 C.2.1 (hp_P1 (B.ar hk hc hn).2) 0 t rfl ht hx hdg kk
theorem hp_sE_rep {H1 : Heap} {t : Nat} (B : hp_B Γ Iv s α0 α H locs) (hk : hp_K α a = κ) (hc : 20 ≤ κ ∧ κ < 60) (hn : hp_ar κ = (t, n)) (ht : t < 3) {j : Nat} (e : H1[a]? = some ((vp_cell (Γ.2.2.2.1 t) (n, .inl (hp_E α κ a))).setSlot j (.int x))) (z : H1.size = H.size) (oq : ∀ q : Nat, q ≠ a → H1[q]? = H[q]?) (hiv : Iv α0 (hp_sE α κ a j x)) : hp_B Γ Iv s α0 (hp_sE α κ a j x) H1 (locs ++ [⟨a, j⟩]) := by
  have hbase := (B.ar hk hc hn).1
  refine ⟨B.1.upd z oq (by rw [hk]; omega) ?_ rfl (fun b hb => hp_ce_neE (fun t φ => rfl) (fun κ' => ⟨hp_sE_ne hb, rfl, rfl⟩)), B.2.1.put z oq hbase, hiv⟩
  rw [hk, hp_ce_a hc hn]
  show H1[a]? = some (vp_cell _ _)
  rw [e]
  rw [show hp_cx (hp_sE α κ a j x) κ a t = .inl (hp_E (hp_sE α κ a j x) κ a) by unfold hp_cx; rw [if_pos ht], hp_sE_at, vp_cell_i, vp_cell_i, arrV_store]
  congr 2
  funext q
  by_cases hq : q = j
  · subst hq
    simp [updV, upd]
  · simp [updV, upd, hq]
theorem q_ias {j : Nat} (C : hp_C Γ p m c cc nL s args own) (B : hp_B Γ Iv s α0 α H locs) (hk : hp_K α a = κ) (hc : 20 ≤ κ ∧ κ < 60) (hn : hp_ar κ = (0, n)) (hin : vp_in i n) (hj : i.toNatClampNeg = j) (hiv : Iv α0 (hp_sE α κ a j x)) (hdg : decode cc pc = .ok (.iastore, 1)) (hpc : pc + 1 = pc')
    (kk : ∀ (β : hp_T) (H1 : Heap) (locs1 : List Loc), β = hp_sE α κ a j x → hp_B Γ Iv s α0 β H1 locs1 → W p l e R s m args below meth c H1 locs1 cells slots Q (F0 m pc' ls rest)) : W p l e R s m args below meth c H locs cells slots Q (F0 m pc ls (.int x :: .int i :: .ref a :: rest)) := by
  subst hpc; subst hj
  have hat := (B.ar hk hc hn).2
  refine W.iast C.1.1 C.1.2.1 hat ((C.2.1.2 0 _ rfl).1 n (fun j => .int (hp_E α κ a j))) (fun q => by cases q) (by show ¬ (i < 0 ∨ (arrV _ _ _).slots.size ≤ _); rw [arrV_size]; exact hin) rfl rfl hdg fun H1 e z oq => ?_
  exact kk _ H1 _ rfl (hp_sE_rep B hk hc hn (by omega) e z oq hiv)
theorem q_bas {j : Nat} {y : Int32} (C : hp_C Γ p m c cc nL s args own) (B : hp_B Γ Iv s α0 α H locs) (hk : hp_K α a = κ) (hc : 20 ≤ κ ∧ κ < 60) (hn : hp_ar κ = (1, n)) (hin : vp_in i n) (hj : i.toNatClampNeg = j) (hy : narrow .byte (.int x) = .int y) (hiv : Iv α0 (hp_sE α κ a j y)) (hdg : decode cc pc = .ok (.bastore, 1)) (hpc : pc + 1 = pc')
    (kk : ∀ (β : hp_T) (H1 : Heap) (locs1 : List Loc), β = hp_sE α κ a j y → hp_B Γ Iv s α0 β H1 locs1 → W p l e R s m args below meth c H1 locs1 cells slots Q (F0 m pc' ls rest)) : W p l e R s m args below meth c H locs cells slots Q (F0 m pc ls (.int x :: .int i :: .ref a :: rest)) := by
  subst hpc; subst hj
  have hat := (B.ar hk hc hn).2
  refine W.bast C.1.1 C.1.2.1 hat ((C.2.1.2 1 _ rfl).1 n (fun j => .int (hp_E α κ a j))) (fun q => by cases q) (by show ¬ (i < 0 ∨ (arrV _ _ _).slots.size ≤ _); rw [arrV_size]; exact hin) rfl rfl hdg fun H1 e z oq => ?_
  rw [hy] at e
  exact kk _ H1 _ rfl (hp_sE_rep B hk hc hn (by omega) e z oq hiv)
theorem q_zas {j : Nat} {y : Int32} (C : hp_C Γ p m c cc nL s args own) (B : hp_B Γ Iv s α0 α H locs) (hk : hp_K α a = κ) (hc : 20 ≤ κ ∧ κ < 60) (hn : hp_ar κ = (2, n)) (hin : vp_in i n) (hj : i.toNatClampNeg = j) (hy : narrow .boolean (.int x) = .int y) (hiv : Iv α0 (hp_sE α κ a j y)) (hdg : decode cc pc = .ok (.bastore, 1)) (hpc : pc + 1 = pc')
    (kk : ∀ (β : hp_T) (H1 : Heap) (locs1 : List Loc), β = hp_sE α κ a j y → hp_B Γ Iv s α0 β H1 locs1 → W p l e R s m args below meth c H1 locs1 cells slots Q (F0 m pc' ls rest)) : W p l e R s m args below meth c H locs cells slots Q (F0 m pc ls (.int x :: .int i :: .ref a :: rest)) := by
  subst hpc; subst hj
  have hat := (B.ar hk hc hn).2
  refine W.zast C.1.1 C.1.2.1 hat ((C.2.1.2 2 _ rfl).1 n (fun j => .int (hp_E α κ a j))) (fun q => by cases q) (by show ¬ (i < 0 ∨ (arrV _ _ _).slots.size ≤ _); rw [arrV_size]; exact hin) rfl rfl hdg fun H1 e z oq => ?_
  rw [hy] at e
  exact kk _ H1 _ rfl (hp_sE_rep B hk hc hn (by omega) e z oq hiv)
end HPA
/-! calls -/
def hp_rm (d mc ms : Nat) : Room := { frames := d, cells := mc, slots := ms, locals := 45 * d }
def hp_Pc (Γ : hp_G) (α : hp_T) (av : List Value) : Array Value → State → Prop := va_Pc av (fun U => hp_Rep Γ α U.heap ∧ hp_KK Γ U)
def hp_Qi (Γ : hp_G) (post : Int32 → hp_T → Prop) : Array Value → State → Outcome → State → Prop := va_Qi post (fun β t => hp_Rep Γ β t.heap) (hp_A Γ)
def hp_Qv (Γ : hp_G) (post : hp_T → Prop) : Array Value → State → Outcome → State → Prop := va_Qv post (fun β t => hp_Rep Γ β t.heap) (hp_A Γ)
def hp_Ql (Γ : hp_G) (post : Int64 → hp_T → Prop) : Array Value → State → Outcome → State → Prop := va_Ql post (fun β t => hp_Rep Γ β t.heap) (hp_A Γ)
def hp_Qq (Γ : hp_G) (post : Option Nat → hp_T → Prop) : Array Value → State → Outcome → State → Prop := va_Qq post (fun β t => hp_Rep Γ β t.heap) (hp_A Γ)
theorem hp_TX.warm {Γ : hp_G} {s U : State} (hW : s.WarmedH U.vm) (h : hp_TX Γ s) : hp_TX Γ U := ⟨fun q hq => vk_R.warm hW (h.1 q hq), vk_S.moved hW.alike h.2.1, va_Z.moved hW.alike h.2.2.1, va_Zq.moved hW.alike h.2.2.2⟩
theorem hp_TX.same {Γ : hp_G} {s U : State} (hv : U.vm = s.vm) (h : hp_TX Γ s) : hp_TX Γ U := by
  have ha : s.vm.Alike U.vm := by rw [hv]; exact Vm.Alike.refl _
  exact ⟨fun q hq => vk_R.same hv (h.1 q hq), vk_S.moved ha h.2.1, va_Z.moved ha h.2.2.1, va_Zq.moved ha h.2.2.2⟩
theorem hp_Nw.warm {w : Cond} {s U : State} (hn : hp_isN w = true) (hW : s.WarmedH U.vm) (h : va_Nw w s) : va_Nw w U := by
  cases w with
  | methodLinkNest a b c d => exact va_Nw.warmM hW h
  | arrayOver ty =>
    cases ty with
    | object C => exact va_AO.moved hW.alike h
    | _ => cases hn
  | _ => cases hn
theorem hp_Nw.same {w : Cond} {s U : State} (hn : hp_isN w = true) (hv : U.vm = s.vm) (h : va_Nw w s) : va_Nw w U := by
  cases w with
  | methodLinkNest a b c d => exact va_Nw.same rfl hv.symm h
  | arrayOver ty =>
    cases ty with
    | object C => exact va_AO.moved (by rw [hv]; exact Vm.Alike.refl _) h
    | _ => cases hn
  | _ => cases hn
theorem hp_KK.warm {Γ : hp_G} {s U : State} (hW : s.WarmedH U.vm) (h : hp_KK Γ s) : hp_KK Γ U :=
  ⟨va_K.moved hW.alike h.1, fun w hw => hp_Nw.warm (List.mem_filter.mp hw).2 hW (h.2.1 w hw), h.2.2.warm hW⟩
theorem hp_blind (Γ : hp_G) (α : hp_T) (av : List Value) : FrameBlind (hp_Pc Γ α av) := fun a U g mk q => by
  obtain ⟨q0, qR, qK, qN, qT⟩ := q
  exact ⟨q0, qR, va_K.moved (u := U) (U := U.calling g mk a) (Vm.Alike.refl U.vm) qK, fun w hw => hp_Nw.same (s := U) (U := U.calling g mk a) (List.mem_filter.mp hw).2 rfl (qN w hw), hp_TX.same (s := U) (U := U.calling g mk a) rfl qT⟩
/-- what a method's own tables say -/
def hp_LB (y : MethodName) (bytes : ByteArray) (maxL : Nat) (ret : Option FieldType) (n : Nat) : Prop := Cond.code y bytes maxL ret ∈ lw_u ∧ Cond.initialized y.cls ∈ lw_u ∧ maxL ≤ 26 ∧ (y.cls ≠ "java/lang/invoke/MethodHandle" ∧ y.cls ≠ "java/lang/invoke/VarHandle" ∧ (parseMethodDescriptor y.desc).map (fun d => d.parameters.length) = some n)
def hp_LV (y : MethodName) (κ : Nat) : Prop := Cond.instanceMethod y ∈ lw_u ∧ Cond.selects y.cls y y ∈ lw_u ∧ (hp_q (hp_b κ)).1 = y.cls ∧ vwCl[hp_b κ - 1]? = some (hp_q (hp_b κ)) ∧ hp_isC κ = true
/-- a call's link: ordinary or among nest mates -/
def hp_LK (own : String) (index : Nat) (y : MethodName) : Prop := Cond.methodLink own index y ∈ lw_u ∨ ∃ host, Cond.methodLinkNest own index y host ∈ hp_nest
section HPC
variable {p : Program} {l : Launch} {e : Env} {s : State} {m : MethodId} {args : Array Value} {below : List Frame} {meth : Method} {c : Code} {H : Heap} {locs : List Loc} {cells slots : Nat} {Q : State → Prop} {cc bytes : ByteArray} {nL maxL : Nat} {ret : Option FieldType} {own : String} {Γ : hp_G} {α0 α α' : hp_T} {Iv : hp_T → hp_T → Prop} {pc pc' : Nat} {ls : Array Slot} {st rest : List Value} {b κ k t index n d d' mc ms mc' ms' : Nat} {y : MethodName} {As : List Value} {R : Room}
theorem hp_runV {Qc : Array Value → State → Outcome → State → Prop} (C : hp_C Γ p m c cc nL s args own) (B : hp_B Γ Iv s α0 α H locs) (hM : Met l y (hp_ws y bytes maxL ret) (hp_rm d' mc ms) (hp_Pc Γ α (.ref b :: As)) Qc mc ms (hp_A Γ)) (hB : hp_LB y bytes maxL ret n) (hV : hp_LV y κ) (hL : hp_LK own index y) (hk : hp_K α b = κ) (hR : R = hp_rm d mc' ms') (hd : d' < d) (hlen : As.length = n) (hsz : ls.size = nL) (hst : st = As.reverse ++ .ref b :: rest) (hcat : (rest.map fun v => v.category).sum ≤ 8) (hdg : decode cc pc = .ok (.invokevirtual index, 3)) (hf : cells + mc ≤ mc' ∧ slots + ms ≤ ms') :
    va_Run p l e R s m args below meth c H locs cells slots mc ms (F0 m pc ls st) rest (Qc (Value.ref b :: As).toArray) (hp_A Γ) := by
  obtain ⟨h1, h2, h3, h4⟩ := hB
  obtain ⟨v1, v2, v3, v4, v5⟩ := hV
  have hts := C.1.2.2.2.2
  have hrecv : ∃ cellB : Cell, H[b]? = some cellB ∧ cellB.vm.isStatics = false ∧ s.vm.findClass y.cls = some cellB.cls := by
    rw [← v3]
    exact va_recv C.2.1 (hp_P1 (B.at hk v5).2) v4 (q0 := 0) rfl
  have hp : PreV s H y.cls b (hp_Pc Γ α (.ref b :: As)) As := ⟨hp_blind Γ α _, hrecv, fun U hU hW => ⟨rfl, by rw [hU]; exact B.1, C.2.warm hW⟩⟩
  have hRR : (hp_rm d' mc ms).frames + 1 ≤ R.frames ∧ 8 + (maxL + 11) + (hp_rm d' mc ms).locals ≤ R.locals := by
    rw [hR]; show d' + 1 ≤ d ∧ 8 + (maxL + 11) + 45 * d' ≤ 45 * d; omega
  have hff : cells + mc ≤ R.cells ∧ slots + ms ≤ R.slots := by rw [hR]; exact hf
  rcases hL with hL | ⟨host, hL⟩
  · exact va_runV (As := As) (rest := rest) (n := n) (C := y.cls) C.1 hM ⟨callB_of n hts (hp_gs h1) rfl rfl rfl (hts _ h2) (hts _ hL) h4 hRR, hts _ v1, hts _ v2⟩ hp rfl hlen hsz hst (lv_room (m := m) (pc := pc) (ls := ls) (rest := st) hcat) hdg hff
  · exact va_runVN (As := As) (rest := rest) (n := n) (C := y.cls) C.1 hM ⟨va_cnB n hts (hp_gs h1) rfl rfl rfl (C.2.2.1 _ hL) (hts _ h2) h4 hRR, hts _ v1, hts _ v2⟩ hp rfl hlen hsz hst (lv_room (m := m) (pc := pc) (ls := ls) (rest := st) hcat) hdg hff
theorem hp_runS {Qc : Array Value → State → Outcome → State → Prop} (C : hp_C Γ p m c cc nL s args own) (B : hp_B Γ Iv s α0 α H locs) (hM : Met l y (hp_ws y bytes maxL ret) (hp_rm d' mc ms) (hp_Pc Γ α As) Qc mc ms (hp_A Γ)) (hB : hp_LB y bytes maxL ret n) (hV : Cond.static y ∈ lw_u) (hL : hp_LK own index y) (hR : R = hp_rm d mc' ms') (hd : d' < d) (hlen : As.length = n) (hsz : ls.size = nL) (hst : st = As.reverse ++ rest) (hcat : (rest.map fun v => v.category).sum ≤ 8) (hdg : decode cc pc = .ok (.invokestatic index, 3)) (hf : cells + mc ≤ mc' ∧ slots + ms ≤ ms') :
    va_Run p l e R s m args below meth c H locs cells slots mc ms (F0 m pc ls st) rest (Qc As.toArray) (hp_A Γ) := by
  obtain ⟨h1, h2, h3, h4⟩ := hB
  have hts := C.1.2.2.2.2
  have hp : PreS s H (hp_Pc Γ α As) As := ⟨hp_blind Γ α _, fun U hU hW => ⟨rfl, by rw [hU]; exact B.1, C.2.warm hW⟩⟩
  have hRR : (hp_rm d' mc ms).frames + 1 ≤ R.frames ∧ 8 + (maxL + 11) + (hp_rm d' mc ms).locals ≤ R.locals := by
    rw [hR]; show d' + 1 ≤ d ∧ 8 + (maxL + 11) + 45 * d' ≤ 45 * d; omega
  have hff : cells + mc ≤ R.cells ∧ slots + ms ≤ R.slots := by rw [hR]; exact hf
  rcases hL with hL | ⟨host, hL⟩
  · exact va_runS (As := As) (rest := rest) (n := n) C.1 hM ⟨callB_of n hts (hp_gs h1) rfl rfl rfl (hts _ h2) (hts _ hL) h4 hRR, hts _ hV⟩ hp rfl hlen hsz hst (lv_room (m := m) (pc := pc) (ls := ls) (rest := st) hcat) hdg hff
  · exact va_runSN (As := As) (rest := rest) (n := n) C.1 hM ⟨va_cnB n hts (hp_gs h1) rfl rfl rfl (C.2.2.1 _ hL) (hts _ h2) h4 hRR, hts _ hV, trivial⟩ hp rfl hlen hsz hst (lv_room (m := m) (pc := pc) (ls := ls) (rest := st) hcat) hdg hff
variable {a : Array Value}
theorem q_ci {post : Int32 → hp_T → Prop} (B : hp_B Γ Iv s α0 α H locs) (hr : va_Run p l e R s m args below meth c H locs cells slots mc ms (F0 m pc ls st) rest (hp_Qi Γ post a) (hp_A Γ)) (hi : ∀ r β, post r β → Iv α0 β) (hpc : pc + 3 = pc')
    (kk : ∀ (r : Int32) (β : hp_T) (H1 : Heap) (locs1 : List Loc), post r β → hp_B Γ Iv s α0 β H1 locs1 → W p l e R s m args below meth c H1 locs1 (cells + mc) (slots + ms) Q (F0 m pc' ls (.int r :: rest))) : W p l e R s m args below meth c H locs cells slots Q (F0 m pc ls st) := by
  subst hpc
  exact va_calli hr B.2.1 (fun _ _ h => h) (fun _ h => h) (fun r u t H1 locs1 ht _ hw hB _ _ hS => kk r u H1 locs1 hw ⟨by rw [← ht]; exact hB, hS, hi r u hw⟩)
theorem q_cv {post : hp_T → Prop} (B : hp_B Γ Iv s α0 α H locs) (hr : va_Run p l e R s m args below meth c H locs cells slots mc ms (F0 m pc ls st) rest (hp_Qv Γ post a) (hp_A Γ)) (hi : ∀ β, post β → Iv α0 β) (hpc : pc + 3 = pc')
    (kk : ∀ (β : hp_T) (H1 : Heap) (locs1 : List Loc), post β → hp_B Γ Iv s α0 β H1 locs1 → W p l e R s m args below meth c H1 locs1 (cells + mc) (slots + ms) Q (F0 m pc' ls rest)) : W p l e R s m args below meth c H locs cells slots Q (F0 m pc ls st) := by
  subst hpc
  exact va_callv hr B.2.1 (fun _ _ h => h) (fun _ h => h) (fun u t H1 locs1 ht _ hw hB _ _ hS => kk u H1 locs1 hw ⟨by rw [← ht]; exact hB, hS, hi u hw⟩)
theorem q_cl {post : Int64 → hp_T → Prop} (B : hp_B Γ Iv s α0 α H locs) (hr : va_Run p l e R s m args below meth c H locs cells slots mc ms (F0 m pc ls st) rest (hp_Ql Γ post a) (hp_A Γ)) (hi : ∀ r β, post r β → Iv α0 β) (hpc : pc + 3 = pc')
    (kk : ∀ (r : Int64) (β : hp_T) (H1 : Heap) (locs1 : List Loc), post r β → hp_B Γ Iv s α0 β H1 locs1 → W p l e R s m args below meth c H1 locs1 (cells + mc) (slots + ms) Q (F0 m pc' ls (.long r :: rest))) : W p l e R s m args below meth c H locs cells slots Q (F0 m pc ls st) := by
  subst hpc
  exact va_calll hr B.2.1 (fun _ _ h => h) (fun _ h => h) (fun r u t H1 locs1 ht _ hw hB _ _ hS => kk r u H1 locs1 hw ⟨by rw [← ht]; exact hB, hS, hi r u hw⟩)
theorem q_cq {post : Option Nat → hp_T → Prop} (B : hp_B Γ Iv s α0 α H locs) (hr : va_Run p l e R s m args below meth c H locs cells slots mc ms (F0 m pc ls st) rest (hp_Qq Γ post a) (hp_A Γ)) (hi : ∀ r β, post r β → Iv α0 β) (hpc : pc + 3 = pc')
    (kk : ∀ (r : Option Nat) (β : hp_T) (H1 : Heap) (locs1 : List Loc), post r β → hp_B Γ Iv s α0 β H1 locs1 → W p l e R s m args below meth c H1 locs1 (cells + mc) (slots + ms) Q (F0 m pc' ls (va_rf r :: rest))) : W p l e R s m args below meth c H locs cells slots Q (F0 m pc ls st) := by
  subst hpc
  exact va_callq hr B.2.1 (fun _ _ h => h) (fun _ h => h) (fun r u t H1 locs1 ht _ hw hB _ _ hS => kk r u H1 locs1 hw ⟨by rw [← ht]; exact hB, hS, hi r u hw⟩)
/-! ends -/
theorem q_iret {post : Int32 → hp_T → Prop} {x : Int32} (C : hp_C Γ p m c cc nL s args own) (B : hp_B Γ Iv s α0 α H locs) (hr : meth.sig.returnType = some .int) (hl : meth.locks = false) (hp : post x α) (hdg : decode cc pc = .ok (.ireturn, 1)) : W p l e R s m args below meth c H locs cells slots (MQ below (hp_Qi Γ post) args s cells slots (hp_A Γ)) (F0 m pc ls [.int x]) :=
  W.iret C.1.1 C.1.2.1 hr (fun _ ht _ => ⟨⟨x, α, rfl, hp, by dsimp only; rw [ht]; exact B.1⟩, B.2.1.F ht⟩) B.2.1.2.2 hdg hl
theorem q_zret {post : Int32 → hp_T → Prop} {x : Int32} {ty : FieldType} (C : hp_C Γ p m c cc nL s args own) (B : hp_B Γ Iv s α0 α H locs) (hr : meth.sig.returnType = some ty) (hl : meth.locks = false) (hn : narrow ty (.int x) = .int x) (hp : post x α) (hdg : decode cc pc = .ok (.ireturn, 1)) : W p l e R s m args below meth c H locs cells slots (MQ below (hp_Qi Γ post) args s cells slots (hp_A Γ)) (F0 m pc ls [.int x]) :=
  W.zret C.1.1 C.1.2.1 hr hn (fun _ ht _ => ⟨⟨x, α, rfl, hp, by dsimp only; rw [ht]; exact B.1⟩, B.2.1.F ht⟩) B.2.1.2.2 hdg hl
theorem q_vret {post : hp_T → Prop} (C : hp_C Γ p m c cc nL s args own) (B : hp_B Γ Iv s α0 α H locs) (hr : meth.sig.returnType = none) (hl : meth.locks = false) (hp : post α) (hdg : decode cc pc = .ok (.return_, 1)) : W p l e R s m args below meth c H locs cells slots (MQ below (hp_Qv Γ post) args s cells slots (hp_A Γ)) (F0 m pc ls []) :=
  W.vret C.1.1 C.1.2.1 hr (fun _ ht _ => ⟨⟨α, rfl, hp, by dsimp only; rw [ht]; exact B.1⟩, B.2.1.F ht⟩) B.2.1.2.2 hdg hl
theorem q_lret {post : Int64 → hp_T → Prop} {x : Int64} (C : hp_C Γ p m c cc nL s args own) (B : hp_B Γ Iv s α0 α H locs) (hr : meth.sig.returnType = some .long) (hl : meth.locks = false) (hp : post x α) (hdg : decode cc pc = .ok (.lreturn, 1)) : W p l e R s m args below meth c H locs cells slots (MQ below (hp_Ql Γ post) args s cells slots (hp_A Γ)) (F0 m pc ls [.long x]) :=
  W.lret C.1.1 C.1.2.1 hr (fun _ ht _ => ⟨⟨x, α, rfl, hp, by dsimp only; rw [ht]; exact B.1⟩, B.2.1.F ht⟩) B.2.1.2.2 hdg hl
theorem q_aret {post : Option Nat → hp_T → Prop} {x : Option Nat} {C0 : String} (C : hp_C Γ p m c cc nL s args own) (B : hp_B Γ Iv s α0 α H locs) (hr : meth.sig.returnType = some (.object C0)) (hl : meth.locks = false) (hp : post x α) (hdg : decode cc pc = .ok (.areturn, 1)) : W p l e R s m args below meth c H locs cells slots (MQ below (hp_Qq Γ post) args s cells slots (hp_A Γ)) (F0 m pc ls [va_rf x]) :=
  W.aret C.1.1 C.1.2.1 hr (Or.inl ⟨_, rfl⟩) (by cases x <;> simp [va_rf]) (fun _ ht _ => ⟨⟨x, α, rfl, hp, by dsimp only; rw [ht]; exact B.1⟩, B.2.1.F ht⟩) B.2.1.2.2 hdg hl
/-- a method's start -/
theorem hp_start {Qc : Array Value → State → Outcome → State → Prop} {av : List Value} (hy : plainName y.cls = true)
    (body : ∀ p e s m below meth c, hp_C Γ p m c bytes maxL s av.toArray y.cls → meth.sig.returnType = ret → meth.locks = false → hp_B Γ (fun _ _ => True) s α α s.heap [] → meth.name = y.name →
      W p l e (hp_rm d mc ms) s m av.toArray below meth c s.heap [] 0 0 (MQ below Qc av.toArray s mc ms (hp_A Γ)) (entryFrame m av.toArray maxL)) : Met l y (hp_ws y bytes maxL ret) (hp_rm d mc ms) (hp_Pc Γ α av) Qc mc ms (hp_A Γ) := by
  refine Met.ofW (cc := bytes) (maxL := maxL) (ret := ret) hy rfl ?_
  intro p e s m args below meth c s₁ B hml hv
  obtain ⟨rfl, hR, hK⟩ := hv
  have hts := atoms_spec (ws := hp_ws y bytes maxL ret) B.pre
  exact body p e s m below meth c ⟨⟨B.exec, B.bytes, hml, findClass_of_methodNamed B.named, fun w hw => hts w (List.mem_cons_of_mem _ hw)⟩, hK⟩ B.returns B.notSynchronized ⟨hR, va_S.rf, trivial⟩ (name_of_methodNamed B.named B.method).1
end HPC
end JN2_1
section JN2_2
theorem tb_0 {w : Cond} (h : w ∈ k2_sels lw_privs) : w ∈ lw_tbl := List.mem_append_left _ h
theorem tb_1 {w : Cond} (h : w ∈ tables_1_1) : w ∈ lw_tbl := List.mem_append_right _ (List.mem_append_left _ h)
theorem tb_2 {w : Cond} (h : w ∈ tables_1_2) : w ∈ lw_tbl := List.mem_append_right _ (List.mem_append_right _ (List.mem_append_left _ h))
theorem tb_3 {w : Cond} (h : w ∈ tables_1_3) : w ∈ lw_tbl := List.mem_append_right _ (List.mem_append_right _ (List.mem_append_right _ (List.mem_append_left _ h)))
theorem tb_4 {w : Cond} (h : w ∈ tables_1_4) : w ∈ lw_tbl := List.mem_append_right _ (List.mem_append_right _ (List.mem_append_right _ (List.mem_append_right _ (List.mem_append_left _ h))))
theorem tb_5 {w : Cond} (h : w ∈ tables_1_5) : w ∈ lw_tbl := List.mem_append_right _ (List.mem_append_right _ (List.mem_append_right _ (List.mem_append_right _ (List.mem_append_right _ (List.mem_append_left _ h)))))
theorem tb_6 {w : Cond} (h : w ∈ tables_1_6) : w ∈ lw_tbl := List.mem_append_right _ (List.mem_append_right _ (List.mem_append_right _ (List.mem_append_right _ (List.mem_append_right _ (List.mem_append_right _ (List.mem_append_left _ h))))))
theorem tb_7 {w : Cond} (h : w ∈ tables_1_7) : w ∈ lw_tbl := List.mem_append_right _ (List.mem_append_right _ (List.mem_append_right _ (List.mem_append_right _ (List.mem_append_right _ (List.mem_append_right _ (List.mem_append_right _ (List.mem_append_left _ h)))))))
theorem tb_8 {w : Cond} (h : w ∈ tables_1_8) : w ∈ lw_tbl := List.mem_append_right _ (List.mem_append_right _ (List.mem_append_right _ (List.mem_append_right _ (List.mem_append_right _ (List.mem_append_right _ (List.mem_append_right _ (List.mem_append_right _ (List.mem_append_left _ h))))))))
theorem tb_9 {w : Cond} (h : w ∈ tables_1_9) : w ∈ lw_tbl := List.mem_append_right _ (List.mem_append_right _ (List.mem_append_right _ (List.mem_append_right _ (List.mem_append_right _ (List.mem_append_right _ (List.mem_append_right _ (List.mem_append_right _ (List.mem_append_right _ (h)))))))))
theorem tl_0_0 : u_lay RX0 TX0 0 ∈ lw_u := hp_mu (tb_1 (List.mem_of_getElem? (i := 235) rfl)) rfl
theorem tl_0_1 : u_lay RX0 TX0 1 ∈ lw_u := hp_mu (tb_1 (List.mem_of_getElem? (i := 237) rfl)) rfl
theorem tl_0_2 : u_lay RX0 TX0 2 ∈ lw_u := hp_mu (tb_1 (List.mem_of_getElem? (i := 239) rfl)) rfl
theorem tl_0_3 : u_lay RX0 TX0 3 ∈ lw_u := hp_mu (tb_2 (List.mem_of_getElem? (i := 1) rfl)) rfl
theorem tl_0_4 : u_lay RX0 TX0 4 ∈ lw_u := hp_mu (tb_2 (List.mem_of_getElem? (i := 3) rfl)) rfl
theorem in_1 : ∀ w ∈ u_ws (hp_q 1).1 (hp_q 1).2.1 (hp_q 1).2.2, w ∈ lw_u := fun w h => by
  obtain ⟨k, hk, rfl⟩ := List.mem_map.mp h
  have hk : k < 5 := List.mem_range.mp hk
  match k, hk with
  | 0, _ => exact tl_0_0
  | 1, _ => exact tl_0_1
  | 2, _ => exact tl_0_2
  | 3, _ => exact tl_0_3
  | 4, _ => exact tl_0_4
  | k + 5, h => exact absurd h (by omega)
theorem tl_1_0 : u_lay RX1 TX1 0 ∈ lw_u := hp_mu (tb_1 (List.mem_of_getElem? (i := 141) rfl)) rfl
theorem tl_1_1 : u_lay RX1 TX1 1 ∈ lw_u := hp_mu (tb_1 (List.mem_of_getElem? (i := 143) rfl)) rfl
theorem tl_1_2 : u_lay RX1 TX1 2 ∈ lw_u := hp_mu (tb_1 (List.mem_of_getElem? (i := 145) rfl)) rfl
theorem tl_1_3 : u_lay RX1 TX1 3 ∈ lw_u := hp_mu (tb_1 (List.mem_of_getElem? (i := 147) rfl)) rfl
theorem tl_1_4 : u_lay RX1 TX1 4 ∈ lw_u := hp_mu (tb_1 (List.mem_of_getElem? (i := 149) rfl)) rfl
theorem in_2 : ∀ w ∈ u_ws (hp_q 2).1 (hp_q 2).2.1 (hp_q 2).2.2, w ∈ lw_u := fun w h => by
  obtain ⟨k, hk, rfl⟩ := List.mem_map.mp h
  have hk : k < 5 := List.mem_range.mp hk
  match k, hk with
  | 0, _ => exact tl_1_0
  | 1, _ => exact tl_1_1
  | 2, _ => exact tl_1_2
  | 3, _ => exact tl_1_3
  | 4, _ => exact tl_1_4
  | k + 5, h => exact absurd h (by omega)
theorem tl_2_0 : u_lay RX2 TX2 0 ∈ lw_u := hp_mu (tb_1 (List.mem_of_getElem? (i := 113) rfl)) rfl
theorem tl_2_1 : u_lay RX2 TX2 1 ∈ lw_u := hp_mu (tb_1 (List.mem_of_getElem? (i := 115) rfl)) rfl
theorem tl_2_2 : u_lay RX2 TX2 2 ∈ lw_u := hp_mu (tb_1 (List.mem_of_getElem? (i := 117) rfl)) rfl
theorem in_3 : ∀ w ∈ u_ws (hp_q 3).1 (hp_q 3).2.1 (hp_q 3).2.2, w ∈ lw_u := fun w h => by
  obtain ⟨k, hk, rfl⟩ := List.mem_map.mp h
  have hk : k < 3 := List.mem_range.mp hk
  match k, hk with
  | 0, _ => exact tl_2_0
  | 1, _ => exact tl_2_1
  | 2, _ => exact tl_2_2
  | k + 3, h => exact absurd h (by omega)
theorem tl_3_0 : u_lay RX3 TX3 0 ∈ lw_u := hp_mu (tb_2 (List.mem_of_getElem? (i := 67) rfl)) rfl
theorem tl_3_1 : u_lay RX3 TX3 1 ∈ lw_u := hp_mu (tb_2 (List.mem_of_getElem? (i := 69) rfl)) rfl
theorem tl_3_2 : u_lay RX3 TX3 2 ∈ lw_u := hp_mu (tb_2 (List.mem_of_getElem? (i := 71) rfl)) rfl
theorem tl_3_3 : u_lay RX3 TX3 3 ∈ lw_u := hp_mu (tb_2 (List.mem_of_getElem? (i := 73) rfl)) rfl
theorem tl_3_4 : u_lay RX3 TX3 4 ∈ lw_u := hp_mu (tb_2 (List.mem_of_getElem? (i := 75) rfl)) rfl
theorem tl_3_5 : u_lay RX3 TX3 5 ∈ lw_u := hp_mu (tb_2 (List.mem_of_getElem? (i := 77) rfl)) rfl
theorem tl_3_6 : u_lay RX3 TX3 6 ∈ lw_u := hp_mu (tb_2 (List.mem_of_getElem? (i := 79) rfl)) rfl
theorem tl_3_7 : u_lay RX3 TX3 7 ∈ lw_u := hp_mu (tb_2 (List.mem_of_getElem? (i := 81) rfl)) rfl
theorem tl_3_8 : u_lay RX3 TX3 8 ∈ lw_u := hp_mu (tb_2 (List.mem_of_getElem? (i := 83) rfl)) rfl
theorem tl_3_9 : u_lay RX3 TX3 9 ∈ lw_u := hp_mu (tb_2 (List.mem_of_getElem? (i := 85) rfl)) rfl
theorem in_4 : ∀ w ∈ u_ws (hp_q 4).1 (hp_q 4).2.1 (hp_q 4).2.2, w ∈ lw_u := fun w h => by
  obtain ⟨k, hk, rfl⟩ := List.mem_map.mp h
  have hk : k < 10 := List.mem_range.mp hk
  match k, hk with
  | 0, _ => exact tl_3_0
  | 1, _ => exact tl_3_1
  | 2, _ => exact tl_3_2
  | 3, _ => exact tl_3_3
  | 4, _ => exact tl_3_4
  | 5, _ => exact tl_3_5
  | 6, _ => exact tl_3_6
  | 7, _ => exact tl_3_7
  | 8, _ => exact tl_3_8
  | 9, _ => exact tl_3_9
  | k + 10, h => exact absurd h (by omega)
theorem tl_4_0 : u_lay RX4 TX4 0 ∈ lw_u := hp_mu (tb_5 (List.mem_of_getElem? (i := 165) rfl)) rfl
theorem tl_4_1 : u_lay RX4 TX4 1 ∈ lw_u := hp_mu (tb_5 (List.mem_of_getElem? (i := 167) rfl)) rfl
theorem tl_4_2 : u_lay RX4 TX4 2 ∈ lw_u := hp_mu (tb_5 (List.mem_of_getElem? (i := 169) rfl)) rfl
theorem tl_4_3 : u_lay RX4 TX4 3 ∈ lw_u := hp_mu (tb_5 (List.mem_of_getElem? (i := 171) rfl)) rfl
theorem tl_4_4 : u_lay RX4 TX4 4 ∈ lw_u := hp_mu (tb_5 (List.mem_of_getElem? (i := 173) rfl)) rfl
theorem tl_4_5 : u_lay RX4 TX4 5 ∈ lw_u := hp_mu (tb_5 (List.mem_of_getElem? (i := 175) rfl)) rfl
theorem tl_4_6 : u_lay RX4 TX4 6 ∈ lw_u := hp_mu (tb_5 (List.mem_of_getElem? (i := 177) rfl)) rfl
theorem tl_4_7 : u_lay RX4 TX4 7 ∈ lw_u := hp_mu (tb_5 (List.mem_of_getElem? (i := 179) rfl)) rfl
theorem tl_4_8 : u_lay RX4 TX4 8 ∈ lw_u := hp_mu (tb_5 (List.mem_of_getElem? (i := 181) rfl)) rfl
theorem tl_4_9 : u_lay RX4 TX4 9 ∈ lw_u := hp_mu (tb_5 (List.mem_of_getElem? (i := 183) rfl)) rfl
theorem tl_4_10 : u_lay RX4 TX4 10 ∈ lw_u := hp_mu (tb_5 (List.mem_of_getElem? (i := 185) rfl)) rfl
theorem in_5 : ∀ w ∈ u_ws (hp_q 5).1 (hp_q 5).2.1 (hp_q 5).2.2, w ∈ lw_u := fun w h => by
  obtain ⟨k, hk, rfl⟩ := List.mem_map.mp h
  have hk : k < 11 := List.mem_range.mp hk
  match k, hk with
  | 0, _ => exact tl_4_0
  | 1, _ => exact tl_4_1
  | 2, _ => exact tl_4_2
  | 3, _ => exact tl_4_3
  | 4, _ => exact tl_4_4
  | 5, _ => exact tl_4_5
  | 6, _ => exact tl_4_6
  | 7, _ => exact tl_4_7
  | 8, _ => exact tl_4_8
  | 9, _ => exact tl_4_9
  | 10, _ => exact tl_4_10
  | k + 11, h => exact absurd h (by omega)
theorem tl_5_0 : u_lay RX5 TX5 0 ∈ lw_u := hp_mu (tb_1 (List.mem_of_getElem? (i := 54) rfl)) rfl
theorem tl_5_1 : u_lay RX5 TX5 1 ∈ lw_u := hp_mu (tb_1 (List.mem_of_getElem? (i := 56) rfl)) rfl
theorem in_6 : ∀ w ∈ u_ws (hp_q 6).1 (hp_q 6).2.1 (hp_q 6).2.2, w ∈ lw_u := fun w h => by
  obtain ⟨k, hk, rfl⟩ := List.mem_map.mp h
  have hk : k < 2 := List.mem_range.mp hk
  match k, hk with
  | 0, _ => exact tl_5_0
  | 1, _ => exact tl_5_1
  | k + 2, h => exact absurd h (by omega)
theorem tl_6_0 : u_lay RX6 TX6 0 ∈ lw_u := hp_mu (tb_2 (List.mem_of_getElem? (i := 29) rfl)) rfl
theorem tl_6_1 : u_lay RX6 TX6 1 ∈ lw_u := hp_mu (tb_2 (List.mem_of_getElem? (i := 31) rfl)) rfl
theorem tl_6_2 : u_lay RX6 TX6 2 ∈ lw_u := hp_mu (tb_2 (List.mem_of_getElem? (i := 33) rfl)) rfl
theorem tl_6_3 : u_lay RX6 TX6 3 ∈ lw_u := hp_mu (tb_2 (List.mem_of_getElem? (i := 35) rfl)) rfl
theorem tl_6_4 : u_lay RX6 TX6 4 ∈ lw_u := hp_mu (tb_2 (List.mem_of_getElem? (i := 37) rfl)) rfl
theorem tl_6_5 : u_lay RX6 TX6 5 ∈ lw_u := hp_mu (tb_2 (List.mem_of_getElem? (i := 39) rfl)) rfl
theorem tl_6_6 : u_lay RX6 TX6 6 ∈ lw_u := hp_mu (tb_2 (List.mem_of_getElem? (i := 41) rfl)) rfl
theorem in_7 : ∀ w ∈ u_ws (hp_q 7).1 (hp_q 7).2.1 (hp_q 7).2.2, w ∈ lw_u := fun w h => by
  obtain ⟨k, hk, rfl⟩ := List.mem_map.mp h
  have hk : k < 7 := List.mem_range.mp hk
  match k, hk with
  | 0, _ => exact tl_6_0
  | 1, _ => exact tl_6_1
  | 2, _ => exact tl_6_2
  | 3, _ => exact tl_6_3
  | 4, _ => exact tl_6_4
  | 5, _ => exact tl_6_5
  | 6, _ => exact tl_6_6
  | k + 7, h => exact absurd h (by omega)
theorem tl_7_0 : u_lay RX7 TX7 0 ∈ lw_u := hp_mu (tb_1 (List.mem_of_getElem? (i := 169) rfl)) rfl
theorem tl_7_1 : u_lay RX7 TX7 1 ∈ lw_u := hp_mu (tb_1 (List.mem_of_getElem? (i := 171) rfl)) rfl
theorem tl_7_2 : u_lay RX7 TX7 2 ∈ lw_u := hp_mu (tb_1 (List.mem_of_getElem? (i := 173) rfl)) rfl
theorem tl_7_3 : u_lay RX7 TX7 3 ∈ lw_u := hp_mu (tb_1 (List.mem_of_getElem? (i := 175) rfl)) rfl
theorem in_8 : ∀ w ∈ u_ws (hp_q 8).1 (hp_q 8).2.1 (hp_q 8).2.2, w ∈ lw_u := fun w h => by
  obtain ⟨k, hk, rfl⟩ := List.mem_map.mp h
  have hk : k < 4 := List.mem_range.mp hk
  match k, hk with
  | 0, _ => exact tl_7_0
  | 1, _ => exact tl_7_1
  | 2, _ => exact tl_7_2
  | 3, _ => exact tl_7_3
  | k + 4, h => exact absurd h (by omega)
theorem tl_8_0 : u_lay RX8 TX8 0 ∈ lw_u := hp_mu (tb_1 (List.mem_of_getElem? (i := 74) rfl)) rfl
theorem tl_8_1 : u_lay RX8 TX8 1 ∈ lw_u := hp_mu (tb_1 (List.mem_of_getElem? (i := 76) rfl)) rfl
theorem tl_8_2 : u_lay RX8 TX8 2 ∈ lw_u := hp_mu (tb_1 (List.mem_of_getElem? (i := 78) rfl)) rfl
theorem tl_8_3 : u_lay RX8 TX8 3 ∈ lw_u := hp_mu (tb_1 (List.mem_of_getElem? (i := 80) rfl)) rfl
theorem tl_8_4 : u_lay RX8 TX8 4 ∈ lw_u := hp_mu (tb_1 (List.mem_of_getElem? (i := 82) rfl)) rfl
theorem in_9 : ∀ w ∈ u_ws (hp_q 9).1 (hp_q 9).2.1 (hp_q 9).2.2, w ∈ lw_u := fun w h => by
  obtain ⟨k, hk, rfl⟩ := List.mem_map.mp h
  have hk : k < 5 := List.mem_range.mp hk
  match k, hk with
  | 0, _ => exact tl_8_0
  | 1, _ => exact tl_8_1
  | 2, _ => exact tl_8_2
  | 3, _ => exact tl_8_3
  | 4, _ => exact tl_8_4
  | k + 5, h => exact absurd h (by omega)
theorem tl_9_0 : u_lay RX9 TX9 0 ∈ lw_u := hp_mu (tb_1 (List.mem_of_getElem? (i := 101) rfl)) rfl
theorem tl_9_1 : u_lay RX9 TX9 1 ∈ lw_u := hp_mu (tb_1 (List.mem_of_getElem? (i := 103) rfl)) rfl
theorem in_10 : ∀ w ∈ u_ws (hp_q 10).1 (hp_q 10).2.1 (hp_q 10).2.2, w ∈ lw_u := fun w h => by
  obtain ⟨k, hk, rfl⟩ := List.mem_map.mp h
  have hk : k < 2 := List.mem_range.mp hk
  match k, hk with
  | 0, _ => exact tl_9_0
  | 1, _ => exact tl_9_1
  | k + 2, h => exact absurd h (by omega)
theorem tl_10_0 : u_lay RX10 TX10 0 ∈ lw_u := hp_mu (tb_1 (List.mem_of_getElem? (i := 195) rfl)) rfl
theorem tl_10_1 : u_lay RX10 TX10 1 ∈ lw_u := hp_mu (tb_1 (List.mem_of_getElem? (i := 197) rfl)) rfl
theorem tl_10_2 : u_lay RX10 TX10 2 ∈ lw_u := hp_mu (tb_1 (List.mem_of_getElem? (i := 199) rfl)) rfl
theorem tl_10_3 : u_lay RX10 TX10 3 ∈ lw_u := hp_mu (tb_1 (List.mem_of_getElem? (i := 201) rfl)) rfl
theorem tl_10_4 : u_lay RX10 TX10 4 ∈ lw_u := hp_mu (tb_1 (List.mem_of_getElem? (i := 203) rfl)) rfl
theorem tl_10_5 : u_lay RX10 TX10 5 ∈ lw_u := hp_mu (tb_1 (List.mem_of_getElem? (i := 205) rfl)) rfl
theorem tl_10_6 : u_lay RX10 TX10 6 ∈ lw_u := hp_mu (tb_1 (List.mem_of_getElem? (i := 207) rfl)) rfl
theorem tl_10_7 : u_lay RX10 TX10 7 ∈ lw_u := hp_mu (tb_1 (List.mem_of_getElem? (i := 209) rfl)) rfl
theorem tl_10_8 : u_lay RX10 TX10 8 ∈ lw_u := hp_mu (tb_1 (List.mem_of_getElem? (i := 211) rfl)) rfl
theorem tl_10_9 : u_lay RX10 TX10 9 ∈ lw_u := hp_mu (tb_1 (List.mem_of_getElem? (i := 213) rfl)) rfl
theorem in_11 : ∀ w ∈ u_ws (hp_q 11).1 (hp_q 11).2.1 (hp_q 11).2.2, w ∈ lw_u := fun w h => by
  obtain ⟨k, hk, rfl⟩ := List.mem_map.mp h
  have hk : k < 10 := List.mem_range.mp hk
  match k, hk with
  | 0, _ => exact tl_10_0
  | 1, _ => exact tl_10_1
  | 2, _ => exact tl_10_2
  | 3, _ => exact tl_10_3
  | 4, _ => exact tl_10_4
  | 5, _ => exact tl_10_5
  | 6, _ => exact tl_10_6
  | 7, _ => exact tl_10_7
  | 8, _ => exact tl_10_8
  | 9, _ => exact tl_10_9
  | k + 10, h => exact absurd h (by omega)
theorem tl_11_0 : u_lay RX11 TX11 0 ∈ lw_u := hp_mu (tb_2 (List.mem_of_getElem? (i := 107) rfl)) rfl
theorem tl_11_1 : u_lay RX11 TX11 1 ∈ lw_u := hp_mu (tb_2 (List.mem_of_getElem? (i := 109) rfl)) rfl
theorem tl_11_2 : u_lay RX11 TX11 2 ∈ lw_u := hp_mu (tb_2 (List.mem_of_getElem? (i := 111) rfl)) rfl
theorem tl_11_3 : u_lay RX11 TX11 3 ∈ lw_u := hp_mu (tb_2 (List.mem_of_getElem? (i := 113) rfl)) rfl
theorem tl_11_4 : u_lay RX11 TX11 4 ∈ lw_u := hp_mu (tb_2 (List.mem_of_getElem? (i := 115) rfl)) rfl
theorem tl_11_5 : u_lay RX11 TX11 5 ∈ lw_u := hp_mu (tb_2 (List.mem_of_getElem? (i := 117) rfl)) rfl
theorem tl_11_6 : u_lay RX11 TX11 6 ∈ lw_u := hp_mu (tb_2 (List.mem_of_getElem? (i := 119) rfl)) rfl
theorem tl_11_7 : u_lay RX11 TX11 7 ∈ lw_u := hp_mu (tb_2 (List.mem_of_getElem? (i := 121) rfl)) rfl
theorem tl_11_8 : u_lay RX11 TX11 8 ∈ lw_u := hp_mu (tb_2 (List.mem_of_getElem? (i := 123) rfl)) rfl
theorem tl_11_9 : u_lay RX11 TX11 9 ∈ lw_u := hp_mu (tb_2 (List.mem_of_getElem? (i := 125) rfl)) rfl
theorem tl_11_10 : u_lay RX11 TX11 10 ∈ lw_u := hp_mu (tb_2 (List.mem_of_getElem? (i := 127) rfl)) rfl
theorem tl_11_11 : u_lay RX11 TX11 11 ∈ lw_u := hp_mu (tb_2 (List.mem_of_getElem? (i := 129) rfl)) rfl
theorem tl_11_12 : u_lay RX11 TX11 12 ∈ lw_u := hp_mu (tb_2 (List.mem_of_getElem? (i := 131) rfl)) rfl
theorem tl_11_13 : u_lay RX11 TX11 13 ∈ lw_u := hp_mu (tb_2 (List.mem_of_getElem? (i := 133) rfl)) rfl
theorem tl_11_14 : u_lay RX11 TX11 14 ∈ lw_u := hp_mu (tb_2 (List.mem_of_getElem? (i := 135) rfl)) rfl
theorem tl_11_15 : u_lay RX11 TX11 15 ∈ lw_u := hp_mu (tb_2 (List.mem_of_getElem? (i := 137) rfl)) rfl
theorem tl_11_16 : u_lay RX11 TX11 16 ∈ lw_u := hp_mu (tb_2 (List.mem_of_getElem? (i := 139) rfl)) rfl
theorem tl_11_17 : u_lay RX11 TX11 17 ∈ lw_u := hp_mu (tb_2 (List.mem_of_getElem? (i := 141) rfl)) rfl
theorem tl_11_18 : u_lay RX11 TX11 18 ∈ lw_u := hp_mu (tb_2 (List.mem_of_getElem? (i := 143) rfl)) rfl
theorem in_12 : ∀ w ∈ u_ws (hp_q 12).1 (hp_q 12).2.1 (hp_q 12).2.2, w ∈ lw_u := fun w h => by
  obtain ⟨k, hk, rfl⟩ := List.mem_map.mp h
  have hk : k < 19 := List.mem_range.mp hk
  match k, hk with
  | 0, _ => exact tl_11_0
  | 1, _ => exact tl_11_1
  | 2, _ => exact tl_11_2
  | 3, _ => exact tl_11_3
  | 4, _ => exact tl_11_4
  | 5, _ => exact tl_11_5
  | 6, _ => exact tl_11_6
  | 7, _ => exact tl_11_7
  | 8, _ => exact tl_11_8
  | 9, _ => exact tl_11_9
  | 10, _ => exact tl_11_10
  | 11, _ => exact tl_11_11
  | 12, _ => exact tl_11_12
  | 13, _ => exact tl_11_13
  | 14, _ => exact tl_11_14
  | 15, _ => exact tl_11_15
  | 16, _ => exact tl_11_16
  | 17, _ => exact tl_11_17
  | 18, _ => exact tl_11_18
  | k + 19, h => exact absurd h (by omega)
theorem tl_12_0 : u_lay RX12 TX12 0 ∈ lw_u := hp_mu (tb_6 (List.mem_of_getElem? (i := 190) rfl)) rfl
theorem tl_12_1 : u_lay RX12 TX12 1 ∈ lw_u := hp_mu (tb_6 (List.mem_of_getElem? (i := 192) rfl)) rfl
theorem tl_12_2 : u_lay RX12 TX12 2 ∈ lw_u := hp_mu (tb_6 (List.mem_of_getElem? (i := 194) rfl)) rfl
theorem tl_12_3 : u_lay RX12 TX12 3 ∈ lw_u := hp_mu (tb_6 (List.mem_of_getElem? (i := 196) rfl)) rfl
theorem tl_12_4 : u_lay RX12 TX12 4 ∈ lw_u := hp_mu (tb_6 (List.mem_of_getElem? (i := 198) rfl)) rfl
theorem tl_12_5 : u_lay RX12 TX12 5 ∈ lw_u := hp_mu (tb_6 (List.mem_of_getElem? (i := 200) rfl)) rfl
theorem tl_12_6 : u_lay RX12 TX12 6 ∈ lw_u := hp_mu (tb_6 (List.mem_of_getElem? (i := 202) rfl)) rfl
theorem tl_12_7 : u_lay RX12 TX12 7 ∈ lw_u := hp_mu (tb_6 (List.mem_of_getElem? (i := 204) rfl)) rfl
theorem tl_12_8 : u_lay RX12 TX12 8 ∈ lw_u := hp_mu (tb_6 (List.mem_of_getElem? (i := 206) rfl)) rfl
theorem tl_12_9 : u_lay RX12 TX12 9 ∈ lw_u := hp_mu (tb_6 (List.mem_of_getElem? (i := 208) rfl)) rfl
theorem tl_12_10 : u_lay RX12 TX12 10 ∈ lw_u := hp_mu (tb_6 (List.mem_of_getElem? (i := 210) rfl)) rfl
theorem tl_12_11 : u_lay RX12 TX12 11 ∈ lw_u := hp_mu (tb_6 (List.mem_of_getElem? (i := 212) rfl)) rfl
theorem tl_12_12 : u_lay RX12 TX12 12 ∈ lw_u := hp_mu (tb_6 (List.mem_of_getElem? (i := 214) rfl)) rfl
theorem tl_12_13 : u_lay RX12 TX12 13 ∈ lw_u := hp_mu (tb_6 (List.mem_of_getElem? (i := 216) rfl)) rfl
theorem tl_12_14 : u_lay RX12 TX12 14 ∈ lw_u := hp_mu (tb_6 (List.mem_of_getElem? (i := 218) rfl)) rfl
theorem tl_12_15 : u_lay RX12 TX12 15 ∈ lw_u := hp_mu (tb_6 (List.mem_of_getElem? (i := 220) rfl)) rfl
theorem tl_12_16 : u_lay RX12 TX12 16 ∈ lw_u := hp_mu (tb_6 (List.mem_of_getElem? (i := 222) rfl)) rfl
theorem tl_12_17 : u_lay RX12 TX12 17 ∈ lw_u := hp_mu (tb_6 (List.mem_of_getElem? (i := 224) rfl)) rfl
theorem tl_12_18 : u_lay RX12 TX12 18 ∈ lw_u := hp_mu (tb_6 (List.mem_of_getElem? (i := 226) rfl)) rfl
theorem tl_12_19 : u_lay RX12 TX12 19 ∈ lw_u := hp_mu (tb_6 (List.mem_of_getElem? (i := 228) rfl)) rfl
theorem tl_12_20 : u_lay RX12 TX12 20 ∈ lw_u := hp_mu (tb_6 (List.mem_of_getElem? (i := 230) rfl)) rfl
theorem tl_12_21 : u_lay RX12 TX12 21 ∈ lw_u := hp_mu (tb_6 (List.mem_of_getElem? (i := 232) rfl)) rfl
theorem tl_12_22 : u_lay RX12 TX12 22 ∈ lw_u := hp_mu (tb_6 (List.mem_of_getElem? (i := 234) rfl)) rfl
theorem tl_12_23 : u_lay RX12 TX12 23 ∈ lw_u := hp_mu (tb_6 (List.mem_of_getElem? (i := 236) rfl)) rfl
theorem tl_12_24 : u_lay RX12 TX12 24 ∈ lw_u := hp_mu (tb_6 (List.mem_of_getElem? (i := 238) rfl)) rfl
theorem tl_12_25 : u_lay RX12 TX12 25 ∈ lw_u := hp_mu (tb_7 (List.mem_of_getElem? (i := 0) rfl)) rfl
theorem tl_12_26 : u_lay RX12 TX12 26 ∈ lw_u := hp_mu (tb_7 (List.mem_of_getElem? (i := 2) rfl)) rfl
theorem tl_12_27 : u_lay RX12 TX12 27 ∈ lw_u := hp_mu (tb_7 (List.mem_of_getElem? (i := 4) rfl)) rfl
theorem tl_12_28 : u_lay RX12 TX12 28 ∈ lw_u := hp_mu (tb_7 (List.mem_of_getElem? (i := 6) rfl)) rfl
theorem tl_12_29 : u_lay RX12 TX12 29 ∈ lw_u := hp_mu (tb_7 (List.mem_of_getElem? (i := 8) rfl)) rfl
theorem tl_12_30 : u_lay RX12 TX12 30 ∈ lw_u := hp_mu (tb_7 (List.mem_of_getElem? (i := 10) rfl)) rfl
theorem tl_12_31 : u_lay RX12 TX12 31 ∈ lw_u := hp_mu (tb_7 (List.mem_of_getElem? (i := 12) rfl)) rfl
theorem tl_12_32 : u_lay RX12 TX12 32 ∈ lw_u := hp_mu (tb_7 (List.mem_of_getElem? (i := 14) rfl)) rfl
theorem tl_12_33 : u_lay RX12 TX12 33 ∈ lw_u := hp_mu (tb_7 (List.mem_of_getElem? (i := 16) rfl)) rfl
theorem tl_12_34 : u_lay RX12 TX12 34 ∈ lw_u := hp_mu (tb_7 (List.mem_of_getElem? (i := 18) rfl)) rfl
theorem tl_12_35 : u_lay RX12 TX12 35 ∈ lw_u := hp_mu (tb_7 (List.mem_of_getElem? (i := 20) rfl)) rfl
theorem tl_12_36 : u_lay RX12 TX12 36 ∈ lw_u := hp_mu (tb_7 (List.mem_of_getElem? (i := 22) rfl)) rfl
theorem tl_12_37 : u_lay RX12 TX12 37 ∈ lw_u := hp_mu (tb_7 (List.mem_of_getElem? (i := 24) rfl)) rfl
theorem tl_12_38 : u_lay RX12 TX12 38 ∈ lw_u := hp_mu (tb_7 (List.mem_of_getElem? (i := 26) rfl)) rfl
theorem tl_12_39 : u_lay RX12 TX12 39 ∈ lw_u := hp_mu (tb_7 (List.mem_of_getElem? (i := 28) rfl)) rfl
theorem tl_12_40 : u_lay RX12 TX12 40 ∈ lw_u := hp_mu (tb_7 (List.mem_of_getElem? (i := 30) rfl)) rfl
theorem tl_12_41 : u_lay RX12 TX12 41 ∈ lw_u := hp_mu (tb_7 (List.mem_of_getElem? (i := 32) rfl)) rfl
theorem tl_12_42 : u_lay RX12 TX12 42 ∈ lw_u := hp_mu (tb_7 (List.mem_of_getElem? (i := 34) rfl)) rfl
theorem tl_12_43 : u_lay RX12 TX12 43 ∈ lw_u := hp_mu (tb_7 (List.mem_of_getElem? (i := 36) rfl)) rfl
theorem tl_12_44 : u_lay RX12 TX12 44 ∈ lw_u := hp_mu (tb_7 (List.mem_of_getElem? (i := 38) rfl)) rfl
theorem tl_12_45 : u_lay RX12 TX12 45 ∈ lw_u := hp_mu (tb_7 (List.mem_of_getElem? (i := 40) rfl)) rfl
theorem tl_12_46 : u_lay RX12 TX12 46 ∈ lw_u := hp_mu (tb_7 (List.mem_of_getElem? (i := 42) rfl)) rfl
theorem tl_12_47 : u_lay RX12 TX12 47 ∈ lw_u := hp_mu (tb_7 (List.mem_of_getElem? (i := 44) rfl)) rfl
theorem in_13 : ∀ w ∈ u_ws (hp_q 13).1 (hp_q 13).2.1 (hp_q 13).2.2, w ∈ lw_u := fun w h => by
  obtain ⟨k, hk, rfl⟩ := List.mem_map.mp h
  have hk : k < 48 := List.mem_range.mp hk
  match k, hk with
  | 0, _ => exact tl_12_0
  | 1, _ => exact tl_12_1
  | 2, _ => exact tl_12_2
  | 3, _ => exact tl_12_3
  | 4, _ => exact tl_12_4
  | 5, _ => exact tl_12_5
  | 6, _ => exact tl_12_6
  | 7, _ => exact tl_12_7
  | 8, _ => exact tl_12_8
  | 9, _ => exact tl_12_9
  | 10, _ => exact tl_12_10
  | 11, _ => exact tl_12_11
  | 12, _ => exact tl_12_12
  | 13, _ => exact tl_12_13
  | 14, _ => exact tl_12_14
  | 15, _ => exact tl_12_15
  | 16, _ => exact tl_12_16
  | 17, _ => exact tl_12_17
  | 18, _ => exact tl_12_18
  | 19, _ => exact tl_12_19
  | 20, _ => exact tl_12_20
  | 21, _ => exact tl_12_21
  | 22, _ => exact tl_12_22
  | 23, _ => exact tl_12_23
  | 24, _ => exact tl_12_24
  | 25, _ => exact tl_12_25
  | 26, _ => exact tl_12_26
  | 27, _ => exact tl_12_27
  | 28, _ => exact tl_12_28
  | 29, _ => exact tl_12_29
  | 30, _ => exact tl_12_30
  | 31, _ => exact tl_12_31
  | 32, _ => exact tl_12_32
  | 33, _ => exact tl_12_33
  | 34, _ => exact tl_12_34
  | 35, _ => exact tl_12_35
  | 36, _ => exact tl_12_36
  | 37, _ => exact tl_12_37
  | 38, _ => exact tl_12_38
  | 39, _ => exact tl_12_39
  | 40, _ => exact tl_12_40
  | 41, _ => exact tl_12_41
  | 42, _ => exact tl_12_42
  | 43, _ => exact tl_12_43
  | 44, _ => exact tl_12_44
  | 45, _ => exact tl_12_45
  | 46, _ => exact tl_12_46
  | 47, _ => exact tl_12_47
  | k + 48, h => exact absurd h (by omega)
theorem kc_X10_9 : Cond.constant RX10 9 (65521) ∈ lw_u := hp_mu (tb_1 (List.mem_of_getElem? (i := 34) rfl)) rfl
theorem fl_X5_9 : hp_F RX5 9 6 0 := ⟨rfl, by decide, in_6, tyX5_ok, nmX5, hp_mu (tb_1 (List.mem_of_getElem? (i := 47) rfl)) rfl⟩
theorem fl_X5_15 : hp_F RX5 15 6 1 := ⟨rfl, by decide, in_6, tyX5_ok, nmX5, hp_mu (tb_1 (List.mem_of_getElem? (i := 48) rfl)) rfl⟩
theorem fl_X0_37 : hp_F RX0 37 6 1 := ⟨rfl, by decide, in_6, tyX5_ok, nmX5, hp_mu (tb_1 (List.mem_of_getElem? (i := 49) rfl)) rfl⟩
theorem fl_X11_132 : hp_F RX11 132 6 1 := ⟨rfl, by decide, in_6, tyX5_ok, nmX5, hp_mu (tb_1 (List.mem_of_getElem? (i := 50) rfl)) rfl⟩
theorem fl_X3_131 : hp_F RX3 131 6 1 := ⟨rfl, by decide, in_6, tyX5_ok, nmX5, hp_mu (tb_1 (List.mem_of_getElem? (i := 51) rfl)) rfl⟩
theorem fl_X8_74 : hp_F RX8 74 6 1 := ⟨rfl, by decide, in_6, tyX5_ok, nmX5, hp_mu (tb_1 (List.mem_of_getElem? (i := 52) rfl)) rfl⟩
theorem fl_X10_184 : hp_F RX10 184 6 1 := ⟨rfl, by decide, in_6, tyX5_ok, nmX5, hp_mu (tb_1 (List.mem_of_getElem? (i := 53) rfl)) rfl⟩
theorem fl_X8_9 : hp_F RX8 9 9 0 := ⟨rfl, by decide, in_9, tyX8_ok, nmX8, hp_mu (tb_1 (List.mem_of_getElem? (i := 66) rfl)) rfl⟩
theorem fl_X8_15 : hp_F RX8 15 9 1 := ⟨rfl, by decide, in_9, tyX8_ok, nmX8, hp_mu (tb_1 (List.mem_of_getElem? (i := 67) rfl)) rfl⟩
theorem fl_X8_18 : hp_F RX8 18 9 2 := ⟨rfl, by decide, in_9, tyX8_ok, nmX8, hp_mu (tb_1 (List.mem_of_getElem? (i := 68) rfl)) rfl⟩
theorem fl_X8_22 : hp_F RX8 22 9 3 := ⟨rfl, by decide, in_9, tyX8_ok, nmX8, hp_mu (tb_1 (List.mem_of_getElem? (i := 69) rfl)) rfl⟩
theorem fl_X4_61 : hp_F RX4 61 9 3 := ⟨rfl, by decide, in_9, tyX8_ok, nmX8, hp_mu (tb_1 (List.mem_of_getElem? (i := 70) rfl)) rfl⟩
theorem fl_X10_111 : hp_F RX10 111 9 3 := ⟨rfl, by decide, in_9, tyX8_ok, nmX8, hp_mu (tb_1 (List.mem_of_getElem? (i := 71) rfl)) rfl⟩
theorem fl_X11_312 : hp_F RX11 312 9 3 := ⟨rfl, by decide, in_9, tyX8_ok, nmX8, hp_mu (tb_1 (List.mem_of_getElem? (i := 72) rfl)) rfl⟩
theorem fl_X8_26 : hp_F RX8 26 9 4 := ⟨rfl, by decide, in_9, tyX8_ok, nmX8, hp_mu (tb_1 (List.mem_of_getElem? (i := 73) rfl)) rfl⟩
theorem fl_X9_9 : hp_F RX9 9 10 0 := ⟨rfl, by decide, in_10, tyX9_ok, nmX9, hp_mu (tb_1 (List.mem_of_getElem? (i := 98) rfl)) rfl⟩
theorem fl_X9_15 : hp_F RX9 15 10 1 := ⟨rfl, by decide, in_10, tyX9_ok, nmX9, hp_mu (tb_1 (List.mem_of_getElem? (i := 99) rfl)) rfl⟩
theorem fl_X11_150 : hp_F RX11 150 10 1 := ⟨rfl, by decide, in_10, tyX9_ok, nmX9, hp_mu (tb_1 (List.mem_of_getElem? (i := 100) rfl)) rfl⟩
theorem fl_X2_11 : hp_F RX2 11 3 0 := ⟨rfl, by decide, in_3, tyX2_ok, nmX2, hp_mu (tb_1 (List.mem_of_getElem? (i := 107) rfl)) rfl⟩
theorem fl_X2_17 : hp_F RX2 17 3 1 := ⟨rfl, by decide, in_3, tyX2_ok, nmX2, hp_mu (tb_1 (List.mem_of_getElem? (i := 108) rfl)) rfl⟩
theorem fl_X2_21 : hp_F RX2 21 3 2 := ⟨rfl, by decide, in_3, tyX2_ok, nmX2, hp_mu (tb_1 (List.mem_of_getElem? (i := 109) rfl)) rfl⟩
theorem fl_X10_68 : hp_F RX10 68 3 2 := ⟨rfl, by decide, in_3, tyX2_ok, nmX2, hp_mu (tb_1 (List.mem_of_getElem? (i := 110) rfl)) rfl⟩
theorem fl_X3_102 : hp_F RX3 102 3 2 := ⟨rfl, by decide, in_3, tyX2_ok, nmX2, hp_mu (tb_1 (List.mem_of_getElem? (i := 111) rfl)) rfl⟩
theorem fl_X11_167 : hp_F RX11 167 3 2 := ⟨rfl, by decide, in_3, tyX2_ok, nmX2, hp_mu (tb_1 (List.mem_of_getElem? (i := 112) rfl)) rfl⟩
theorem fl_X1_7 : hp_F RX1 7 2 0 := ⟨rfl, by decide, in_2, tyX1_ok, nmX1, hp_mu (tb_1 (List.mem_of_getElem? (i := 127) rfl)) rfl⟩
theorem fl_X10_128 : hp_F RX10 128 2 0 := ⟨rfl, by decide, in_2, tyX1_ok, nmX1, hp_mu (tb_1 (List.mem_of_getElem? (i := 128) rfl)) rfl⟩
theorem fl_X11_202 : hp_F RX11 202 2 0 := ⟨rfl, by decide, in_2, tyX1_ok, nmX1, hp_mu (tb_1 (List.mem_of_getElem? (i := 129) rfl)) rfl⟩
theorem fl_X1_13 : hp_F RX1 13 2 1 := ⟨rfl, by decide, in_2, tyX1_ok, nmX1, hp_mu (tb_1 (List.mem_of_getElem? (i := 130) rfl)) rfl⟩
theorem fl_X10_131 : hp_F RX10 131 2 1 := ⟨rfl, by decide, in_2, tyX1_ok, nmX1, hp_mu (tb_1 (List.mem_of_getElem? (i := 131) rfl)) rfl⟩
theorem fl_X11_207 : hp_F RX11 207 2 1 := ⟨rfl, by decide, in_2, tyX1_ok, nmX1, hp_mu (tb_1 (List.mem_of_getElem? (i := 132) rfl)) rfl⟩
theorem fl_X1_16 : hp_F RX1 16 2 2 := ⟨rfl, by decide, in_2, tyX1_ok, nmX1, hp_mu (tb_1 (List.mem_of_getElem? (i := 133) rfl)) rfl⟩
theorem fl_X10_134 : hp_F RX10 134 2 2 := ⟨rfl, by decide, in_2, tyX1_ok, nmX1, hp_mu (tb_1 (List.mem_of_getElem? (i := 134) rfl)) rfl⟩
theorem fl_X11_210 : hp_F RX11 210 2 2 := ⟨rfl, by decide, in_2, tyX1_ok, nmX1, hp_mu (tb_1 (List.mem_of_getElem? (i := 135) rfl)) rfl⟩
theorem fl_X1_19 : hp_F RX1 19 2 3 := ⟨rfl, by decide, in_2, tyX1_ok, nmX1, hp_mu (tb_1 (List.mem_of_getElem? (i := 136) rfl)) rfl⟩
theorem fl_X10_137 : hp_F RX10 137 2 3 := ⟨rfl, by decide, in_2, tyX1_ok, nmX1, hp_mu (tb_1 (List.mem_of_getElem? (i := 137) rfl)) rfl⟩
theorem fl_X11_213 : hp_F RX11 213 2 3 := ⟨rfl, by decide, in_2, tyX1_ok, nmX1, hp_mu (tb_1 (List.mem_of_getElem? (i := 138) rfl)) rfl⟩
theorem fl_X1_25 : hp_F RX1 25 2 4 := ⟨rfl, by decide, in_2, tyX1_ok, nmX1, hp_mu (tb_1 (List.mem_of_getElem? (i := 139) rfl)) rfl⟩
theorem fl_X10_140 : hp_F RX10 140 2 4 := ⟨rfl, by decide, in_2, tyX1_ok, nmX1, hp_mu (tb_1 (List.mem_of_getElem? (i := 140) rfl)) rfl⟩
theorem fl_X7_9 : hp_F RX7 9 8 0 := ⟨rfl, by decide, in_8, tyX7_ok, nmX7, hp_mu (tb_1 (List.mem_of_getElem? (i := 157) rfl)) rfl⟩
theorem fl_X11_224 : hp_F RX11 224 8 0 := ⟨rfl, by decide, in_8, tyX7_ok, nmX7, hp_mu (tb_1 (List.mem_of_getElem? (i := 158) rfl)) rfl⟩
theorem fl_X10_163 : hp_F RX10 163 8 0 := ⟨rfl, by decide, in_8, tyX7_ok, nmX7, hp_mu (tb_1 (List.mem_of_getElem? (i := 159) rfl)) rfl⟩
theorem fl_X7_15 : hp_F RX7 15 8 1 := ⟨rfl, by decide, in_8, tyX7_ok, nmX7, hp_mu (tb_1 (List.mem_of_getElem? (i := 160) rfl)) rfl⟩
theorem fl_X11_227 : hp_F RX11 227 8 1 := ⟨rfl, by decide, in_8, tyX7_ok, nmX7, hp_mu (tb_1 (List.mem_of_getElem? (i := 161) rfl)) rfl⟩
theorem fl_X10_164 : hp_F RX10 164 8 1 := ⟨rfl, by decide, in_8, tyX7_ok, nmX7, hp_mu (tb_1 (List.mem_of_getElem? (i := 162) rfl)) rfl⟩
theorem fl_X7_18 : hp_F RX7 18 8 2 := ⟨rfl, by decide, in_8, tyX7_ok, nmX7, hp_mu (tb_1 (List.mem_of_getElem? (i := 163) rfl)) rfl⟩
theorem fl_X11_234 : hp_F RX11 234 8 2 := ⟨rfl, by decide, in_8, tyX7_ok, nmX7, hp_mu (tb_1 (List.mem_of_getElem? (i := 164) rfl)) rfl⟩
theorem fl_X10_177 : hp_F RX10 177 8 2 := ⟨rfl, by decide, in_8, tyX7_ok, nmX7, hp_mu (tb_1 (List.mem_of_getElem? (i := 165) rfl)) rfl⟩
theorem fl_X7_21 : hp_F RX7 21 8 3 := ⟨rfl, by decide, in_8, tyX7_ok, nmX7, hp_mu (tb_1 (List.mem_of_getElem? (i := 166) rfl)) rfl⟩
theorem fl_X10_78 : hp_F RX10 78 8 3 := ⟨rfl, by decide, in_8, tyX7_ok, nmX7, hp_mu (tb_1 (List.mem_of_getElem? (i := 167) rfl)) rfl⟩
theorem fl_X11_230 : hp_F RX11 230 8 3 := ⟨rfl, by decide, in_8, tyX7_ok, nmX7, hp_mu (tb_1 (List.mem_of_getElem? (i := 168) rfl)) rfl⟩
theorem fl_X10_10 : hp_F RX10 10 11 0 := ⟨rfl, by decide, in_11, tyX10_ok, nmX10, hp_mu (tb_1 (List.mem_of_getElem? (i := 178) rfl)) rfl⟩
theorem fl_X3_83 : hp_F RX3 83 11 0 := ⟨rfl, by decide, in_11, tyX10_ok, nmX10, hp_mu (tb_1 (List.mem_of_getElem? (i := 179) rfl)) rfl⟩
theorem fl_X11_122 : hp_F RX11 122 11 0 := ⟨rfl, by decide, in_11, tyX10_ok, nmX10, hp_mu (tb_1 (List.mem_of_getElem? (i := 180) rfl)) rfl⟩
theorem fl_X10_18 : hp_F RX10 18 11 1 := ⟨rfl, by decide, in_11, tyX10_ok, nmX10, hp_mu (tb_1 (List.mem_of_getElem? (i := 181) rfl)) rfl⟩
theorem fl_X10_22 : hp_F RX10 22 11 2 := ⟨rfl, by decide, in_11, tyX10_ok, nmX10, hp_mu (tb_1 (List.mem_of_getElem? (i := 182) rfl)) rfl⟩
theorem fl_X11_112 : hp_F RX11 112 11 2 := ⟨rfl, by decide, in_11, tyX10_ok, nmX10, hp_mu (tb_1 (List.mem_of_getElem? (i := 183) rfl)) rfl⟩
theorem fl_X3_94 : hp_F RX3 94 11 2 := ⟨rfl, by decide, in_11, tyX10_ok, nmX10, hp_mu (tb_1 (List.mem_of_getElem? (i := 184) rfl)) rfl⟩
theorem fl_X10_27 : hp_F RX10 27 11 3 := ⟨rfl, by decide, in_11, tyX10_ok, nmX10, hp_mu (tb_1 (List.mem_of_getElem? (i := 185) rfl)) rfl⟩
theorem fl_X10_31 : hp_F RX10 31 11 4 := ⟨rfl, by decide, in_11, tyX10_ok, nmX10, hp_mu (tb_1 (List.mem_of_getElem? (i := 186) rfl)) rfl⟩
theorem fl_X3_109 : hp_F RX3 109 11 4 := ⟨rfl, by decide, in_11, tyX10_ok, nmX10, hp_mu (tb_1 (List.mem_of_getElem? (i := 187) rfl)) rfl⟩
theorem fl_X11_153 : hp_F RX11 153 11 4 := ⟨rfl, by decide, in_11, tyX10_ok, nmX10, hp_mu (tb_1 (List.mem_of_getElem? (i := 188) rfl)) rfl⟩
theorem fl_X10_36 : hp_F RX10 36 11 5 := ⟨rfl, by decide, in_11, tyX10_ok, nmX10, hp_mu (tb_1 (List.mem_of_getElem? (i := 189) rfl)) rfl⟩
theorem fl_X10_40 : hp_F RX10 40 11 6 := ⟨rfl, by decide, in_11, tyX10_ok, nmX10, hp_mu (tb_1 (List.mem_of_getElem? (i := 190) rfl)) rfl⟩
theorem fl_X11_156 : hp_F RX11 156 11 6 := ⟨rfl, by decide, in_11, tyX10_ok, nmX10, hp_mu (tb_1 (List.mem_of_getElem? (i := 191) rfl)) rfl⟩
theorem fl_X10_43 : hp_F RX10 43 11 7 := ⟨rfl, by decide, in_11, tyX10_ok, nmX10, hp_mu (tb_1 (List.mem_of_getElem? (i := 192) rfl)) rfl⟩
theorem fl_X10_50 : hp_F RX10 50 11 8 := ⟨rfl, by decide, in_11, tyX10_ok, nmX10, hp_mu (tb_1 (List.mem_of_getElem? (i := 193) rfl)) rfl⟩
theorem fl_X10_57 : hp_F RX10 57 11 9 := ⟨rfl, by decide, in_11, tyX10_ok, nmX10, hp_mu (tb_1 (List.mem_of_getElem? (i := 194) rfl)) rfl⟩
theorem fl_X0_9 : hp_F RX0 9 1 0 := ⟨rfl, by decide, in_1, tyX0_ok, nmX0, hp_mu (tb_1 (List.mem_of_getElem? (i := 230) rfl)) rfl⟩
theorem fl_X0_18 : hp_F RX0 18 1 1 := ⟨rfl, by decide, in_1, tyX0_ok, nmX0, hp_mu (tb_1 (List.mem_of_getElem? (i := 231) rfl)) rfl⟩
theorem fl_X0_22 : hp_F RX0 22 1 2 := ⟨rfl, by decide, in_1, tyX0_ok, nmX0, hp_mu (tb_1 (List.mem_of_getElem? (i := 232) rfl)) rfl⟩
theorem fl_X0_25 : hp_F RX0 25 1 3 := ⟨rfl, by decide, in_1, tyX0_ok, nmX0, hp_mu (tb_1 (List.mem_of_getElem? (i := 233) rfl)) rfl⟩
theorem fl_X0_28 : hp_F RX0 28 1 4 := ⟨rfl, by decide, in_1, tyX0_ok, nmX0, hp_mu (tb_1 (List.mem_of_getElem? (i := 234) rfl)) rfl⟩
theorem fl_X6_9 : hp_F RX6 9 7 0 := ⟨rfl, by decide, in_7, tyX6_ok, nmX6, hp_mu (tb_2 (List.mem_of_getElem? (i := 18) rfl)) rfl⟩
theorem fl_X6_15 : hp_F RX6 15 7 1 := ⟨rfl, by decide, in_7, tyX6_ok, nmX6, hp_mu (tb_2 (List.mem_of_getElem? (i := 19) rfl)) rfl⟩
theorem fl_X6_19 : hp_F RX6 19 7 2 := ⟨rfl, by decide, in_7, tyX6_ok, nmX6, hp_mu (tb_2 (List.mem_of_getElem? (i := 20) rfl)) rfl⟩
theorem fl_X6_22 : hp_F RX6 22 7 3 := ⟨rfl, by decide, in_7, tyX6_ok, nmX6, hp_mu (tb_2 (List.mem_of_getElem? (i := 21) rfl)) rfl⟩
theorem fl_X3_66 : hp_F RX3 66 7 3 := ⟨rfl, by decide, in_7, tyX6_ok, nmX6, hp_mu (tb_2 (List.mem_of_getElem? (i := 22) rfl)) rfl⟩
theorem fl_X6_25 : hp_F RX6 25 7 4 := ⟨rfl, by decide, in_7, tyX6_ok, nmX6, hp_mu (tb_2 (List.mem_of_getElem? (i := 23) rfl)) rfl⟩
theorem fl_X3_191 : hp_F RX3 191 7 4 := ⟨rfl, by decide, in_7, tyX6_ok, nmX6, hp_mu (tb_2 (List.mem_of_getElem? (i := 24) rfl)) rfl⟩
theorem fl_X6_28 : hp_F RX6 28 7 5 := ⟨rfl, by decide, in_7, tyX6_ok, nmX6, hp_mu (tb_2 (List.mem_of_getElem? (i := 25) rfl)) rfl⟩
theorem fl_X3_144 : hp_F RX3 144 7 5 := ⟨rfl, by decide, in_7, tyX6_ok, nmX6, hp_mu (tb_2 (List.mem_of_getElem? (i := 26) rfl)) rfl⟩
theorem fl_X6_31 : hp_F RX6 31 7 6 := ⟨rfl, by decide, in_7, tyX6_ok, nmX6, hp_mu (tb_2 (List.mem_of_getElem? (i := 27) rfl)) rfl⟩
theorem fl_X3_188 : hp_F RX3 188 7 6 := ⟨rfl, by decide, in_7, tyX6_ok, nmX6, hp_mu (tb_2 (List.mem_of_getElem? (i := 28) rfl)) rfl⟩
theorem kc_X3_32 : Cond.constant RX3 32 (65521) ∈ lw_u := hp_mu (tb_2 (List.mem_of_getElem? (i := 48) rfl)) rfl
theorem fl_X3_12 : hp_F RX3 12 4 0 := ⟨rfl, by decide, in_4, tyX3_ok, nmX3, hp_mu (tb_2 (List.mem_of_getElem? (i := 51) rfl)) rfl⟩
theorem fl_X3_21 : hp_F RX3 21 4 1 := ⟨rfl, by decide, in_4, tyX3_ok, nmX3, hp_mu (tb_2 (List.mem_of_getElem? (i := 52) rfl)) rfl⟩
theorem fl_X3_28 : hp_F RX3 28 4 2 := ⟨rfl, by decide, in_4, tyX3_ok, nmX3, hp_mu (tb_2 (List.mem_of_getElem? (i := 53) rfl)) rfl⟩
theorem fl_X3_33 : hp_F RX3 33 4 3 := ⟨rfl, by decide, in_4, tyX3_ok, nmX3, hp_mu (tb_2 (List.mem_of_getElem? (i := 54) rfl)) rfl⟩
theorem fl_X3_37 : hp_F RX3 37 4 4 := ⟨rfl, by decide, in_4, tyX3_ok, nmX3, hp_mu (tb_2 (List.mem_of_getElem? (i := 55) rfl)) rfl⟩
theorem fl_X11_138 : hp_F RX11 138 4 4 := ⟨rfl, by decide, in_4, tyX3_ok, nmX3, hp_mu (tb_2 (List.mem_of_getElem? (i := 56) rfl)) rfl⟩
theorem fl_X3_40 : hp_F RX3 40 4 5 := ⟨rfl, by decide, in_4, tyX3_ok, nmX3, hp_mu (tb_2 (List.mem_of_getElem? (i := 57) rfl)) rfl⟩
theorem fl_X11_141 : hp_F RX11 141 4 5 := ⟨rfl, by decide, in_4, tyX3_ok, nmX3, hp_mu (tb_2 (List.mem_of_getElem? (i := 58) rfl)) rfl⟩
theorem fl_X3_43 : hp_F RX3 43 4 6 := ⟨rfl, by decide, in_4, tyX3_ok, nmX3, hp_mu (tb_2 (List.mem_of_getElem? (i := 59) rfl)) rfl⟩
theorem fl_X11_451 : hp_F RX11 451 4 6 := ⟨rfl, by decide, in_4, tyX3_ok, nmX3, hp_mu (tb_2 (List.mem_of_getElem? (i := 60) rfl)) rfl⟩
theorem fl_X3_49 : hp_F RX3 49 4 7 := ⟨rfl, by decide, in_4, tyX3_ok, nmX3, hp_mu (tb_2 (List.mem_of_getElem? (i := 61) rfl)) rfl⟩
theorem fl_X11_454 : hp_F RX11 454 4 7 := ⟨rfl, by decide, in_4, tyX3_ok, nmX3, hp_mu (tb_2 (List.mem_of_getElem? (i := 62) rfl)) rfl⟩
theorem fl_X3_53 : hp_F RX3 53 4 8 := ⟨rfl, by decide, in_4, tyX3_ok, nmX3, hp_mu (tb_2 (List.mem_of_getElem? (i := 63) rfl)) rfl⟩
theorem fl_X11_460 : hp_F RX11 460 4 8 := ⟨rfl, by decide, in_4, tyX3_ok, nmX3, hp_mu (tb_2 (List.mem_of_getElem? (i := 64) rfl)) rfl⟩
theorem fl_X3_56 : hp_F RX3 56 4 9 := ⟨rfl, by decide, in_4, tyX3_ok, nmX3, hp_mu (tb_2 (List.mem_of_getElem? (i := 65) rfl)) rfl⟩
theorem fl_X11_457 : hp_F RX11 457 4 9 := ⟨rfl, by decide, in_4, tyX3_ok, nmX3, hp_mu (tb_2 (List.mem_of_getElem? (i := 66) rfl)) rfl⟩
theorem fl_X11_9 : hp_F RX11 9 12 0 := ⟨rfl, by decide, in_12, tyX11_ok, nmX11, hp_mu (tb_2 (List.mem_of_getElem? (i := 88) rfl)) rfl⟩
theorem fl_X11_16 : hp_F RX11 16 12 1 := ⟨rfl, by decide, in_12, tyX11_ok, nmX11, hp_mu (tb_2 (List.mem_of_getElem? (i := 89) rfl)) rfl⟩
theorem fl_X11_20 : hp_F RX11 20 12 2 := ⟨rfl, by decide, in_12, tyX11_ok, nmX11, hp_mu (tb_2 (List.mem_of_getElem? (i := 90) rfl)) rfl⟩
theorem fl_X11_26 : hp_F RX11 26 12 3 := ⟨rfl, by decide, in_12, tyX11_ok, nmX11, hp_mu (tb_2 (List.mem_of_getElem? (i := 91) rfl)) rfl⟩
theorem fl_X11_30 : hp_F RX11 30 12 4 := ⟨rfl, by decide, in_12, tyX11_ok, nmX11, hp_mu (tb_2 (List.mem_of_getElem? (i := 92) rfl)) rfl⟩
theorem fl_X11_34 : hp_F RX11 34 12 5 := ⟨rfl, by decide, in_12, tyX11_ok, nmX11, hp_mu (tb_2 (List.mem_of_getElem? (i := 93) rfl)) rfl⟩
theorem fl_X11_40 : hp_F RX11 40 12 6 := ⟨rfl, by decide, in_12, tyX11_ok, nmX11, hp_mu (tb_2 (List.mem_of_getElem? (i := 94) rfl)) rfl⟩
theorem fl_X11_44 : hp_F RX11 44 12 7 := ⟨rfl, by decide, in_12, tyX11_ok, nmX11, hp_mu (tb_2 (List.mem_of_getElem? (i := 95) rfl)) rfl⟩
theorem fl_X11_47 : hp_F RX11 47 12 8 := ⟨rfl, by decide, in_12, tyX11_ok, nmX11, hp_mu (tb_2 (List.mem_of_getElem? (i := 96) rfl)) rfl⟩
theorem fl_X11_50 : hp_F RX11 50 12 9 := ⟨rfl, by decide, in_12, tyX11_ok, nmX11, hp_mu (tb_2 (List.mem_of_getElem? (i := 97) rfl)) rfl⟩
theorem fl_X11_53 : hp_F RX11 53 12 10 := ⟨rfl, by decide, in_12, tyX11_ok, nmX11, hp_mu (tb_2 (List.mem_of_getElem? (i := 98) rfl)) rfl⟩
theorem fl_X11_56 : hp_F RX11 56 12 11 := ⟨rfl, by decide, in_12, tyX11_ok, nmX11, hp_mu (tb_2 (List.mem_of_getElem? (i := 99) rfl)) rfl⟩
theorem fl_X11_62 : hp_F RX11 62 12 12 := ⟨rfl, by decide, in_12, tyX11_ok, nmX11, hp_mu (tb_2 (List.mem_of_getElem? (i := 100) rfl)) rfl⟩
theorem fl_X11_66 : hp_F RX11 66 12 13 := ⟨rfl, by decide, in_12, tyX11_ok, nmX11, hp_mu (tb_2 (List.mem_of_getElem? (i := 101) rfl)) rfl⟩
theorem fl_X11_69 : hp_F RX11 69 12 14 := ⟨rfl, by decide, in_12, tyX11_ok, nmX11, hp_mu (tb_2 (List.mem_of_getElem? (i := 102) rfl)) rfl⟩
theorem fl_X11_75 : hp_F RX11 75 12 15 := ⟨rfl, by decide, in_12, tyX11_ok, nmX11, hp_mu (tb_2 (List.mem_of_getElem? (i := 103) rfl)) rfl⟩
theorem fl_X11_82 : hp_F RX11 82 12 16 := ⟨rfl, by decide, in_12, tyX11_ok, nmX11, hp_mu (tb_2 (List.mem_of_getElem? (i := 104) rfl)) rfl⟩
theorem fl_X11_86 : hp_F RX11 86 12 17 := ⟨rfl, by decide, in_12, tyX11_ok, nmX11, hp_mu (tb_2 (List.mem_of_getElem? (i := 105) rfl)) rfl⟩
theorem fl_X11_90 : hp_F RX11 90 12 18 := ⟨rfl, by decide, in_12, tyX11_ok, nmX11, hp_mu (tb_2 (List.mem_of_getElem? (i := 106) rfl)) rfl⟩
theorem kc_X11_502 : Cond.constantLong RX11 502 (3) ∈ lw_u := hp_mu (tb_3 (List.mem_of_getElem? (i := 115) rfl)) rfl
theorem kc_X11_504 : Cond.constantLong RX11 504 (7) ∈ lw_u := hp_mu (tb_3 (List.mem_of_getElem? (i := 116) rfl)) rfl
theorem kc_X11_506 : Cond.constantLong RX11 506 (17) ∈ lw_u := hp_mu (tb_3 (List.mem_of_getElem? (i := 145) rfl)) rfl
theorem kc_J6_127 : Cond.constant RJ6 127 (-2147483648) ∈ lw_u := hp_mu (tb_3 (List.mem_of_getElem? (i := 181) rfl)) rfl
theorem kc_J6_264 : Cond.constant RJ6 264 (65536) ∈ lw_u := hp_mu (tb_3 (List.mem_of_getElem? (i := 185) rfl)) rfl
theorem kc_X3_155 : Cond.constant RX3 155 (2147483647) ∈ lw_u := hp_mu (tb_4 (List.mem_of_getElem? (i := 10) rfl)) rfl
theorem kc_X11_291 : Cond.constant RX11 291 (1000000) ∈ lw_u := hp_mu (tb_4 (List.mem_of_getElem? (i := 234) rfl)) rfl
theorem kc_J6_265 : Cond.constant RJ6 265 (1431655765) ∈ lw_u := hp_mu (tb_4 (List.mem_of_getElem? (i := 238) rfl)) rfl
theorem kc_J6_266 : Cond.constant RJ6 266 (858993459) ∈ lw_u := hp_mu (tb_4 (List.mem_of_getElem? (i := 239) rfl)) rfl
theorem kc_J6_267 : Cond.constant RJ6 267 (252645135) ∈ lw_u := hp_mu (tb_5 (List.mem_of_getElem? (i := 0) rfl)) rfl
theorem kc_X4_9 : Cond.constant RX4 9 (65521) ∈ lw_u := hp_mu (tb_5 (List.mem_of_getElem? (i := 147) rfl)) rfl
theorem fl_X4_10 : hp_F RX4 10 5 0 := ⟨rfl, by decide, in_5, tyX4_ok, nmX4, hp_mu (tb_5 (List.mem_of_getElem? (i := 152) rfl)) rfl⟩
theorem fl_X4_16 : hp_F RX4 16 5 1 := ⟨rfl, by decide, in_5, tyX4_ok, nmX4, hp_mu (tb_5 (List.mem_of_getElem? (i := 153) rfl)) rfl⟩
theorem fl_X4_19 : hp_F RX4 19 5 2 := ⟨rfl, by decide, in_5, tyX4_ok, nmX4, hp_mu (tb_5 (List.mem_of_getElem? (i := 154) rfl)) rfl⟩
theorem fl_X4_26 : hp_F RX4 26 5 3 := ⟨rfl, by decide, in_5, tyX4_ok, nmX4, hp_mu (tb_5 (List.mem_of_getElem? (i := 155) rfl)) rfl⟩
theorem fl_X4_33 : hp_F RX4 33 5 4 := ⟨rfl, by decide, in_5, tyX4_ok, nmX4, hp_mu (tb_5 (List.mem_of_getElem? (i := 156) rfl)) rfl⟩
theorem fl_X4_37 : hp_F RX4 37 5 5 := ⟨rfl, by decide, in_5, tyX4_ok, nmX4, hp_mu (tb_5 (List.mem_of_getElem? (i := 157) rfl)) rfl⟩
theorem fl_X4_40 : hp_F RX4 40 5 6 := ⟨rfl, by decide, in_5, tyX4_ok, nmX4, hp_mu (tb_5 (List.mem_of_getElem? (i := 158) rfl)) rfl⟩
theorem fl_X4_43 : hp_F RX4 43 5 7 := ⟨rfl, by decide, in_5, tyX4_ok, nmX4, hp_mu (tb_5 (List.mem_of_getElem? (i := 159) rfl)) rfl⟩
theorem fl_X4_46 : hp_F RX4 46 5 8 := ⟨rfl, by decide, in_5, tyX4_ok, nmX4, hp_mu (tb_5 (List.mem_of_getElem? (i := 160) rfl)) rfl⟩
theorem fl_X4_49 : hp_F RX4 49 5 9 := ⟨rfl, by decide, in_5, tyX4_ok, nmX4, hp_mu (tb_5 (List.mem_of_getElem? (i := 161) rfl)) rfl⟩
theorem fl_X11_373 : hp_F RX11 373 5 9 := ⟨rfl, by decide, in_5, tyX4_ok, nmX4, hp_mu (tb_5 (List.mem_of_getElem? (i := 162) rfl)) rfl⟩
theorem fl_X4_52 : hp_F RX4 52 5 10 := ⟨rfl, by decide, in_5, tyX4_ok, nmX4, hp_mu (tb_5 (List.mem_of_getElem? (i := 163) rfl)) rfl⟩
theorem fl_X11_376 : hp_F RX11 376 5 10 := ⟨rfl, by decide, in_5, tyX4_ok, nmX4, hp_mu (tb_5 (List.mem_of_getElem? (i := 164) rfl)) rfl⟩
theorem kc_X4_55 : Cond.constantLong RX4 55 (3) ∈ lw_u := hp_mu (tb_5 (List.mem_of_getElem? (i := 192) rfl)) rfl
theorem kc_X4_102 : Cond.constantLong RX4 102 (17) ∈ lw_u := hp_mu (tb_5 (List.mem_of_getElem? (i := 231) rfl)) rfl
theorem kc_X12_42 : Cond.constantLong RX12 42 (9886) ∈ lw_u := hp_mu (tb_6 (List.mem_of_getElem? (i := 125) rfl)) rfl
theorem kc_X12_44 : Cond.constantLong RX12 44 (841) ∈ lw_u := hp_mu (tb_6 (List.mem_of_getElem? (i := 126) rfl)) rfl
theorem kc_X12_46 : Cond.constantLong RX12 46 (555) ∈ lw_u := hp_mu (tb_6 (List.mem_of_getElem? (i := 127) rfl)) rfl
theorem kc_X12_48 : Cond.constantLong RX12 48 (129530) ∈ lw_u := hp_mu (tb_6 (List.mem_of_getElem? (i := 128) rfl)) rfl
theorem kc_X12_50 : Cond.constantLong RX12 50 (95762147) ∈ lw_u := hp_mu (tb_6 (List.mem_of_getElem? (i := 129) rfl)) rfl
theorem kc_X12_52 : Cond.constantLong RX12 52 (380237) ∈ lw_u := hp_mu (tb_6 (List.mem_of_getElem? (i := 130) rfl)) rfl
theorem kc_X12_54 : Cond.constantLong RX12 54 (257) ∈ lw_u := hp_mu (tb_6 (List.mem_of_getElem? (i := 131) rfl)) rfl
theorem kc_X12_56 : Cond.constantLong RX12 56 (151331) ∈ lw_u := hp_mu (tb_6 (List.mem_of_getElem? (i := 132) rfl)) rfl
theorem kc_X12_58 : Cond.constantLong RX12 58 (411) ∈ lw_u := hp_mu (tb_6 (List.mem_of_getElem? (i := 133) rfl)) rfl
theorem kc_X12_60 : Cond.constantLong RX12 60 (257105) ∈ lw_u := hp_mu (tb_6 (List.mem_of_getElem? (i := 134) rfl)) rfl
theorem kc_X12_62 : Cond.constantLong RX12 62 (161140) ∈ lw_u := hp_mu (tb_6 (List.mem_of_getElem? (i := 135) rfl)) rfl
theorem kc_X12_64 : Cond.constantLong RX12 64 (79) ∈ lw_u := hp_mu (tb_6 (List.mem_of_getElem? (i := 136) rfl)) rfl
theorem kc_X12_112 : Cond.constant RX12 112 (65521) ∈ lw_u := hp_mu (tb_6 (List.mem_of_getElem? (i := 141) rfl)) rfl
theorem fl_X12_7 : hp_F RX12 7 13 0 := ⟨rfl, by decide, in_13, tyX12_ok, nmX12, hp_mu (tb_6 (List.mem_of_getElem? (i := 142) rfl)) rfl⟩
theorem fl_X12_13 : hp_F RX12 13 13 1 := ⟨rfl, by decide, in_13, tyX12_ok, nmX12, hp_mu (tb_6 (List.mem_of_getElem? (i := 143) rfl)) rfl⟩
theorem fl_X12_109 : hp_F RX12 109 13 2 := ⟨rfl, by decide, in_13, tyX12_ok, nmX12, hp_mu (tb_6 (List.mem_of_getElem? (i := 144) rfl)) rfl⟩
theorem fl_X12_106 : hp_F RX12 106 13 3 := ⟨rfl, by decide, in_13, tyX12_ok, nmX12, hp_mu (tb_6 (List.mem_of_getElem? (i := 145) rfl)) rfl⟩
theorem fl_X12_16 : hp_F RX12 16 13 4 := ⟨rfl, by decide, in_13, tyX12_ok, nmX12, hp_mu (tb_6 (List.mem_of_getElem? (i := 146) rfl)) rfl⟩
theorem fl_X12_19 : hp_F RX12 19 13 5 := ⟨rfl, by decide, in_13, tyX12_ok, nmX12, hp_mu (tb_6 (List.mem_of_getElem? (i := 147) rfl)) rfl⟩
theorem fl_X12_22 : hp_F RX12 22 13 6 := ⟨rfl, by decide, in_13, tyX12_ok, nmX12, hp_mu (tb_6 (List.mem_of_getElem? (i := 148) rfl)) rfl⟩
theorem fl_X12_139 : hp_F RX12 139 13 7 := ⟨rfl, by decide, in_13, tyX12_ok, nmX12, hp_mu (tb_6 (List.mem_of_getElem? (i := 149) rfl)) rfl⟩
theorem fl_X12_168 : hp_F RX12 168 13 8 := ⟨rfl, by decide, in_13, tyX12_ok, nmX12, hp_mu (tb_6 (List.mem_of_getElem? (i := 150) rfl)) rfl⟩
theorem fl_X12_181 : hp_F RX12 181 13 9 := ⟨rfl, by decide, in_13, tyX12_ok, nmX12, hp_mu (tb_6 (List.mem_of_getElem? (i := 151) rfl)) rfl⟩
theorem fl_X12_184 : hp_F RX12 184 13 10 := ⟨rfl, by decide, in_13, tyX12_ok, nmX12, hp_mu (tb_6 (List.mem_of_getElem? (i := 152) rfl)) rfl⟩
theorem fl_X12_193 : hp_F RX12 193 13 11 := ⟨rfl, by decide, in_13, tyX12_ok, nmX12, hp_mu (tb_6 (List.mem_of_getElem? (i := 153) rfl)) rfl⟩
theorem fl_X12_25 : hp_F RX12 25 13 12 := ⟨rfl, by decide, in_13, tyX12_ok, nmX12, hp_mu (tb_6 (List.mem_of_getElem? (i := 154) rfl)) rfl⟩
theorem fl_X12_28 : hp_F RX12 28 13 13 := ⟨rfl, by decide, in_13, tyX12_ok, nmX12, hp_mu (tb_6 (List.mem_of_getElem? (i := 155) rfl)) rfl⟩
theorem fl_X12_203 : hp_F RX12 203 13 14 := ⟨rfl, by decide, in_13, tyX12_ok, nmX12, hp_mu (tb_6 (List.mem_of_getElem? (i := 156) rfl)) rfl⟩
theorem fl_X12_206 : hp_F RX12 206 13 15 := ⟨rfl, by decide, in_13, tyX12_ok, nmX12, hp_mu (tb_6 (List.mem_of_getElem? (i := 157) rfl)) rfl⟩
theorem fl_X12_31 : hp_F RX12 31 13 16 := ⟨rfl, by decide, in_13, tyX12_ok, nmX12, hp_mu (tb_6 (List.mem_of_getElem? (i := 158) rfl)) rfl⟩
theorem fl_X12_230 : hp_F RX12 230 13 17 := ⟨rfl, by decide, in_13, tyX12_ok, nmX12, hp_mu (tb_6 (List.mem_of_getElem? (i := 159) rfl)) rfl⟩
theorem fl_X12_35 : hp_F RX12 35 13 18 := ⟨rfl, by decide, in_13, tyX12_ok, nmX12, hp_mu (tb_6 (List.mem_of_getElem? (i := 160) rfl)) rfl⟩
theorem fl_X12_39 : hp_F RX12 39 13 19 := ⟨rfl, by decide, in_13, tyX12_ok, nmX12, hp_mu (tb_6 (List.mem_of_getElem? (i := 161) rfl)) rfl⟩
theorem fl_X12_262 : hp_F RX12 262 13 20 := ⟨rfl, by decide, in_13, tyX12_ok, nmX12, hp_mu (tb_6 (List.mem_of_getElem? (i := 162) rfl)) rfl⟩
theorem fl_X12_265 : hp_F RX12 265 13 21 := ⟨rfl, by decide, in_13, tyX12_ok, nmX12, hp_mu (tb_6 (List.mem_of_getElem? (i := 163) rfl)) rfl⟩
theorem fl_X12_242 : hp_F RX12 242 13 22 := ⟨rfl, by decide, in_13, tyX12_ok, nmX12, hp_mu (tb_6 (List.mem_of_getElem? (i := 164) rfl)) rfl⟩
theorem fl_X12_239 : hp_F RX12 239 13 23 := ⟨rfl, by decide, in_13, tyX12_ok, nmX12, hp_mu (tb_6 (List.mem_of_getElem? (i := 165) rfl)) rfl⟩
theorem fl_X12_245 : hp_F RX12 245 13 24 := ⟨rfl, by decide, in_13, tyX12_ok, nmX12, hp_mu (tb_6 (List.mem_of_getElem? (i := 166) rfl)) rfl⟩
theorem fl_X12_259 : hp_F RX12 259 13 25 := ⟨rfl, by decide, in_13, tyX12_ok, nmX12, hp_mu (tb_6 (List.mem_of_getElem? (i := 167) rfl)) rfl⟩
theorem fl_X12_236 : hp_F RX12 236 13 26 := ⟨rfl, by decide, in_13, tyX12_ok, nmX12, hp_mu (tb_6 (List.mem_of_getElem? (i := 168) rfl)) rfl⟩
theorem fl_X12_251 : hp_F RX12 251 13 27 := ⟨rfl, by decide, in_13, tyX12_ok, nmX12, hp_mu (tb_6 (List.mem_of_getElem? (i := 169) rfl)) rfl⟩
theorem fl_X12_66 : hp_F RX12 66 13 28 := ⟨rfl, by decide, in_13, tyX12_ok, nmX12, hp_mu (tb_6 (List.mem_of_getElem? (i := 170) rfl)) rfl⟩
theorem fl_X12_282 : hp_F RX12 282 13 29 := ⟨rfl, by decide, in_13, tyX12_ok, nmX12, hp_mu (tb_6 (List.mem_of_getElem? (i := 171) rfl)) rfl⟩
theorem fl_X12_70 : hp_F RX12 70 13 30 := ⟨rfl, by decide, in_13, tyX12_ok, nmX12, hp_mu (tb_6 (List.mem_of_getElem? (i := 172) rfl)) rfl⟩
theorem fl_X12_73 : hp_F RX12 73 13 31 := ⟨rfl, by decide, in_13, tyX12_ok, nmX12, hp_mu (tb_6 (List.mem_of_getElem? (i := 173) rfl)) rfl⟩
theorem fl_X12_341 : hp_F RX12 341 13 32 := ⟨rfl, by decide, in_13, tyX12_ok, nmX12, hp_mu (tb_6 (List.mem_of_getElem? (i := 174) rfl)) rfl⟩
theorem fl_X12_396 : hp_F RX12 396 13 33 := ⟨rfl, by decide, in_13, tyX12_ok, nmX12, hp_mu (tb_6 (List.mem_of_getElem? (i := 175) rfl)) rfl⟩
theorem fl_X12_399 : hp_F RX12 399 13 34 := ⟨rfl, by decide, in_13, tyX12_ok, nmX12, hp_mu (tb_6 (List.mem_of_getElem? (i := 176) rfl)) rfl⟩
theorem fl_X12_402 : hp_F RX12 402 13 35 := ⟨rfl, by decide, in_13, tyX12_ok, nmX12, hp_mu (tb_6 (List.mem_of_getElem? (i := 177) rfl)) rfl⟩
theorem fl_X12_76 : hp_F RX12 76 13 36 := ⟨rfl, by decide, in_13, tyX12_ok, nmX12, hp_mu (tb_6 (List.mem_of_getElem? (i := 178) rfl)) rfl⟩
theorem fl_X12_79 : hp_F RX12 79 13 37 := ⟨rfl, by decide, in_13, tyX12_ok, nmX12, hp_mu (tb_6 (List.mem_of_getElem? (i := 179) rfl)) rfl⟩
theorem fl_X12_82 : hp_F RX12 82 13 38 := ⟨rfl, by decide, in_13, tyX12_ok, nmX12, hp_mu (tb_6 (List.mem_of_getElem? (i := 180) rfl)) rfl⟩
theorem fl_X12_411 : hp_F RX12 411 13 39 := ⟨rfl, by decide, in_13, tyX12_ok, nmX12, hp_mu (tb_6 (List.mem_of_getElem? (i := 181) rfl)) rfl⟩
theorem fl_X12_85 : hp_F RX12 85 13 40 := ⟨rfl, by decide, in_13, tyX12_ok, nmX12, hp_mu (tb_6 (List.mem_of_getElem? (i := 182) rfl)) rfl⟩
theorem fl_X12_88 : hp_F RX12 88 13 41 := ⟨rfl, by decide, in_13, tyX12_ok, nmX12, hp_mu (tb_6 (List.mem_of_getElem? (i := 183) rfl)) rfl⟩
theorem fl_X12_91 : hp_F RX12 91 13 42 := ⟨rfl, by decide, in_13, tyX12_ok, nmX12, hp_mu (tb_6 (List.mem_of_getElem? (i := 184) rfl)) rfl⟩
theorem fl_X12_94 : hp_F RX12 94 13 43 := ⟨rfl, by decide, in_13, tyX12_ok, nmX12, hp_mu (tb_6 (List.mem_of_getElem? (i := 185) rfl)) rfl⟩
theorem fl_X12_97 : hp_F RX12 97 13 44 := ⟨rfl, by decide, in_13, tyX12_ok, nmX12, hp_mu (tb_6 (List.mem_of_getElem? (i := 186) rfl)) rfl⟩
theorem fl_X12_417 : hp_F RX12 417 13 45 := ⟨rfl, by decide, in_13, tyX12_ok, nmX12, hp_mu (tb_6 (List.mem_of_getElem? (i := 187) rfl)) rfl⟩
theorem fl_X12_100 : hp_F RX12 100 13 46 := ⟨rfl, by decide, in_13, tyX12_ok, nmX12, hp_mu (tb_6 (List.mem_of_getElem? (i := 188) rfl)) rfl⟩
theorem fl_X12_432 : hp_F RX12 432 13 47 := ⟨rfl, by decide, in_13, tyX12_ok, nmX12, hp_mu (tb_6 (List.mem_of_getElem? (i := 189) rfl)) rfl⟩
theorem kc_X12_255 : Cond.constantLong RX12 255 (27) ∈ lw_u := hp_mu (tb_7 (List.mem_of_getElem? (i := 87) rfl)) rfl
theorem kc_X12_257 : Cond.constantLong RX12 257 (96) ∈ lw_u := hp_mu (tb_7 (List.mem_of_getElem? (i := 88) rfl)) rfl
theorem kc_X12_117 : Cond.constantLong RX12 117 (3) ∈ lw_u := hp_mu (tb_7 (List.mem_of_getElem? (i := 153) rfl)) rfl
theorem kc_X12_119 : Cond.constantLong RX12 119 (7) ∈ lw_u := hp_mu (tb_7 (List.mem_of_getElem? (i := 154) rfl)) rfl
theorem kc_X12_160 : Cond.constant RX12 160 (1073741824) ∈ lw_u := hp_mu (tb_7 (List.mem_of_getElem? (i := 166) rfl)) rfl
theorem kc_X12_324 : Cond.constant RX12 324 (99999) ∈ lw_u := hp_mu (tb_7 (List.mem_of_getElem? (i := 223) rfl)) rfl
theorem kc_X12_375 : Cond.constant RX12 375 (1000000) ∈ lw_u := hp_mu (tb_8 (List.mem_of_getElem? (i := 169) rfl)) rfl
theorem lb_X11_init : hp_LB yX11_init cX11_init 1 none 0 := ⟨hp_mu (tb_1 (List.mem_of_getElem? (i := 24) rfl)) rfl, hp_mu (tb_1 (List.mem_of_getElem? (i := 1) rfl)) rfl, by decide, by decide +kernel⟩
theorem li_X11_init : Cond.instanceMethod yX11_init ∈ lw_u := hp_mu (tb_1 (List.mem_of_getElem? (i := 23) rfl)) rfl
theorem lb_X10_init : hp_LB yX10_init cX10_init 2 none 0 := ⟨hp_mu (tb_1 (List.mem_of_getElem? (i := 32) rfl)) rfl, hp_mu (tb_1 (List.mem_of_getElem? (i := 2) rfl)) rfl, by decide, by decide +kernel⟩
theorem li_X10_init : Cond.instanceMethod yX10_init ∈ lw_u := hp_mu (tb_1 (List.mem_of_getElem? (i := 31) rfl)) rfl
theorem lb_X5_init : hp_LB yX5_init cX5_init 1 none 0 := ⟨hp_mu (tb_1 (List.mem_of_getElem? (i := 45) rfl)) rfl, hp_mu (tb_1 (List.mem_of_getElem? (i := 3) rfl)) rfl, by decide, by decide +kernel⟩
theorem li_X5_init : Cond.instanceMethod yX5_init ∈ lw_u := hp_mu (tb_1 (List.mem_of_getElem? (i := 44) rfl)) rfl
theorem lb_X8_init : hp_LB yX8_init cX8_init 1 none 0 := ⟨hp_mu (tb_1 (List.mem_of_getElem? (i := 64) rfl)) rfl, hp_mu (tb_1 (List.mem_of_getElem? (i := 4) rfl)) rfl, by decide, by decide +kernel⟩
theorem li_X8_init : Cond.instanceMethod yX8_init ∈ lw_u := hp_mu (tb_1 (List.mem_of_getElem? (i := 63) rfl)) rfl
theorem lb_X2_init : hp_LB yX2_init cX2_init 2 none 0 := ⟨hp_mu (tb_1 (List.mem_of_getElem? (i := 89) rfl)) rfl, hp_mu (tb_1 (List.mem_of_getElem? (i := 5) rfl)) rfl, by decide, by decide +kernel⟩
theorem li_X2_init : Cond.instanceMethod yX2_init ∈ lw_u := hp_mu (tb_1 (List.mem_of_getElem? (i := 88) rfl)) rfl
theorem lb_X9_init : hp_LB yX9_init cX9_init 1 none 0 := ⟨hp_mu (tb_1 (List.mem_of_getElem? (i := 96) rfl)) rfl, hp_mu (tb_1 (List.mem_of_getElem? (i := 6) rfl)) rfl, by decide, by decide +kernel⟩
theorem li_X9_init : Cond.instanceMethod yX9_init ∈ lw_u := hp_mu (tb_1 (List.mem_of_getElem? (i := 95) rfl)) rfl
theorem lb_X1_init : hp_LB yX1_init cX1_init 1 none 0 := ⟨hp_mu (tb_1 (List.mem_of_getElem? (i := 123) rfl)) rfl, hp_mu (tb_1 (List.mem_of_getElem? (i := 7) rfl)) rfl, by decide, by decide +kernel⟩
theorem li_X1_init : Cond.instanceMethod yX1_init ∈ lw_u := hp_mu (tb_1 (List.mem_of_getElem? (i := 122) rfl)) rfl
theorem lb_X7_init : hp_LB yX7_init cX7_init 1 none 0 := ⟨hp_mu (tb_1 (List.mem_of_getElem? (i := 155) rfl)) rfl, hp_mu (tb_1 (List.mem_of_getElem? (i := 8) rfl)) rfl, by decide, by decide +kernel⟩
theorem li_X7_init : Cond.instanceMethod yX7_init ∈ lw_u := hp_mu (tb_1 (List.mem_of_getElem? (i := 154) rfl)) rfl
theorem lb_X0_init : hp_LB yX0_init cX0_init 1 none 0 := ⟨hp_mu (tb_1 (List.mem_of_getElem? (i := 226) rfl)) rfl, hp_mu (tb_1 (List.mem_of_getElem? (i := 9) rfl)) rfl, by decide, by decide +kernel⟩
theorem li_X0_init : Cond.instanceMethod yX0_init ∈ lw_u := hp_mu (tb_1 (List.mem_of_getElem? (i := 225) rfl)) rfl
theorem lb_X3_init : hp_LB yX3_init cX3_init 1 none 0 := ⟨hp_mu (tb_2 (List.mem_of_getElem? (i := 10) rfl)) rfl, hp_mu (tb_1 (List.mem_of_getElem? (i := 10) rfl)) rfl, by decide, by decide +kernel⟩
theorem li_X3_init : Cond.instanceMethod yX3_init ∈ lw_u := hp_mu (tb_2 (List.mem_of_getElem? (i := 9) rfl)) rfl
theorem lb_X6_init : hp_LB yX6_init cX6_init 1 none 0 := ⟨hp_mu (tb_2 (List.mem_of_getElem? (i := 16) rfl)) rfl, hp_mu (tb_1 (List.mem_of_getElem? (i := 11) rfl)) rfl, by decide, by decide +kernel⟩
theorem li_X6_init : Cond.instanceMethod yX6_init ∈ lw_u := hp_mu (tb_2 (List.mem_of_getElem? (i := 15) rfl)) rfl
theorem lb_X11_status : hp_LB yX11_status cX11_status 1 (some .int) 0 := ⟨hp_mu (tb_2 (List.mem_of_getElem? (i := 149) rfl)) rfl, hp_mu (tb_1 (List.mem_of_getElem? (i := 1) rfl)) rfl, by decide, by decide +kernel⟩
theorem lv_X11_status : hp_LV yX11_status 12 := ⟨hp_mu (tb_2 (List.mem_of_getElem? (i := 147) rfl)) rfl, hp_mu (tb_2 (List.mem_of_getElem? (i := 148) rfl)) rfl, rfl, rfl, rfl⟩
theorem lb_X11_feed : hp_LB yX11_feed cX11_feed 6 (some .int) 5 := ⟨hp_mu (tb_2 (List.mem_of_getElem? (i := 153) rfl)) rfl, hp_mu (tb_1 (List.mem_of_getElem? (i := 1) rfl)) rfl, by decide, by decide +kernel⟩
theorem lv_X11_feed : hp_LV yX11_feed 12 := ⟨hp_mu (tb_2 (List.mem_of_getElem? (i := 151) rfl)) rfl, hp_mu (tb_2 (List.mem_of_getElem? (i := 152) rfl)) rfl, rfl, rfl, rfl⟩
theorem lb_X11_putOnTape : hp_LB yX11_putOnTape cX11_putOnTape 3 none 1 := ⟨hp_mu (tb_2 (List.mem_of_getElem? (i := 157) rfl)) rfl, hp_mu (tb_1 (List.mem_of_getElem? (i := 1) rfl)) rfl, by decide, by decide +kernel⟩
theorem lv_X11_putOnTape : hp_LV yX11_putOnTape 12 := ⟨hp_mu (tb_2 (List.mem_of_getElem? (i := 156) rfl)) rfl, hp_mu (tb_0 (List.mem_of_getElem? (i := 0) rfl)) rfl, rfl, rfl, rfl⟩
theorem lb_X11_load : hp_LB yX11_load cX11_load 4 (some .int) 1 := ⟨hp_mu (tb_2 (List.mem_of_getElem? (i := 161) rfl)) rfl, hp_mu (tb_1 (List.mem_of_getElem? (i := 1) rfl)) rfl, by decide, by decide +kernel⟩
theorem lv_X11_load : hp_LV yX11_load 12 := ⟨hp_mu (tb_2 (List.mem_of_getElem? (i := 159) rfl)) rfl, hp_mu (tb_2 (List.mem_of_getElem? (i := 160) rfl)) rfl, rfl, rfl, rfl⟩
theorem lb_X11_refuse : hp_LB yX11_refuse cX11_refuse 2 (some .int) 1 := ⟨hp_mu (tb_2 (List.mem_of_getElem? (i := 165) rfl)) rfl, hp_mu (tb_1 (List.mem_of_getElem? (i := 1) rfl)) rfl, by decide, by decide +kernel⟩
theorem lv_X11_refuse : hp_LV yX11_refuse 12 := ⟨hp_mu (tb_2 (List.mem_of_getElem? (i := 164) rfl)) rfl, hp_mu (tb_0 (List.mem_of_getElem? (i := 1) rfl)) rfl, rfl, rfl, rfl⟩
theorem lb_X10_renew : hp_LB yX10_renew cX10_renew 4 none 0 := ⟨hp_mu (tb_2 (List.mem_of_getElem? (i := 169) rfl)) rfl, hp_mu (tb_1 (List.mem_of_getElem? (i := 2) rfl)) rfl, by decide, by decide +kernel⟩
theorem lv_X10_renew : hp_LV yX10_renew 11 := ⟨hp_mu (tb_2 (List.mem_of_getElem? (i := 167) rfl)) rfl, hp_mu (tb_2 (List.mem_of_getElem? (i := 168) rfl)) rfl, rfl, rfl, rfl⟩
theorem lb_X10_logAt : hp_LB yX10_logAt cX10_logAt 2 (some (.object "ProvenRecord$Log")) 1 := ⟨hp_mu (tb_2 (List.mem_of_getElem? (i := 173) rfl)) rfl, hp_mu (tb_1 (List.mem_of_getElem? (i := 2) rfl)) rfl, by decide, by decide +kernel⟩
theorem lv_X10_logAt : hp_LV yX10_logAt 11 := ⟨hp_mu (tb_2 (List.mem_of_getElem? (i := 171) rfl)) rfl, hp_mu (tb_2 (List.mem_of_getElem? (i := 172) rfl)) rfl, rfl, rfl, rfl⟩
theorem lb_X10_watcherAt : hp_LB yX10_watcherAt cX10_watcherAt 2 (some (.object "ProvenRecord$Watcher")) 1 := ⟨hp_mu (tb_2 (List.mem_of_getElem? (i := 177) rfl)) rfl, hp_mu (tb_1 (List.mem_of_getElem? (i := 2) rfl)) rfl, by decide, by decide +kernel⟩
theorem lv_X10_watcherAt : hp_LV yX10_watcherAt 11 := ⟨hp_mu (tb_2 (List.mem_of_getElem? (i := 175) rfl)) rfl, hp_mu (tb_2 (List.mem_of_getElem? (i := 176) rfl)) rfl, rfl, rfl, rfl⟩
theorem lb_X7_renew : hp_LB yX7_renew cX7_renew 1 none 0 := ⟨hp_mu (tb_2 (List.mem_of_getElem? (i := 181) rfl)) rfl, hp_mu (tb_1 (List.mem_of_getElem? (i := 8) rfl)) rfl, by decide, by decide +kernel⟩
theorem lv_X7_renew : hp_LV yX7_renew 8 := ⟨hp_mu (tb_2 (List.mem_of_getElem? (i := 179) rfl)) rfl, hp_mu (tb_2 (List.mem_of_getElem? (i := 180) rfl)) rfl, rfl, rfl, rfl⟩
theorem lb_X7_trust : hp_LB yX7_trust cX7_trust 3 none 2 := ⟨hp_mu (tb_2 (List.mem_of_getElem? (i := 185) rfl)) rfl, hp_mu (tb_1 (List.mem_of_getElem? (i := 8) rfl)) rfl, by decide, by decide +kernel⟩
theorem lv_X7_trust : hp_LV yX7_trust 8 := ⟨hp_mu (tb_2 (List.mem_of_getElem? (i := 183) rfl)) rfl, hp_mu (tb_2 (List.mem_of_getElem? (i := 184) rfl)) rfl, rfl, rfl, rfl⟩
theorem lb_X11_loadLines : hp_LB yX11_loadLines cX11_loadLines 5 (some .boolean) 1 := ⟨hp_mu (tb_2 (List.mem_of_getElem? (i := 189) rfl)) rfl, hp_mu (tb_1 (List.mem_of_getElem? (i := 1) rfl)) rfl, by decide, by decide +kernel⟩
theorem lv_X11_loadLines : hp_LV yX11_loadLines 12 := ⟨hp_mu (tb_2 (List.mem_of_getElem? (i := 188) rfl)) rfl, hp_mu (tb_0 (List.mem_of_getElem? (i := 2) rfl)) rfl, rfl, rfl, rfl⟩
theorem lb_X3_begin : hp_LB yX3_begin cX3_begin 3 none 2 := ⟨hp_mu (tb_2 (List.mem_of_getElem? (i := 193) rfl)) rfl, hp_mu (tb_1 (List.mem_of_getElem? (i := 10) rfl)) rfl, by decide, by decide +kernel⟩
theorem lv_X3_begin : hp_LV yX3_begin 4 := ⟨hp_mu (tb_2 (List.mem_of_getElem? (i := 191) rfl)) rfl, hp_mu (tb_2 (List.mem_of_getElem? (i := 192) rfl)) rfl, rfl, rfl, rfl⟩
theorem lb_X6_begin : hp_LB yX6_begin cX6_begin 3 none 2 := ⟨hp_mu (tb_2 (List.mem_of_getElem? (i := 197) rfl)) rfl, hp_mu (tb_1 (List.mem_of_getElem? (i := 11) rfl)) rfl, by decide, by decide +kernel⟩
theorem lv_X6_begin : hp_LV yX6_begin 7 := ⟨hp_mu (tb_2 (List.mem_of_getElem? (i := 195) rfl)) rfl, hp_mu (tb_2 (List.mem_of_getElem? (i := 196) rfl)) rfl, rfl, rfl, rfl⟩
theorem lb_J9_min_7cf53 : hp_LB yJ9_min_7cf53 cJ9_min_7cf53 2 (some .int) 2 := ⟨hp_mu (tb_2 (List.mem_of_getElem? (i := 200) rfl)) rfl, hp_mu (tb_1 (List.mem_of_getElem? (i := 13) rfl)) rfl, by decide, by decide +kernel⟩
theorem ls_J9_min_7cf53 : Cond.static yJ9_min_7cf53 ∈ lw_u := hp_mu (tb_2 (List.mem_of_getElem? (i := 199) rfl)) rfl
theorem lb_J9_max_7cf53 : hp_LB yJ9_max_7cf53 cJ9_max_7cf53 2 (some .int) 2 := ⟨hp_mu (tb_2 (List.mem_of_getElem? (i := 203) rfl)) rfl, hp_mu (tb_1 (List.mem_of_getElem? (i := 13) rfl)) rfl, by decide, by decide +kernel⟩
theorem ls_J9_max_7cf53 : Cond.static yJ9_max_7cf53 ∈ lw_u := hp_mu (tb_2 (List.mem_of_getElem? (i := 202) rfl)) rfl
theorem lb_X6_advance : hp_LB yX6_advance cX6_advance 2 none 0 := ⟨hp_mu (tb_2 (List.mem_of_getElem? (i := 207) rfl)) rfl, hp_mu (tb_1 (List.mem_of_getElem? (i := 11) rfl)) rfl, by decide, by decide +kernel⟩
theorem lv_X6_advance : hp_LV yX6_advance 7 := ⟨hp_mu (tb_2 (List.mem_of_getElem? (i := 205) rfl)) rfl, hp_mu (tb_2 (List.mem_of_getElem? (i := 206) rfl)) rfl, rfl, rfl, rfl⟩
theorem lb_X6_byteAt : hp_LB yX6_byteAt cX6_byteAt 2 (some .int) 1 := ⟨hp_mu (tb_2 (List.mem_of_getElem? (i := 211) rfl)) rfl, hp_mu (tb_1 (List.mem_of_getElem? (i := 11) rfl)) rfl, by decide, by decide +kernel⟩
theorem lv_X6_byteAt : hp_LV yX6_byteAt 7 := ⟨hp_mu (tb_2 (List.mem_of_getElem? (i := 210) rfl)) rfl, hp_mu (tb_0 (List.mem_of_getElem? (i := 3) rfl)) rfl, rfl, rfl, rfl⟩
theorem lb_X6_isBlank : hp_LB yX6_isBlank cX6_isBlank 1 (some .boolean) 1 := ⟨hp_mu (tb_2 (List.mem_of_getElem? (i := 214) rfl)) rfl, hp_mu (tb_1 (List.mem_of_getElem? (i := 11) rfl)) rfl, by decide, by decide +kernel⟩
theorem ls_X6_isBlank : Cond.static yX6_isBlank ∈ lw_u := hp_mu (tb_2 (List.mem_of_getElem? (i := 213) rfl)) rfl
theorem lb_X6_kindOf : hp_LB yX6_kindOf cX6_kindOf 1 (some .int) 1 := ⟨hp_mu (tb_2 (List.mem_of_getElem? (i := 217) rfl)) rfl, hp_mu (tb_1 (List.mem_of_getElem? (i := 11) rfl)) rfl, by decide, by decide +kernel⟩
theorem ls_X6_kindOf : Cond.static yX6_kindOf ∈ lw_u := hp_mu (tb_2 (List.mem_of_getElem? (i := 216) rfl)) rfl
theorem lb_X3_readModulus : hp_LB yX3_readModulus cX3_readModulus 2 (some .boolean) 1 := ⟨hp_mu (tb_2 (List.mem_of_getElem? (i := 221) rfl)) rfl, hp_mu (tb_1 (List.mem_of_getElem? (i := 10) rfl)) rfl, by decide, by decide +kernel⟩
theorem lv_X3_readModulus : hp_LV yX3_readModulus 4 := ⟨hp_mu (tb_2 (List.mem_of_getElem? (i := 219) rfl)) rfl, hp_mu (tb_2 (List.mem_of_getElem? (i := 220) rfl)) rfl, rfl, rfl, rfl⟩
theorem lb_X6_spells : hp_LB yX6_spells cX6_spells 4 (some .boolean) 1 := ⟨hp_mu (tb_2 (List.mem_of_getElem? (i := 226) rfl)) rfl, hp_mu (tb_1 (List.mem_of_getElem? (i := 11) rfl)) rfl, by decide, by decide +kernel⟩
theorem lv_X6_spells : hp_LV yX6_spells 7 := ⟨hp_mu (tb_2 (List.mem_of_getElem? (i := 224) rfl)) rfl, hp_mu (tb_2 (List.mem_of_getElem? (i := 225) rfl)) rfl, rfl, rfl, rfl⟩
theorem lb_J0_length_8abf5 : hp_LB yJ0_length_8abf5 cJ0_length_8abf5 1 (some .int) 0 := ⟨hp_mu (tb_2 (List.mem_of_getElem? (i := 230) rfl)) rfl, hp_mu (tb_1 (List.mem_of_getElem? (i := 14) rfl)) rfl, by decide, by decide +kernel⟩
theorem li_J0_length_8abf5 : Cond.instanceMethod yJ0_length_8abf5 ∈ lw_u := hp_mu (tb_2 (List.mem_of_getElem? (i := 228) rfl)) rfl
theorem lb_J0_coder_7d493 : hp_LB yJ0_coder_7d493 cJ0_coder_7d493 1 (some .byte) 0 := ⟨hp_mu (tb_2 (List.mem_of_getElem? (i := 234) rfl)) rfl, hp_mu (tb_1 (List.mem_of_getElem? (i := 14) rfl)) rfl, by decide, by decide +kernel⟩
theorem li_J0_coder_7d493 : Cond.instanceMethod yJ0_coder_7d493 ∈ lw_u := hp_mu (tb_2 (List.mem_of_getElem? (i := 232) rfl)) rfl
theorem lb_J0_charAt_5068e : hp_LB yJ0_charAt_5068e cJ0_charAt_5068e 2 (some .char) 1 := ⟨hp_mu (tb_3 (List.mem_of_getElem? (i := 0) rfl)) rfl, hp_mu (tb_1 (List.mem_of_getElem? (i := 14) rfl)) rfl, by decide, by decide +kernel⟩
theorem li_J0_charAt_5068e : Cond.instanceMethod yJ0_charAt_5068e ∈ lw_u := hp_mu (tb_2 (List.mem_of_getElem? (i := 238) rfl)) rfl
theorem lb_J0_isLatin1_aae02 : hp_LB yJ0_isLatin1_aae02 cJ0_isLatin1_aae02 1 (some .boolean) 0 := ⟨hp_mu (tb_3 (List.mem_of_getElem? (i := 4) rfl)) rfl, hp_mu (tb_1 (List.mem_of_getElem? (i := 14) rfl)) rfl, by decide, by decide +kernel⟩
theorem li_J0_isLatin1_aae02 : Cond.instanceMethod yJ0_isLatin1_aae02 ∈ lw_u := hp_mu (tb_3 (List.mem_of_getElem? (i := 2) rfl)) rfl
theorem lb_J1_charAt_3b067 : hp_LB yJ1_charAt_3b067 cJ1_charAt_3b067 2 (some .char) 2 := ⟨hp_mu (tb_3 (List.mem_of_getElem? (i := 7) rfl)) rfl, hp_mu (tb_1 (List.mem_of_getElem? (i := 15) rfl)) rfl, by decide, by decide +kernel⟩
theorem ls_J1_charAt_3b067 : Cond.static yJ1_charAt_3b067 ∈ lw_u := hp_mu (tb_3 (List.mem_of_getElem? (i := 6) rfl)) rfl
theorem lb_J0_checkIndex_df160 : hp_LB yJ0_checkIndex_df160 cJ0_checkIndex_df160 2 none 2 := ⟨hp_mu (tb_3 (List.mem_of_getElem? (i := 10) rfl)) rfl, hp_mu (tb_1 (List.mem_of_getElem? (i := 14) rfl)) rfl, by decide, by decide +kernel⟩
theorem ls_J0_checkIndex_df160 : Cond.static yJ0_checkIndex_df160 ∈ lw_u := hp_mu (tb_3 (List.mem_of_getElem? (i := 9) rfl)) rfl
theorem lb_J3_checkIndex_8e157 : hp_LB yJ3_checkIndex_8e157 cJ3_checkIndex_8e157 3 (some .int) 3 := ⟨hp_mu (tb_3 (List.mem_of_getElem? (i := 15) rfl)) rfl, hp_mu (tb_1 (List.mem_of_getElem? (i := 16) rfl)) rfl, by decide, by decide +kernel⟩
theorem ls_J3_checkIndex_8e157 : Cond.static yJ3_checkIndex_8e157 ∈ lw_u := hp_mu (tb_3 (List.mem_of_getElem? (i := 14) rfl)) rfl
theorem lb_X3_readNumber : hp_LB yX3_readNumber cX3_readNumber 3 (some .boolean) 2 := ⟨hp_mu (tb_3 (List.mem_of_getElem? (i := 38) rfl)) rfl, hp_mu (tb_1 (List.mem_of_getElem? (i := 10) rfl)) rfl, by decide, by decide +kernel⟩
theorem lv_X3_readNumber : hp_LV yX3_readNumber 4 := ⟨hp_mu (tb_3 (List.mem_of_getElem? (i := 37) rfl)) rfl, hp_mu (tb_0 (List.mem_of_getElem? (i := 4) rfl)) rfl, rfl, rfl, rfl⟩
theorem lb_X3_stray : hp_LB yX3_stray cX3_stray 1 (some .boolean) 0 := ⟨hp_mu (tb_3 (List.mem_of_getElem? (i := 42) rfl)) rfl, hp_mu (tb_1 (List.mem_of_getElem? (i := 10) rfl)) rfl, by decide, by decide +kernel⟩
theorem lv_X3_stray : hp_LV yX3_stray 4 := ⟨hp_mu (tb_3 (List.mem_of_getElem? (i := 41) rfl)) rfl, hp_mu (tb_0 (List.mem_of_getElem? (i := 5) rfl)) rfl, rfl, rfl, rfl⟩
theorem lb_X3_fail : hp_LB yX3_fail cX3_fail 2 (some .boolean) 1 := ⟨hp_mu (tb_3 (List.mem_of_getElem? (i := 46) rfl)) rfl, hp_mu (tb_1 (List.mem_of_getElem? (i := 10) rfl)) rfl, by decide, by decide +kernel⟩
theorem lv_X3_fail : hp_LV yX3_fail 4 := ⟨hp_mu (tb_3 (List.mem_of_getElem? (i := 45) rfl)) rfl, hp_mu (tb_0 (List.mem_of_getElem? (i := 6) rfl)) rfl, rfl, rfl, rfl⟩
theorem lb_X3_readSign : hp_LB yX3_readSign cX3_readSign 1 (some .boolean) 0 := ⟨hp_mu (tb_3 (List.mem_of_getElem? (i := 50) rfl)) rfl, hp_mu (tb_1 (List.mem_of_getElem? (i := 10) rfl)) rfl, by decide, by decide +kernel⟩
theorem lv_X3_readSign : hp_LV yX3_readSign 4 := ⟨hp_mu (tb_3 (List.mem_of_getElem? (i := 49) rfl)) rfl, hp_mu (tb_0 (List.mem_of_getElem? (i := 7) rfl)) rfl, rfl, rfl, rfl⟩
theorem lb_X3_isAtEnd : hp_LB yX3_isAtEnd cX3_isAtEnd 1 (some .boolean) 0 := ⟨hp_mu (tb_3 (List.mem_of_getElem? (i := 54) rfl)) rfl, hp_mu (tb_1 (List.mem_of_getElem? (i := 10) rfl)) rfl, by decide, by decide +kernel⟩
theorem lv_X3_isAtEnd : hp_LV yX3_isAtEnd 4 := ⟨hp_mu (tb_3 (List.mem_of_getElem? (i := 52) rfl)) rfl, hp_mu (tb_3 (List.mem_of_getElem? (i := 53) rfl)) rfl, rfl, rfl, rfl⟩
theorem lb_X3_readLine : hp_LB yX3_readLine cX3_readLine 4 (some .boolean) 2 := ⟨hp_mu (tb_3 (List.mem_of_getElem? (i := 59) rfl)) rfl, hp_mu (tb_1 (List.mem_of_getElem? (i := 10) rfl)) rfl, by decide, by decide +kernel⟩
theorem lv_X3_readLine : hp_LV yX3_readLine 4 := ⟨hp_mu (tb_3 (List.mem_of_getElem? (i := 57) rfl)) rfl, hp_mu (tb_3 (List.mem_of_getElem? (i := 58) rfl)) rfl, rfl, rfl, rfl⟩
theorem lb_X3_readAdd : hp_LB yX3_readAdd cX3_readAdd 2 (some .boolean) 1 := ⟨hp_mu (tb_3 (List.mem_of_getElem? (i := 64) rfl)) rfl, hp_mu (tb_1 (List.mem_of_getElem? (i := 10) rfl)) rfl, by decide, by decide +kernel⟩
theorem lv_X3_readAdd : hp_LV yX3_readAdd 4 := ⟨hp_mu (tb_3 (List.mem_of_getElem? (i := 63) rfl)) rfl, hp_mu (tb_0 (List.mem_of_getElem? (i := 8) rfl)) rfl, rfl, rfl, rfl⟩
theorem lb_X3_hasRoom : hp_LB yX3_hasRoom cX3_hasRoom 3 (some .boolean) 2 := ⟨hp_mu (tb_3 (List.mem_of_getElem? (i := 68) rfl)) rfl, hp_mu (tb_1 (List.mem_of_getElem? (i := 10) rfl)) rfl, by decide, by decide +kernel⟩
theorem lv_X3_hasRoom : hp_LV yX3_hasRoom 4 := ⟨hp_mu (tb_3 (List.mem_of_getElem? (i := 67) rfl)) rfl, hp_mu (tb_0 (List.mem_of_getElem? (i := 9) rfl)) rfl, rfl, rfl, rfl⟩
theorem lb_X9_clear : hp_LB yX9_clear cX9_clear 1 none 0 := ⟨hp_mu (tb_3 (List.mem_of_getElem? (i := 72) rfl)) rfl, hp_mu (tb_1 (List.mem_of_getElem? (i := 6) rfl)) rfl, by decide, by decide +kernel⟩
theorem lv_X9_clear : hp_LV yX9_clear 10 := ⟨hp_mu (tb_3 (List.mem_of_getElem? (i := 70) rfl)) rfl, hp_mu (tb_3 (List.mem_of_getElem? (i := 71) rfl)) rfl, rfl, rfl, rfl⟩
theorem lb_X6_copyWord : hp_LB yX6_copyWord cX6_copyWord 3 none 1 := ⟨hp_mu (tb_3 (List.mem_of_getElem? (i := 76) rfl)) rfl, hp_mu (tb_1 (List.mem_of_getElem? (i := 11) rfl)) rfl, by decide, by decide +kernel⟩
theorem lv_X6_copyWord : hp_LV yX6_copyWord 7 := ⟨hp_mu (tb_3 (List.mem_of_getElem? (i := 74) rfl)) rfl, hp_mu (tb_3 (List.mem_of_getElem? (i := 75) rfl)) rfl, rfl, rfl, rfl⟩
theorem lb_X9_put : hp_LB yX9_put cX9_put 2 none 1 := ⟨hp_mu (tb_3 (List.mem_of_getElem? (i := 81) rfl)) rfl, hp_mu (tb_1 (List.mem_of_getElem? (i := 6) rfl)) rfl, by decide, by decide +kernel⟩
theorem lv_X9_put : hp_LV yX9_put 10 := ⟨hp_mu (tb_3 (List.mem_of_getElem? (i := 79) rfl)) rfl, hp_mu (tb_3 (List.mem_of_getElem? (i := 80) rfl)) rfl, rfl, rfl, rfl⟩
theorem lb_X3_readShow : hp_LB yX3_readShow cX3_readShow 2 (some .boolean) 1 := ⟨hp_mu (tb_3 (List.mem_of_getElem? (i := 89) rfl)) rfl, hp_mu (tb_1 (List.mem_of_getElem? (i := 10) rfl)) rfl, by decide, by decide +kernel⟩
theorem lv_X3_readShow : hp_LV yX3_readShow 4 := ⟨hp_mu (tb_3 (List.mem_of_getElem? (i := 88) rfl)) rfl, hp_mu (tb_0 (List.mem_of_getElem? (i := 10) rfl)) rfl, rfl, rfl, rfl⟩
theorem lb_X10_addWord : hp_LB yX10_addWord cX10_addWord 3 none 2 := ⟨hp_mu (tb_3 (List.mem_of_getElem? (i := 93) rfl)) rfl, hp_mu (tb_1 (List.mem_of_getElem? (i := 2) rfl)) rfl, by decide, by decide +kernel⟩
theorem lv_X10_addWord : hp_LV yX10_addWord 11 := ⟨hp_mu (tb_3 (List.mem_of_getElem? (i := 91) rfl)) rfl, hp_mu (tb_3 (List.mem_of_getElem? (i := 92) rfl)) rfl, rfl, rfl, rfl⟩
theorem lb_X2_putWord : hp_LB yX2_putWord cX2_putWord 3 none 2 := ⟨hp_mu (tb_3 (List.mem_of_getElem? (i := 97) rfl)) rfl, hp_mu (tb_1 (List.mem_of_getElem? (i := 5) rfl)) rfl, by decide, by decide +kernel⟩
theorem lv_X2_putWord : hp_LV yX2_putWord 3 := ⟨hp_mu (tb_3 (List.mem_of_getElem? (i := 95) rfl)) rfl, hp_mu (tb_3 (List.mem_of_getElem? (i := 96) rfl)) rfl, rfl, rfl, rfl⟩
theorem lb_X9_copy : hp_LB yX9_copy cX9_copy 3 none 1 := ⟨hp_mu (tb_3 (List.mem_of_getElem? (i := 101) rfl)) rfl, hp_mu (tb_1 (List.mem_of_getElem? (i := 6) rfl)) rfl, by decide, by decide +kernel⟩
theorem lv_X9_copy : hp_LV yX9_copy 10 := ⟨hp_mu (tb_3 (List.mem_of_getElem? (i := 99) rfl)) rfl, hp_mu (tb_3 (List.mem_of_getElem? (i := 100) rfl)) rfl, rfl, rfl, rfl⟩
theorem lb_X9_letterAt : hp_LB yX9_letterAt cX9_letterAt 2 (some .int) 1 := ⟨hp_mu (tb_3 (List.mem_of_getElem? (i := 106) rfl)) rfl, hp_mu (tb_1 (List.mem_of_getElem? (i := 6) rfl)) rfl, by decide, by decide +kernel⟩
theorem lv_X9_letterAt : hp_LV yX9_letterAt 10 := ⟨hp_mu (tb_3 (List.mem_of_getElem? (i := 104) rfl)) rfl, hp_mu (tb_3 (List.mem_of_getElem? (i := 105) rfl)) rfl, rfl, rfl, rfl⟩
theorem lb_X9_markBy : hp_LB yX9_markBy cX9_markBy 4 (some .int) 1 := ⟨hp_mu (tb_3 (List.mem_of_getElem? (i := 111) rfl)) rfl, hp_mu (tb_1 (List.mem_of_getElem? (i := 6) rfl)) rfl, by decide, by decide +kernel⟩
theorem lv_X9_markBy : hp_LV yX9_markBy 10 := ⟨hp_mu (tb_3 (List.mem_of_getElem? (i := 109) rfl)) rfl, hp_mu (tb_3 (List.mem_of_getElem? (i := 110) rfl)) rfl, rfl, rfl, rfl⟩
theorem lb_X11_mixed : hp_LB yX11_mixed cX11_mixed 3 (some .int) 3 := ⟨hp_mu (tb_3 (List.mem_of_getElem? (i := 114) rfl)) rfl, hp_mu (tb_1 (List.mem_of_getElem? (i := 1) rfl)) rfl, by decide, by decide +kernel⟩
theorem ls_X11_mixed : Cond.static yX11_mixed ∈ lw_u := hp_mu (tb_3 (List.mem_of_getElem? (i := 113) rfl)) rfl
theorem lb_X10_forkLog : hp_LB yX10_forkLog cX10_forkLog 6 (some .int) 2 := ⟨hp_mu (tb_3 (List.mem_of_getElem? (i := 120) rfl)) rfl, hp_mu (tb_1 (List.mem_of_getElem? (i := 2) rfl)) rfl, by decide, by decide +kernel⟩
theorem lv_X10_forkLog : hp_LV yX10_forkLog 11 := ⟨hp_mu (tb_3 (List.mem_of_getElem? (i := 118) rfl)) rfl, hp_mu (tb_3 (List.mem_of_getElem? (i := 119) rfl)) rfl, rfl, rfl, rfl⟩
theorem lb_X2_wordAt : hp_LB yX2_wordAt cX2_wordAt 2 (some (.object "ProvenRecord$Word")) 1 := ⟨hp_mu (tb_3 (List.mem_of_getElem? (i := 124) rfl)) rfl, hp_mu (tb_1 (List.mem_of_getElem? (i := 5) rfl)) rfl, by decide, by decide +kernel⟩
theorem lv_X2_wordAt : hp_LV yX2_wordAt 3 := ⟨hp_mu (tb_3 (List.mem_of_getElem? (i := 122) rfl)) rfl, hp_mu (tb_3 (List.mem_of_getElem? (i := 123) rfl)) rfl, rfl, rfl, rfl⟩
theorem lb_X10_freezeHead : hp_LB yX10_freezeHead cX10_freezeHead 4 (some .int) 1 := ⟨hp_mu (tb_3 (List.mem_of_getElem? (i := 128) rfl)) rfl, hp_mu (tb_1 (List.mem_of_getElem? (i := 2) rfl)) rfl, by decide, by decide +kernel⟩
theorem lv_X10_freezeHead : hp_LV yX10_freezeHead 11 := ⟨hp_mu (tb_3 (List.mem_of_getElem? (i := 126) rfl)) rfl, hp_mu (tb_3 (List.mem_of_getElem? (i := 127) rfl)) rfl, rfl, rfl, rfl⟩
theorem lb_X10_headOf : hp_LB yX10_headOf cX10_headOf 3 (some .int) 2 := ⟨hp_mu (tb_3 (List.mem_of_getElem? (i := 132) rfl)) rfl, hp_mu (tb_1 (List.mem_of_getElem? (i := 2) rfl)) rfl, by decide, by decide +kernel⟩
theorem lv_X10_headOf : hp_LV yX10_headOf 11 := ⟨hp_mu (tb_3 (List.mem_of_getElem? (i := 130) rfl)) rfl, hp_mu (tb_3 (List.mem_of_getElem? (i := 131) rfl)) rfl, rfl, rfl, rfl⟩
theorem lb_X10_treeMark : hp_LB yX10_treeMark cX10_treeMark 8 (some .int) 3 := ⟨hp_mu (tb_3 (List.mem_of_getElem? (i := 136) rfl)) rfl, hp_mu (tb_1 (List.mem_of_getElem? (i := 2) rfl)) rfl, by decide, by decide +kernel⟩
theorem lv_X10_treeMark : hp_LV yX10_treeMark 11 := ⟨hp_mu (tb_3 (List.mem_of_getElem? (i := 134) rfl)) rfl, hp_mu (tb_3 (List.mem_of_getElem? (i := 135) rfl)) rfl, rfl, rfl, rfl⟩
theorem lb_X2_markAt : hp_LB yX2_markAt cX2_markAt 2 (some .int) 1 := ⟨hp_mu (tb_3 (List.mem_of_getElem? (i := 141) rfl)) rfl, hp_mu (tb_1 (List.mem_of_getElem? (i := 5) rfl)) rfl, by decide, by decide +kernel⟩
theorem lv_X2_markAt : hp_LV yX2_markAt 3 := ⟨hp_mu (tb_3 (List.mem_of_getElem? (i := 139) rfl)) rfl, hp_mu (tb_3 (List.mem_of_getElem? (i := 140) rfl)) rfl, rfl, rfl, rfl⟩
theorem lb_X11_markOfTwo : hp_LB yX11_markOfTwo cX11_markOfTwo 5 (some .int) 3 := ⟨hp_mu (tb_3 (List.mem_of_getElem? (i := 144) rfl)) rfl, hp_mu (tb_1 (List.mem_of_getElem? (i := 1) rfl)) rfl, by decide, by decide +kernel⟩
theorem ls_X11_markOfTwo : Cond.static yX11_markOfTwo ∈ lw_u := hp_mu (tb_3 (List.mem_of_getElem? (i := 143) rfl)) rfl
theorem lb_X10_peaksOf : hp_LB yX10_peaksOf cX10_peaksOf 6 none 3 := ⟨hp_mu (tb_3 (List.mem_of_getElem? (i := 149) rfl)) rfl, hp_mu (tb_1 (List.mem_of_getElem? (i := 2) rfl)) rfl, by decide, by decide +kernel⟩
theorem lv_X10_peaksOf : hp_LV yX10_peaksOf 11 := ⟨hp_mu (tb_3 (List.mem_of_getElem? (i := 147) rfl)) rfl, hp_mu (tb_3 (List.mem_of_getElem? (i := 148) rfl)) rfl, rfl, rfl, rfl⟩
theorem lb_X5_shorten : hp_LB yX5_shorten cX5_shorten 2 none 1 := ⟨hp_mu (tb_3 (List.mem_of_getElem? (i := 153) rfl)) rfl, hp_mu (tb_1 (List.mem_of_getElem? (i := 3) rfl)) rfl, by decide, by decide +kernel⟩
theorem lv_X5_shorten : hp_LV yX5_shorten 6 := ⟨hp_mu (tb_3 (List.mem_of_getElem? (i := 151) rfl)) rfl, hp_mu (tb_3 (List.mem_of_getElem? (i := 152) rfl)) rfl, rfl, rfl, rfl⟩
theorem lb_X5_put : hp_LB yX5_put cX5_put 2 none 1 := ⟨hp_mu (tb_3 (List.mem_of_getElem? (i := 157) rfl)) rfl, hp_mu (tb_1 (List.mem_of_getElem? (i := 3) rfl)) rfl, by decide, by decide +kernel⟩
theorem lv_X5_put : hp_LV yX5_put 6 := ⟨hp_mu (tb_3 (List.mem_of_getElem? (i := 155) rfl)) rfl, hp_mu (tb_3 (List.mem_of_getElem? (i := 156) rfl)) rfl, rfl, rfl, rfl⟩
theorem lb_X10_showTo : hp_LB yX10_showTo cX10_showTo 7 (some .int) 3 := ⟨hp_mu (tb_3 (List.mem_of_getElem? (i := 162) rfl)) rfl, hp_mu (tb_1 (List.mem_of_getElem? (i := 2) rfl)) rfl, by decide, by decide +kernel⟩
theorem lv_X10_showTo : hp_LV yX10_showTo 11 := ⟨hp_mu (tb_3 (List.mem_of_getElem? (i := 160) rfl)) rfl, hp_mu (tb_3 (List.mem_of_getElem? (i := 161) rfl)) rfl, rfl, rfl, rfl⟩
theorem lb_X10_whyGrown : hp_LB yX10_whyGrown cX10_whyGrown 6 (some .int) 5 := ⟨hp_mu (tb_3 (List.mem_of_getElem? (i := 166) rfl)) rfl, hp_mu (tb_1 (List.mem_of_getElem? (i := 2) rfl)) rfl, by decide, by decide +kernel⟩
theorem lv_X10_whyGrown : hp_LV yX10_whyGrown 11 := ⟨hp_mu (tb_3 (List.mem_of_getElem? (i := 164) rfl)) rfl, hp_mu (tb_3 (List.mem_of_getElem? (i := 165) rfl)) rfl, rfl, rfl, rfl⟩
theorem lb_X8_toGrowth : hp_LB yX8_toGrowth cX8_toGrowth 8 none 2 := ⟨hp_mu (tb_3 (List.mem_of_getElem? (i := 170) rfl)) rfl, hp_mu (tb_1 (List.mem_of_getElem? (i := 4) rfl)) rfl, by decide, by decide +kernel⟩
theorem lv_X8_toGrowth : hp_LV yX8_toGrowth 9 := ⟨hp_mu (tb_3 (List.mem_of_getElem? (i := 168) rfl)) rfl, hp_mu (tb_3 (List.mem_of_getElem? (i := 169) rfl)) rfl, rfl, rfl, rfl⟩
theorem lb_X8_clear : hp_LB yX8_clear cX8_clear 1 none 0 := ⟨hp_mu (tb_3 (List.mem_of_getElem? (i := 174) rfl)) rfl, hp_mu (tb_1 (List.mem_of_getElem? (i := 4) rfl)) rfl, by decide, by decide +kernel⟩
theorem lv_X8_clear : hp_LV yX8_clear 9 := ⟨hp_mu (tb_3 (List.mem_of_getElem? (i := 173) rfl)) rfl, hp_mu (tb_0 (List.mem_of_getElem? (i := 11) rfl)) rfl, rfl, rfl, rfl⟩
theorem lb_X11_firstPartOf : hp_LB yX11_firstPartOf cX11_firstPartOf 1 (some .int) 1 := ⟨hp_mu (tb_3 (List.mem_of_getElem? (i := 177) rfl)) rfl, hp_mu (tb_1 (List.mem_of_getElem? (i := 1) rfl)) rfl, by decide, by decide +kernel⟩
theorem ls_X11_firstPartOf : Cond.static yX11_firstPartOf ∈ lw_u := hp_mu (tb_3 (List.mem_of_getElem? (i := 176) rfl)) rfl
theorem lb_J6_highestOneBit_0f7a4 : hp_LB yJ6_highestOneBit_0f7a4 cJ6_highestOneBit_0f7a4 1 (some .int) 1 := ⟨hp_mu (tb_3 (List.mem_of_getElem? (i := 180) rfl)) rfl, hp_mu (tb_1 (List.mem_of_getElem? (i := 18) rfl)) rfl, by decide, by decide +kernel⟩
theorem ls_J6_highestOneBit_0f7a4 : Cond.static yJ6_highestOneBit_0f7a4 ∈ lw_u := hp_mu (tb_3 (List.mem_of_getElem? (i := 179) rfl)) rfl
theorem lb_J6_numberOfLeadingZeros_0f7a4 : hp_LB yJ6_numberOfLeadingZeros_0f7a4 cJ6_numberOfLeadingZeros_0f7a4 2 (some .int) 1 := ⟨hp_mu (tb_3 (List.mem_of_getElem? (i := 184) rfl)) rfl, hp_mu (tb_1 (List.mem_of_getElem? (i := 18) rfl)) rfl, by decide, by decide +kernel⟩
theorem ls_J6_numberOfLeadingZeros_0f7a4 : Cond.static yJ6_numberOfLeadingZeros_0f7a4 ∈ lw_u := hp_mu (tb_3 (List.mem_of_getElem? (i := 183) rfl)) rfl
theorem lb_X8_put : hp_LB yX8_put cX8_put 4 none 3 := ⟨hp_mu (tb_3 (List.mem_of_getElem? (i := 189) rfl)) rfl, hp_mu (tb_1 (List.mem_of_getElem? (i := 4) rfl)) rfl, by decide, by decide +kernel⟩
theorem lv_X8_put : hp_LV yX8_put 9 := ⟨hp_mu (tb_3 (List.mem_of_getElem? (i := 188) rfl)) rfl, hp_mu (tb_0 (List.mem_of_getElem? (i := 12) rfl)) rfl, rfl, rfl, rfl⟩
theorem lb_X8_turnRound : hp_LB yX8_turnRound cX8_turnRound 6 none 0 := ⟨hp_mu (tb_3 (List.mem_of_getElem? (i := 193) rfl)) rfl, hp_mu (tb_1 (List.mem_of_getElem? (i := 4) rfl)) rfl, by decide, by decide +kernel⟩
theorem lv_X8_turnRound : hp_LV yX8_turnRound 9 := ⟨hp_mu (tb_3 (List.mem_of_getElem? (i := 192) rfl)) rfl, hp_mu (tb_0 (List.mem_of_getElem? (i := 13) rfl)) rfl, rfl, rfl, rfl⟩
theorem lb_X10_marksAlong : hp_LB yX10_marksAlong cX10_marksAlong 5 none 3 := ⟨hp_mu (tb_3 (List.mem_of_getElem? (i := 197) rfl)) rfl, hp_mu (tb_1 (List.mem_of_getElem? (i := 2) rfl)) rfl, by decide, by decide +kernel⟩
theorem lv_X10_marksAlong : hp_LV yX10_marksAlong 11 := ⟨hp_mu (tb_3 (List.mem_of_getElem? (i := 195) rfl)) rfl, hp_mu (tb_3 (List.mem_of_getElem? (i := 196) rfl)) rfl, rfl, rfl, rfl⟩
theorem lb_X8_firstAt : hp_LB yX8_firstAt cX8_firstAt 2 (some .int) 1 := ⟨hp_mu (tb_3 (List.mem_of_getElem? (i := 201) rfl)) rfl, hp_mu (tb_1 (List.mem_of_getElem? (i := 4) rfl)) rfl, by decide, by decide +kernel⟩
theorem lv_X8_firstAt : hp_LV yX8_firstAt 9 := ⟨hp_mu (tb_3 (List.mem_of_getElem? (i := 199) rfl)) rfl, hp_mu (tb_3 (List.mem_of_getElem? (i := 200) rfl)) rfl, rfl, rfl, rfl⟩
theorem lb_X8_manyAt : hp_LB yX8_manyAt cX8_manyAt 2 (some .int) 1 := ⟨hp_mu (tb_3 (List.mem_of_getElem? (i := 205) rfl)) rfl, hp_mu (tb_1 (List.mem_of_getElem? (i := 4) rfl)) rfl, by decide, by decide +kernel⟩
theorem lv_X8_manyAt : hp_LV yX8_manyAt 9 := ⟨hp_mu (tb_3 (List.mem_of_getElem? (i := 203) rfl)) rfl, hp_mu (tb_3 (List.mem_of_getElem? (i := 204) rfl)) rfl, rfl, rfl, rfl⟩
theorem lb_X8_whyGrowth : hp_LB yX8_whyGrowth cX8_whyGrowth 10 (some .int) 6 := ⟨hp_mu (tb_3 (List.mem_of_getElem? (i := 209) rfl)) rfl, hp_mu (tb_1 (List.mem_of_getElem? (i := 4) rfl)) rfl, by decide, by decide +kernel⟩
theorem lv_X8_whyGrowth : hp_LV yX8_whyGrowth 9 := ⟨hp_mu (tb_3 (List.mem_of_getElem? (i := 207) rfl)) rfl, hp_mu (tb_3 (List.mem_of_getElem? (i := 208) rfl)) rfl, rfl, rfl, rfl⟩
theorem lb_X5_at : hp_LB yX5_at cX5_at 2 (some .int) 1 := ⟨hp_mu (tb_3 (List.mem_of_getElem? (i := 214) rfl)) rfl, hp_mu (tb_1 (List.mem_of_getElem? (i := 3) rfl)) rfl, by decide, by decide +kernel⟩
theorem lv_X5_at : hp_LV yX5_at 6 := ⟨hp_mu (tb_3 (List.mem_of_getElem? (i := 212) rfl)) rfl, hp_mu (tb_3 (List.mem_of_getElem? (i := 213) rfl)) rfl, rfl, rfl, rfl⟩
theorem lb_X8_joined : hp_LB yX8_joined cX8_joined 5 (some .int) 4 := ⟨hp_mu (tb_3 (List.mem_of_getElem? (i := 218) rfl)) rfl, hp_mu (tb_1 (List.mem_of_getElem? (i := 4) rfl)) rfl, by decide, by decide +kernel⟩
theorem lv_X8_joined : hp_LV yX8_joined 9 := ⟨hp_mu (tb_3 (List.mem_of_getElem? (i := 216) rfl)) rfl, hp_mu (tb_3 (List.mem_of_getElem? (i := 217) rfl)) rfl, rfl, rfl, rfl⟩
theorem lb_X8_isAhead : hp_LB yX8_isAhead cX8_isAhead 2 (some .boolean) 1 := ⟨hp_mu (tb_3 (List.mem_of_getElem? (i := 222) rfl)) rfl, hp_mu (tb_1 (List.mem_of_getElem? (i := 4) rfl)) rfl, by decide, by decide +kernel⟩
theorem lv_X8_isAhead : hp_LV yX8_isAhead 9 := ⟨hp_mu (tb_3 (List.mem_of_getElem? (i := 220) rfl)) rfl, hp_mu (tb_3 (List.mem_of_getElem? (i := 221) rfl)) rfl, rfl, rfl, rfl⟩
theorem lb_X7_hearWhy : hp_LB yX7_hearWhy cX7_hearWhy 2 none 1 := ⟨hp_mu (tb_3 (List.mem_of_getElem? (i := 228) rfl)) rfl, hp_mu (tb_1 (List.mem_of_getElem? (i := 8) rfl)) rfl, by decide, by decide +kernel⟩
theorem lv_X7_hearWhy : hp_LV yX7_hearWhy 8 := ⟨hp_mu (tb_3 (List.mem_of_getElem? (i := 226) rfl)) rfl, hp_mu (tb_3 (List.mem_of_getElem? (i := 227) rfl)) rfl, rfl, rfl, rfl⟩
theorem lb_X11_answer : hp_LB yX11_answer cX11_answer 2 (some .int) 1 := ⟨hp_mu (tb_3 (List.mem_of_getElem? (i := 233) rfl)) rfl, hp_mu (tb_1 (List.mem_of_getElem? (i := 1) rfl)) rfl, by decide, by decide +kernel⟩
theorem lv_X11_answer : hp_LV yX11_answer 12 := ⟨hp_mu (tb_3 (List.mem_of_getElem? (i := 232) rfl)) rfl, hp_mu (tb_0 (List.mem_of_getElem? (i := 14) rfl)) rfl, rfl, rfl, rfl⟩
theorem lb_X11_hear : hp_LB yX11_hear cX11_hear 4 (some .int) 1 := ⟨hp_mu (tb_3 (List.mem_of_getElem? (i := 237) rfl)) rfl, hp_mu (tb_1 (List.mem_of_getElem? (i := 1) rfl)) rfl, by decide, by decide +kernel⟩
theorem lv_X11_hear : hp_LV yX11_hear 12 := ⟨hp_mu (tb_3 (List.mem_of_getElem? (i := 235) rfl)) rfl, hp_mu (tb_3 (List.mem_of_getElem? (i := 236) rfl)) rfl, rfl, rfl, rfl⟩
theorem lb_X3_readProofs : hp_LB yX3_readProofs cX3_readProofs 5 (some .boolean) 2 := ⟨hp_mu (tb_4 (List.mem_of_getElem? (i := 1) rfl)) rfl, hp_mu (tb_1 (List.mem_of_getElem? (i := 10) rfl)) rfl, by decide, by decide +kernel⟩
theorem lv_X3_readProofs : hp_LV yX3_readProofs 4 := ⟨hp_mu (tb_3 (List.mem_of_getElem? (i := 239) rfl)) rfl, hp_mu (tb_4 (List.mem_of_getElem? (i := 0) rfl)) rfl, rfl, rfl, rfl⟩
theorem lb_X3_readInclusion : hp_LB yX3_readInclusion cX3_readInclusion 5 (some .boolean) 1 := ⟨hp_mu (tb_4 (List.mem_of_getElem? (i := 9) rfl)) rfl, hp_mu (tb_1 (List.mem_of_getElem? (i := 10) rfl)) rfl, by decide, by decide +kernel⟩
theorem lv_X3_readInclusion : hp_LV yX3_readInclusion 4 := ⟨hp_mu (tb_4 (List.mem_of_getElem? (i := 8) rfl)) rfl, hp_mu (tb_0 (List.mem_of_getElem? (i := 15) rfl)) rfl, rfl, rfl, rfl⟩
theorem lb_X3_readWord : hp_LB yX3_readWord cX3_readWord 2 (some .boolean) 1 := ⟨hp_mu (tb_4 (List.mem_of_getElem? (i := 15) rfl)) rfl, hp_mu (tb_1 (List.mem_of_getElem? (i := 10) rfl)) rfl, by decide, by decide +kernel⟩
theorem lv_X3_readWord : hp_LV yX3_readWord 4 := ⟨hp_mu (tb_4 (List.mem_of_getElem? (i := 14) rfl)) rfl, hp_mu (tb_0 (List.mem_of_getElem? (i := 16) rfl)) rfl, rfl, rfl, rfl⟩
theorem lb_X3_readMark : hp_LB yX3_readMark cX3_readMark 2 (some .boolean) 1 := ⟨hp_mu (tb_4 (List.mem_of_getElem? (i := 20) rfl)) rfl, hp_mu (tb_1 (List.mem_of_getElem? (i := 10) rfl)) rfl, by decide, by decide +kernel⟩
theorem lv_X3_readMark : hp_LV yX3_readMark 4 := ⟨hp_mu (tb_4 (List.mem_of_getElem? (i := 19) rfl)) rfl, hp_mu (tb_0 (List.mem_of_getElem? (i := 17) rfl)) rfl, rfl, rfl, rfl⟩
theorem lb_X3_readRow : hp_LB yX3_readRow cX3_readRow 2 (some .boolean) 0 := ⟨hp_mu (tb_4 (List.mem_of_getElem? (i := 25) rfl)) rfl, hp_mu (tb_1 (List.mem_of_getElem? (i := 10) rfl)) rfl, by decide, by decide +kernel⟩
theorem lv_X3_readRow : hp_LV yX3_readRow 4 := ⟨hp_mu (tb_4 (List.mem_of_getElem? (i := 24) rfl)) rfl, hp_mu (tb_0 (List.mem_of_getElem? (i := 18) rfl)) rfl, rfl, rfl, rfl⟩
theorem lb_X8_toThing : hp_LB yX8_toThing cX8_toThing 7 none 2 := ⟨hp_mu (tb_4 (List.mem_of_getElem? (i := 31) rfl)) rfl, hp_mu (tb_1 (List.mem_of_getElem? (i := 4) rfl)) rfl, by decide, by decide +kernel⟩
theorem lv_X8_toThing : hp_LV yX8_toThing 9 := ⟨hp_mu (tb_4 (List.mem_of_getElem? (i := 29) rfl)) rfl, hp_mu (tb_4 (List.mem_of_getElem? (i := 30) rfl)) rfl, rfl, rfl, rfl⟩
theorem lb_X8_whyInclusion : hp_LB yX8_whyInclusion cX8_whyInclusion 5 (some .int) 4 := ⟨hp_mu (tb_4 (List.mem_of_getElem? (i := 35) rfl)) rfl, hp_mu (tb_1 (List.mem_of_getElem? (i := 4) rfl)) rfl, by decide, by decide +kernel⟩
theorem lv_X8_whyInclusion : hp_LV yX8_whyInclusion 9 := ⟨hp_mu (tb_4 (List.mem_of_getElem? (i := 33) rfl)) rfl, hp_mu (tb_4 (List.mem_of_getElem? (i := 34) rfl)) rfl, rfl, rfl, rfl⟩
theorem lb_X8_folded : hp_LB yX8_folded cX8_folded 7 (some .int) 4 := ⟨hp_mu (tb_4 (List.mem_of_getElem? (i := 39) rfl)) rfl, hp_mu (tb_1 (List.mem_of_getElem? (i := 4) rfl)) rfl, by decide, by decide +kernel⟩
theorem lv_X8_folded : hp_LV yX8_folded 9 := ⟨hp_mu (tb_4 (List.mem_of_getElem? (i := 37) rfl)) rfl, hp_mu (tb_4 (List.mem_of_getElem? (i := 38) rfl)) rfl, rfl, rfl, rfl⟩
theorem lb_X3_readGrowth : hp_LB yX3_readGrowth cX3_readGrowth 5 (some .boolean) 1 := ⟨hp_mu (tb_4 (List.mem_of_getElem? (i := 43) rfl)) rfl, hp_mu (tb_1 (List.mem_of_getElem? (i := 10) rfl)) rfl, by decide, by decide +kernel⟩
theorem lv_X3_readGrowth : hp_LV yX3_readGrowth 4 := ⟨hp_mu (tb_4 (List.mem_of_getElem? (i := 42) rfl)) rfl, hp_mu (tb_0 (List.mem_of_getElem? (i := 19) rfl)) rfl, rfl, rfl, rfl⟩
theorem lb_X5_countOf : hp_LB yX5_countOf cX5_countOf 4 (some .int) 1 := ⟨hp_mu (tb_4 (List.mem_of_getElem? (i := 48) rfl)) rfl, hp_mu (tb_1 (List.mem_of_getElem? (i := 3) rfl)) rfl, by decide, by decide +kernel⟩
theorem lv_X5_countOf : hp_LV yX5_countOf 6 := ⟨hp_mu (tb_4 (List.mem_of_getElem? (i := 46) rfl)) rfl, hp_mu (tb_4 (List.mem_of_getElem? (i := 47) rfl)) rfl, rfl, rfl, rfl⟩
theorem lb_X11_heard : hp_LB yX11_heard cX11_heard 2 (some .int) 1 := ⟨hp_mu (tb_4 (List.mem_of_getElem? (i := 53) rfl)) rfl, hp_mu (tb_1 (List.mem_of_getElem? (i := 1) rfl)) rfl, by decide, by decide +kernel⟩
theorem lv_X11_heard : hp_LV yX11_heard 12 := ⟨hp_mu (tb_4 (List.mem_of_getElem? (i := 51) rfl)) rfl, hp_mu (tb_4 (List.mem_of_getElem? (i := 52) rfl)) rfl, rfl, rfl, rfl⟩
theorem lb_X11_fault : hp_LB yX11_fault cX11_fault 2 (some .int) 1 := ⟨hp_mu (tb_4 (List.mem_of_getElem? (i := 58) rfl)) rfl, hp_mu (tb_1 (List.mem_of_getElem? (i := 1) rfl)) rfl, by decide, by decide +kernel⟩
theorem lv_X11_fault : hp_LV yX11_fault 12 := ⟨hp_mu (tb_4 (List.mem_of_getElem? (i := 56) rfl)) rfl, hp_mu (tb_4 (List.mem_of_getElem? (i := 57) rfl)) rfl, rfl, rfl, rfl⟩
theorem lb_X11_type : hp_LB yX11_type cX11_type 5 (some .int) 2 := ⟨hp_mu (tb_4 (List.mem_of_getElem? (i := 62) rfl)) rfl, hp_mu (tb_1 (List.mem_of_getElem? (i := 1) rfl)) rfl, by decide, by decide +kernel⟩
theorem lv_X11_type : hp_LV yX11_type 12 := ⟨hp_mu (tb_4 (List.mem_of_getElem? (i := 60) rfl)) rfl, hp_mu (tb_4 (List.mem_of_getElem? (i := 61) rfl)) rfl, rfl, rfl, rfl⟩
theorem lb_X11_many : hp_LB yX11_many cX11_many 2 (some .int) 1 := ⟨hp_mu (tb_4 (List.mem_of_getElem? (i := 68) rfl)) rfl, hp_mu (tb_1 (List.mem_of_getElem? (i := 1) rfl)) rfl, by decide, by decide +kernel⟩
theorem lv_X11_many : hp_LV yX11_many 12 := ⟨hp_mu (tb_4 (List.mem_of_getElem? (i := 66) rfl)) rfl, hp_mu (tb_4 (List.mem_of_getElem? (i := 67) rfl)) rfl, rfl, rfl, rfl⟩
theorem lb_X10_alarmedBits : hp_LB yX10_alarmedBits cX10_alarmedBits 4 (some .int) 0 := ⟨hp_mu (tb_4 (List.mem_of_getElem? (i := 72) rfl)) rfl, hp_mu (tb_1 (List.mem_of_getElem? (i := 2) rfl)) rfl, by decide, by decide +kernel⟩
theorem lv_X10_alarmedBits : hp_LV yX10_alarmedBits 11 := ⟨hp_mu (tb_4 (List.mem_of_getElem? (i := 70) rfl)) rfl, hp_mu (tb_4 (List.mem_of_getElem? (i := 71) rfl)) rfl, rfl, rfl, rfl⟩
theorem lb_X11_size : hp_LB yX11_size cX11_size 3 (some .int) 1 := ⟨hp_mu (tb_4 (List.mem_of_getElem? (i := 76) rfl)) rfl, hp_mu (tb_1 (List.mem_of_getElem? (i := 1) rfl)) rfl, by decide, by decide +kernel⟩
theorem lv_X11_size : hp_LV yX11_size 12 := ⟨hp_mu (tb_4 (List.mem_of_getElem? (i := 74) rfl)) rfl, hp_mu (tb_4 (List.mem_of_getElem? (i := 75) rfl)) rfl, rfl, rfl, rfl⟩
theorem lb_X11_entry : hp_LB yX11_entry cX11_entry 6 (some .int) 3 := ⟨hp_mu (tb_4 (List.mem_of_getElem? (i := 80) rfl)) rfl, hp_mu (tb_1 (List.mem_of_getElem? (i := 1) rfl)) rfl, by decide, by decide +kernel⟩
theorem lv_X11_entry : hp_LV yX11_entry 12 := ⟨hp_mu (tb_4 (List.mem_of_getElem? (i := 78) rfl)) rfl, hp_mu (tb_4 (List.mem_of_getElem? (i := 79) rfl)) rfl, rfl, rfl, rfl⟩
theorem lb_X11_head : hp_LB yX11_head cX11_head 5 (some .int) 2 := ⟨hp_mu (tb_4 (List.mem_of_getElem? (i := 87) rfl)) rfl, hp_mu (tb_1 (List.mem_of_getElem? (i := 1) rfl)) rfl, by decide, by decide +kernel⟩
theorem lv_X11_head : hp_LV yX11_head 12 := ⟨hp_mu (tb_4 (List.mem_of_getElem? (i := 85) rfl)) rfl, hp_mu (tb_4 (List.mem_of_getElem? (i := 86) rfl)) rfl, rfl, rfl, rfl⟩
theorem lb_X11_wrongGrowth : hp_LB yX11_wrongGrowth cX11_wrongGrowth 3 (some .int) 3 := ⟨hp_mu (tb_4 (List.mem_of_getElem? (i := 90) rfl)) rfl, hp_mu (tb_1 (List.mem_of_getElem? (i := 1) rfl)) rfl, by decide, by decide +kernel⟩
theorem ls_X11_wrongGrowth : Cond.static yX11_wrongGrowth ∈ lw_u := hp_mu (tb_4 (List.mem_of_getElem? (i := 89) rfl)) rfl
theorem lb_X11_join : hp_LB yX11_join cX11_join 3 (some .int) 2 := ⟨hp_mu (tb_4 (List.mem_of_getElem? (i := 95) rfl)) rfl, hp_mu (tb_1 (List.mem_of_getElem? (i := 1) rfl)) rfl, by decide, by decide +kernel⟩
theorem lv_X11_join : hp_LV yX11_join 12 := ⟨hp_mu (tb_4 (List.mem_of_getElem? (i := 93) rfl)) rfl, hp_mu (tb_4 (List.mem_of_getElem? (i := 94) rfl)) rfl, rfl, rfl, rfl⟩
theorem lb_X11_isMark : hp_LB yX11_isMark cX11_isMark 2 (some .boolean) 1 := ⟨hp_mu (tb_4 (List.mem_of_getElem? (i := 99) rfl)) rfl, hp_mu (tb_1 (List.mem_of_getElem? (i := 1) rfl)) rfl, by decide, by decide +kernel⟩
theorem lv_X11_isMark : hp_LV yX11_isMark 12 := ⟨hp_mu (tb_4 (List.mem_of_getElem? (i := 98) rfl)) rfl, hp_mu (tb_0 (List.mem_of_getElem? (i := 20) rfl)) rfl, rfl, rfl, rfl⟩
theorem lb_X11_mark : hp_LB yX11_mark cX11_mark 1 (some .int) 0 := ⟨hp_mu (tb_4 (List.mem_of_getElem? (i := 104) rfl)) rfl, hp_mu (tb_1 (List.mem_of_getElem? (i := 1) rfl)) rfl, by decide, by decide +kernel⟩
theorem lv_X11_mark : hp_LV yX11_mark 12 := ⟨hp_mu (tb_4 (List.mem_of_getElem? (i := 102) rfl)) rfl, hp_mu (tb_4 (List.mem_of_getElem? (i := 103) rfl)) rfl, rfl, rfl, rfl⟩
theorem lb_X11_frozen : hp_LB yX11_frozen cX11_frozen 4 (some .int) 2 := ⟨hp_mu (tb_4 (List.mem_of_getElem? (i := 109) rfl)) rfl, hp_mu (tb_1 (List.mem_of_getElem? (i := 1) rfl)) rfl, by decide, by decide +kernel⟩
theorem lv_X11_frozen : hp_LV yX11_frozen 12 := ⟨hp_mu (tb_4 (List.mem_of_getElem? (i := 107) rfl)) rfl, hp_mu (tb_4 (List.mem_of_getElem? (i := 108) rfl)) rfl, rfl, rfl, rfl⟩
theorem lb_X10_frozenAt : hp_LB yX10_frozenAt cX10_frozenAt 2 (some (.object "ProvenRecord$Frozen")) 1 := ⟨hp_mu (tb_4 (List.mem_of_getElem? (i := 113) rfl)) rfl, hp_mu (tb_1 (List.mem_of_getElem? (i := 2) rfl)) rfl, by decide, by decide +kernel⟩
theorem lv_X10_frozenAt : hp_LV yX10_frozenAt 11 := ⟨hp_mu (tb_4 (List.mem_of_getElem? (i := 111) rfl)) rfl, hp_mu (tb_4 (List.mem_of_getElem? (i := 112) rfl)) rfl, rfl, rfl, rfl⟩
theorem lb_X10_isSound : hp_LB yX10_isSound cX10_isSound 2 (some .boolean) 1 := ⟨hp_mu (tb_4 (List.mem_of_getElem? (i := 117) rfl)) rfl, hp_mu (tb_1 (List.mem_of_getElem? (i := 2) rfl)) rfl, by decide, by decide +kernel⟩
theorem lv_X10_isSound : hp_LV yX10_isSound 11 := ⟨hp_mu (tb_4 (List.mem_of_getElem? (i := 115) rfl)) rfl, hp_mu (tb_4 (List.mem_of_getElem? (i := 116) rfl)) rfl, rfl, rfl, rfl⟩
theorem lb_X10_hasHead : hp_LB yX10_hasHead cX10_hasHead 4 (some .boolean) 3 := ⟨hp_mu (tb_4 (List.mem_of_getElem? (i := 121) rfl)) rfl, hp_mu (tb_1 (List.mem_of_getElem? (i := 2) rfl)) rfl, by decide, by decide +kernel⟩
theorem lv_X10_hasHead : hp_LV yX10_hasHead 11 := ⟨hp_mu (tb_4 (List.mem_of_getElem? (i := 119) rfl)) rfl, hp_mu (tb_4 (List.mem_of_getElem? (i := 120) rfl)) rfl, rfl, rfl, rfl⟩
theorem lb_X11_watcher : hp_LB yX11_watcher cX11_watcher 4 (some .int) 2 := ⟨hp_mu (tb_4 (List.mem_of_getElem? (i := 125) rfl)) rfl, hp_mu (tb_1 (List.mem_of_getElem? (i := 1) rfl)) rfl, by decide, by decide +kernel⟩
theorem lv_X11_watcher : hp_LV yX11_watcher 12 := ⟨hp_mu (tb_4 (List.mem_of_getElem? (i := 123) rfl)) rfl, hp_mu (tb_4 (List.mem_of_getElem? (i := 124) rfl)) rfl, rfl, rfl, rfl⟩
theorem lb_X11_add : hp_LB yX11_add cX11_add 3 (some .int) 1 := ⟨hp_mu (tb_4 (List.mem_of_getElem? (i := 129) rfl)) rfl, hp_mu (tb_1 (List.mem_of_getElem? (i := 1) rfl)) rfl, by decide, by decide +kernel⟩
theorem lv_X11_add : hp_LV yX11_add 12 := ⟨hp_mu (tb_4 (List.mem_of_getElem? (i := 127) rfl)) rfl, hp_mu (tb_4 (List.mem_of_getElem? (i := 128) rfl)) rfl, rfl, rfl, rfl⟩
theorem lb_X11_fork : hp_LB yX11_fork cX11_fork 4 (some .int) 2 := ⟨hp_mu (tb_4 (List.mem_of_getElem? (i := 133) rfl)) rfl, hp_mu (tb_1 (List.mem_of_getElem? (i := 1) rfl)) rfl, by decide, by decide +kernel⟩
theorem lv_X11_fork : hp_LV yX11_fork 12 := ⟨hp_mu (tb_4 (List.mem_of_getElem? (i := 131) rfl)) rfl, hp_mu (tb_4 (List.mem_of_getElem? (i := 132) rfl)) rfl, rfl, rfl, rfl⟩
theorem lb_X11_freeze : hp_LB yX11_freeze cX11_freeze 2 (some .int) 1 := ⟨hp_mu (tb_4 (List.mem_of_getElem? (i := 137) rfl)) rfl, hp_mu (tb_1 (List.mem_of_getElem? (i := 1) rfl)) rfl, by decide, by decide +kernel⟩
theorem lv_X11_freeze : hp_LV yX11_freeze 12 := ⟨hp_mu (tb_4 (List.mem_of_getElem? (i := 135) rfl)) rfl, hp_mu (tb_4 (List.mem_of_getElem? (i := 136) rfl)) rfl, rfl, rfl, rfl⟩
theorem lb_X11_show : hp_LB yX11_show cX11_show 6 (some .int) 3 := ⟨hp_mu (tb_4 (List.mem_of_getElem? (i := 141) rfl)) rfl, hp_mu (tb_1 (List.mem_of_getElem? (i := 1) rfl)) rfl, by decide, by decide +kernel⟩
theorem lv_X11_show : hp_LV yX11_show 12 := ⟨hp_mu (tb_4 (List.mem_of_getElem? (i := 139) rfl)) rfl, hp_mu (tb_4 (List.mem_of_getElem? (i := 140) rfl)) rfl, rfl, rfl, rfl⟩
theorem lb_X11_meet : hp_LB yX11_meet cX11_meet 7 (some .int) 3 := ⟨hp_mu (tb_4 (List.mem_of_getElem? (i := 145) rfl)) rfl, hp_mu (tb_1 (List.mem_of_getElem? (i := 1) rfl)) rfl, by decide, by decide +kernel⟩
theorem lv_X11_meet : hp_LV yX11_meet 12 := ⟨hp_mu (tb_4 (List.mem_of_getElem? (i := 143) rfl)) rfl, hp_mu (tb_4 (List.mem_of_getElem? (i := 144) rfl)) rfl, rfl, rfl, rfl⟩
theorem lb_X10_meetBy : hp_LB yX10_meetBy cX10_meetBy 8 (some .int) 3 := ⟨hp_mu (tb_4 (List.mem_of_getElem? (i := 149) rfl)) rfl, hp_mu (tb_1 (List.mem_of_getElem? (i := 2) rfl)) rfl, by decide, by decide +kernel⟩
theorem lv_X10_meetBy : hp_LV yX10_meetBy 11 := ⟨hp_mu (tb_4 (List.mem_of_getElem? (i := 147) rfl)) rfl, hp_mu (tb_4 (List.mem_of_getElem? (i := 148) rfl)) rfl, rfl, rfl, rfl⟩
theorem lb_X11_spoil : hp_LB yX11_spoil cX11_spoil 8 (some .int) 4 := ⟨hp_mu (tb_4 (List.mem_of_getElem? (i := 153) rfl)) rfl, hp_mu (tb_1 (List.mem_of_getElem? (i := 1) rfl)) rfl, by decide, by decide +kernel⟩
theorem lv_X11_spoil : hp_LV yX11_spoil 12 := ⟨hp_mu (tb_4 (List.mem_of_getElem? (i := 151) rfl)) rfl, hp_mu (tb_4 (List.mem_of_getElem? (i := 152) rfl)) rfl, rfl, rfl, rfl⟩
theorem lb_X10_spoilLetter : hp_LB yX10_spoilLetter cX10_spoilLetter 5 none 4 := ⟨hp_mu (tb_4 (List.mem_of_getElem? (i := 157) rfl)) rfl, hp_mu (tb_1 (List.mem_of_getElem? (i := 2) rfl)) rfl, by decide, by decide +kernel⟩
theorem lv_X10_spoilLetter : hp_LV yX10_spoilLetter 11 := ⟨hp_mu (tb_4 (List.mem_of_getElem? (i := 155) rfl)) rfl, hp_mu (tb_4 (List.mem_of_getElem? (i := 156) rfl)) rfl, rfl, rfl, rfl⟩
theorem lb_X2_changeLetter : hp_LB yX2_changeLetter cX2_changeLetter 6 none 4 := ⟨hp_mu (tb_4 (List.mem_of_getElem? (i := 161) rfl)) rfl, hp_mu (tb_1 (List.mem_of_getElem? (i := 5) rfl)) rfl, by decide, by decide +kernel⟩
theorem lv_X2_changeLetter : hp_LV yX2_changeLetter 3 := ⟨hp_mu (tb_4 (List.mem_of_getElem? (i := 159) rfl)) rfl, hp_mu (tb_4 (List.mem_of_getElem? (i := 160) rfl)) rfl, rfl, rfl, rfl⟩
theorem lb_X9_change : hp_LB yX9_change cX9_change 3 none 2 := ⟨hp_mu (tb_4 (List.mem_of_getElem? (i := 166) rfl)) rfl, hp_mu (tb_1 (List.mem_of_getElem? (i := 6) rfl)) rfl, by decide, by decide +kernel⟩
theorem lv_X9_change : hp_LV yX9_change 10 := ⟨hp_mu (tb_4 (List.mem_of_getElem? (i := 164) rfl)) rfl, hp_mu (tb_4 (List.mem_of_getElem? (i := 165) rfl)) rfl, rfl, rfl, rfl⟩
theorem lb_X11_push : hp_LB yX11_push cX11_push 2 (some .int) 1 := ⟨hp_mu (tb_4 (List.mem_of_getElem? (i := 170) rfl)) rfl, hp_mu (tb_1 (List.mem_of_getElem? (i := 1) rfl)) rfl, by decide, by decide +kernel⟩
theorem lv_X11_push : hp_LV yX11_push 12 := ⟨hp_mu (tb_4 (List.mem_of_getElem? (i := 168) rfl)) rfl, hp_mu (tb_4 (List.mem_of_getElem? (i := 169) rfl)) rfl, rfl, rfl, rfl⟩
theorem lb_X11_poke : hp_LB yX11_poke cX11_poke 4 (some .int) 2 := ⟨hp_mu (tb_4 (List.mem_of_getElem? (i := 175) rfl)) rfl, hp_mu (tb_1 (List.mem_of_getElem? (i := 1) rfl)) rfl, by decide, by decide +kernel⟩
theorem lv_X11_poke : hp_LV yX11_poke 12 := ⟨hp_mu (tb_4 (List.mem_of_getElem? (i := 173) rfl)) rfl, hp_mu (tb_4 (List.mem_of_getElem? (i := 174) rfl)) rfl, rfl, rfl, rfl⟩
theorem lb_X5_change : hp_LB yX5_change cX5_change 3 none 2 := ⟨hp_mu (tb_4 (List.mem_of_getElem? (i := 179) rfl)) rfl, hp_mu (tb_1 (List.mem_of_getElem? (i := 3) rfl)) rfl, by decide, by decide +kernel⟩
theorem lv_X5_change : hp_LV yX5_change 6 := ⟨hp_mu (tb_4 (List.mem_of_getElem? (i := 177) rfl)) rfl, hp_mu (tb_4 (List.mem_of_getElem? (i := 178) rfl)) rfl, rfl, rfl, rfl⟩
theorem lb_X11_pad : hp_LB yX11_pad cX11_pad 2 (some .int) 1 := ⟨hp_mu (tb_4 (List.mem_of_getElem? (i := 183) rfl)) rfl, hp_mu (tb_1 (List.mem_of_getElem? (i := 1) rfl)) rfl, by decide, by decide +kernel⟩
theorem lv_X11_pad : hp_LV yX11_pad 12 := ⟨hp_mu (tb_4 (List.mem_of_getElem? (i := 181) rfl)) rfl, hp_mu (tb_4 (List.mem_of_getElem? (i := 182) rfl)) rfl, rfl, rfl, rfl⟩
theorem lb_X11_cut : hp_LB yX11_cut cX11_cut 2 (some .int) 1 := ⟨hp_mu (tb_4 (List.mem_of_getElem? (i := 187) rfl)) rfl, hp_mu (tb_1 (List.mem_of_getElem? (i := 1) rfl)) rfl, by decide, by decide +kernel⟩
theorem lv_X11_cut : hp_LV yX11_cut 12 := ⟨hp_mu (tb_4 (List.mem_of_getElem? (i := 185) rfl)) rfl, hp_mu (tb_4 (List.mem_of_getElem? (i := 186) rfl)) rfl, rfl, rfl, rfl⟩
theorem lb_X11_include : hp_LB yX11_include cX11_include 6 (some .int) 3 := ⟨hp_mu (tb_4 (List.mem_of_getElem? (i := 191) rfl)) rfl, hp_mu (tb_1 (List.mem_of_getElem? (i := 1) rfl)) rfl, by decide, by decide +kernel⟩
theorem lv_X11_include : hp_LV yX11_include 12 := ⟨hp_mu (tb_4 (List.mem_of_getElem? (i := 189) rfl)) rfl, hp_mu (tb_4 (List.mem_of_getElem? (i := 190) rfl)) rfl, rfl, rfl, rfl⟩
theorem lb_X11_wrongInclusion : hp_LB yX11_wrongInclusion cX11_wrongInclusion 3 (some .int) 3 := ⟨hp_mu (tb_4 (List.mem_of_getElem? (i := 194) rfl)) rfl, hp_mu (tb_1 (List.mem_of_getElem? (i := 1) rfl)) rfl, by decide, by decide +kernel⟩
theorem ls_X11_wrongInclusion : Cond.static yX11_wrongInclusion ∈ lw_u := hp_mu (tb_4 (List.mem_of_getElem? (i := 193) rfl)) rfl
theorem lb_X11_grow : hp_LB yX11_grow cX11_grow 6 (some .int) 3 := ⟨hp_mu (tb_4 (List.mem_of_getElem? (i := 200) rfl)) rfl, hp_mu (tb_1 (List.mem_of_getElem? (i := 1) rfl)) rfl, by decide, by decide +kernel⟩
theorem lv_X11_grow : hp_LV yX11_grow 12 := ⟨hp_mu (tb_4 (List.mem_of_getElem? (i := 198) rfl)) rfl, hp_mu (tb_4 (List.mem_of_getElem? (i := 199) rfl)) rfl, rfl, rfl, rfl⟩
theorem lb_X11_bundle : hp_LB yX11_bundle cX11_bundle 5 (some .int) 3 := ⟨hp_mu (tb_4 (List.mem_of_getElem? (i := 205) rfl)) rfl, hp_mu (tb_1 (List.mem_of_getElem? (i := 1) rfl)) rfl, by decide, by decide +kernel⟩
theorem lv_X11_bundle : hp_LV yX11_bundle 12 := ⟨hp_mu (tb_4 (List.mem_of_getElem? (i := 203) rfl)) rfl, hp_mu (tb_4 (List.mem_of_getElem? (i := 204) rfl)) rfl, rfl, rfl, rfl⟩
theorem lb_X11_isSet : hp_LB yX11_isSet cX11_isSet 1 (some .boolean) 1 := ⟨hp_mu (tb_4 (List.mem_of_getElem? (i := 208) rfl)) rfl, hp_mu (tb_1 (List.mem_of_getElem? (i := 1) rfl)) rfl, by decide, by decide +kernel⟩
theorem ls_X11_isSet : Cond.static yX11_isSet ∈ lw_u := hp_mu (tb_4 (List.mem_of_getElem? (i := 207) rfl)) rfl
theorem lb_X11_lieBelow : hp_LB yX11_lieBelow cX11_lieBelow 2 (some .boolean) 2 := ⟨hp_mu (tb_4 (List.mem_of_getElem? (i := 211) rfl)) rfl, hp_mu (tb_1 (List.mem_of_getElem? (i := 1) rfl)) rfl, by decide, by decide +kernel⟩
theorem ls_X11_lieBelow : Cond.static yX11_lieBelow ∈ lw_u := hp_mu (tb_4 (List.mem_of_getElem? (i := 210) rfl)) rfl
theorem lb_X8_toBundle : hp_LB yX8_toBundle cX8_toBundle 5 none 2 := ⟨hp_mu (tb_4 (List.mem_of_getElem? (i := 217) rfl)) rfl, hp_mu (tb_1 (List.mem_of_getElem? (i := 4) rfl)) rfl, by decide, by decide +kernel⟩
theorem lv_X8_toBundle : hp_LV yX8_toBundle 9 := ⟨hp_mu (tb_4 (List.mem_of_getElem? (i := 215) rfl)) rfl, hp_mu (tb_4 (List.mem_of_getElem? (i := 216) rfl)) rfl, rfl, rfl, rfl⟩
theorem lb_X11_hasOneOf : hp_LB yX11_hasOneOf cX11_hasOneOf 4 (some .boolean) 3 := ⟨hp_mu (tb_4 (List.mem_of_getElem? (i := 220) rfl)) rfl, hp_mu (tb_1 (List.mem_of_getElem? (i := 1) rfl)) rfl, by decide, by decide +kernel⟩
theorem ls_X11_hasOneOf : Cond.static yX11_hasOneOf ∈ lw_u := hp_mu (tb_4 (List.mem_of_getElem? (i := 219) rfl)) rfl
theorem lb_X8_putGreatestWithout : hp_LB yX8_putGreatestWithout cX8_putGreatestWithout 8 (some .int) 3 := ⟨hp_mu (tb_4 (List.mem_of_getElem? (i := 224) rfl)) rfl, hp_mu (tb_1 (List.mem_of_getElem? (i := 4) rfl)) rfl, by decide, by decide +kernel⟩
theorem lv_X8_putGreatestWithout : hp_LV yX8_putGreatestWithout 9 := ⟨hp_mu (tb_4 (List.mem_of_getElem? (i := 223) rfl)) rfl, hp_mu (tb_0 (List.mem_of_getElem? (i := 21) rfl)) rfl, rfl, rfl, rfl⟩
theorem lb_X11_peaks : hp_LB yX11_peaks cX11_peaks 5 (some .int) 2 := ⟨hp_mu (tb_4 (List.mem_of_getElem? (i := 228) rfl)) rfl, hp_mu (tb_1 (List.mem_of_getElem? (i := 1) rfl)) rfl, by decide, by decide +kernel⟩
theorem lv_X11_peaks : hp_LV yX11_peaks 12 := ⟨hp_mu (tb_4 (List.mem_of_getElem? (i := 226) rfl)) rfl, hp_mu (tb_4 (List.mem_of_getElem? (i := 227) rfl)) rfl, rfl, rfl, rfl⟩
theorem lb_X11_extend : hp_LB yX11_extend cX11_extend 3 (some .int) 2 := ⟨hp_mu (tb_4 (List.mem_of_getElem? (i := 233) rfl)) rfl, hp_mu (tb_1 (List.mem_of_getElem? (i := 1) rfl)) rfl, by decide, by decide +kernel⟩
theorem lv_X11_extend : hp_LV yX11_extend 12 := ⟨hp_mu (tb_4 (List.mem_of_getElem? (i := 231) rfl)) rfl, hp_mu (tb_4 (List.mem_of_getElem? (i := 232) rfl)) rfl, rfl, rfl, rfl⟩
theorem lb_J6_bitCount_0f7a4 : hp_LB yJ6_bitCount_0f7a4 cJ6_bitCount_0f7a4 1 (some .int) 1 := ⟨hp_mu (tb_4 (List.mem_of_getElem? (i := 237) rfl)) rfl, hp_mu (tb_1 (List.mem_of_getElem? (i := 18) rfl)) rfl, by decide, by decide +kernel⟩
theorem ls_J6_bitCount_0f7a4 : Cond.static yJ6_bitCount_0f7a4 ∈ lw_u := hp_mu (tb_4 (List.mem_of_getElem? (i := 236) rfl)) rfl
theorem lb_X5_putPeak : hp_LB yX5_putPeak cX5_putPeak 7 none 3 := ⟨hp_mu (tb_5 (List.mem_of_getElem? (i := 4) rfl)) rfl, hp_mu (tb_1 (List.mem_of_getElem? (i := 3) rfl)) rfl, by decide, by decide +kernel⟩
theorem lv_X5_putPeak : hp_LV yX5_putPeak 6 := ⟨hp_mu (tb_5 (List.mem_of_getElem? (i := 2) rfl)) rfl, hp_mu (tb_5 (List.mem_of_getElem? (i := 3) rfl)) rfl, rfl, rfl, rfl⟩
theorem lb_X11_checks : hp_LB yX11_checks cX11_checks 5 (some .int) 4 := ⟨hp_mu (tb_5 (List.mem_of_getElem? (i := 11) rfl)) rfl, hp_mu (tb_1 (List.mem_of_getElem? (i := 1) rfl)) rfl, by decide, by decide +kernel⟩
theorem lv_X11_checks : hp_LV yX11_checks 12 := ⟨hp_mu (tb_5 (List.mem_of_getElem? (i := 9) rfl)) rfl, hp_mu (tb_5 (List.mem_of_getElem? (i := 10) rfl)) rfl, rfl, rfl, rfl⟩
theorem lb_X11_isThing : hp_LB yX11_isThing cX11_isThing 2 (some .boolean) 2 := ⟨hp_mu (tb_5 (List.mem_of_getElem? (i := 14) rfl)) rfl, hp_mu (tb_1 (List.mem_of_getElem? (i := 1) rfl)) rfl, by decide, by decide +kernel⟩
theorem ls_X11_isThing : Cond.static yX11_isThing ∈ lw_u := hp_mu (tb_5 (List.mem_of_getElem? (i := 13) rfl)) rfl
theorem lb_X11_growth : hp_LB yX11_growth cX11_growth 5 (some .int) 4 := ⟨hp_mu (tb_5 (List.mem_of_getElem? (i := 19) rfl)) rfl, hp_mu (tb_1 (List.mem_of_getElem? (i := 1) rfl)) rfl, by decide, by decide +kernel⟩
theorem lv_X11_growth : hp_LV yX11_growth 12 := ⟨hp_mu (tb_5 (List.mem_of_getElem? (i := 17) rfl)) rfl, hp_mu (tb_5 (List.mem_of_getElem? (i := 18) rfl)) rfl, rfl, rfl, rfl⟩
theorem lb_X11_bundled : hp_LB yX11_bundled cX11_bundled 4 (some .int) 3 := ⟨hp_mu (tb_5 (List.mem_of_getElem? (i := 24) rfl)) rfl, hp_mu (tb_1 (List.mem_of_getElem? (i := 1) rfl)) rfl, by decide, by decide +kernel⟩
theorem lv_X11_bundled : hp_LV yX11_bundled 12 := ⟨hp_mu (tb_5 (List.mem_of_getElem? (i := 22) rfl)) rfl, hp_mu (tb_5 (List.mem_of_getElem? (i := 23) rfl)) rfl, rfl, rfl, rfl⟩
theorem lb_X0_why : hp_LB yX0_why cX0_why 8 (some .int) 6 := ⟨hp_mu (tb_5 (List.mem_of_getElem? (i := 28) rfl)) rfl, hp_mu (tb_1 (List.mem_of_getElem? (i := 9) rfl)) rfl, by decide, by decide +kernel⟩
theorem lv_X0_why : hp_LV yX0_why 1 := ⟨hp_mu (tb_5 (List.mem_of_getElem? (i := 26) rfl)) rfl, hp_mu (tb_5 (List.mem_of_getElem? (i := 27) rfl)) rfl, rfl, rfl, rfl⟩
theorem lb_X0_foldedTree : hp_LB yX0_foldedTree cX0_foldedTree 7 (some .int) 4 := ⟨hp_mu (tb_5 (List.mem_of_getElem? (i := 32) rfl)) rfl, hp_mu (tb_1 (List.mem_of_getElem? (i := 9) rfl)) rfl, by decide, by decide +kernel⟩
theorem ls_X0_foldedTree : Cond.static yX0_foldedTree ∈ lw_u := hp_mu (tb_5 (List.mem_of_getElem? (i := 31) rfl)) rfl
theorem lb_X11_fold : hp_LB yX11_fold cX11_fold 1 (some .int) 0 := ⟨hp_mu (tb_5 (List.mem_of_getElem? (i := 40) rfl)) rfl, hp_mu (tb_1 (List.mem_of_getElem? (i := 1) rfl)) rfl, by decide, by decide +kernel⟩
theorem lv_X11_fold : hp_LV yX11_fold 12 := ⟨hp_mu (tb_5 (List.mem_of_getElem? (i := 38) rfl)) rfl, hp_mu (tb_5 (List.mem_of_getElem? (i := 39) rfl)) rfl, rfl, rfl, rfl⟩
theorem lb_X5_foldedPeaks : hp_LB yX5_foldedPeaks cX5_foldedPeaks 4 (some .int) 1 := ⟨hp_mu (tb_5 (List.mem_of_getElem? (i := 44) rfl)) rfl, hp_mu (tb_1 (List.mem_of_getElem? (i := 3) rfl)) rfl, by decide, by decide +kernel⟩
theorem lv_X5_foldedPeaks : hp_LV yX5_foldedPeaks 6 := ⟨hp_mu (tb_5 (List.mem_of_getElem? (i := 42) rfl)) rfl, hp_mu (tb_5 (List.mem_of_getElem? (i := 43) rfl)) rfl, rfl, rfl, rfl⟩
theorem lb_X11_steps : hp_LB yX11_steps cX11_steps 3 (some .int) 2 := ⟨hp_mu (tb_5 (List.mem_of_getElem? (i := 48) rfl)) rfl, hp_mu (tb_1 (List.mem_of_getElem? (i := 1) rfl)) rfl, by decide, by decide +kernel⟩
theorem lv_X11_steps : hp_LV yX11_steps 12 := ⟨hp_mu (tb_5 (List.mem_of_getElem? (i := 46) rfl)) rfl, hp_mu (tb_5 (List.mem_of_getElem? (i := 47) rfl)) rfl, rfl, rfl, rfl⟩
theorem lb_X11_climbs : hp_LB yX11_climbs cX11_climbs 3 (some .int) 2 := ⟨hp_mu (tb_5 (List.mem_of_getElem? (i := 52) rfl)) rfl, hp_mu (tb_1 (List.mem_of_getElem? (i := 1) rfl)) rfl, by decide, by decide +kernel⟩
theorem lv_X11_climbs : hp_LV yX11_climbs 12 := ⟨hp_mu (tb_5 (List.mem_of_getElem? (i := 50) rfl)) rfl, hp_mu (tb_5 (List.mem_of_getElem? (i := 51) rfl)) rfl, rfl, rfl, rfl⟩
theorem lb_X11_agree : hp_LB yX11_agree cX11_agree 5 (some .int) 2 := ⟨hp_mu (tb_5 (List.mem_of_getElem? (i := 56) rfl)) rfl, hp_mu (tb_1 (List.mem_of_getElem? (i := 1) rfl)) rfl, by decide, by decide +kernel⟩
theorem lv_X11_agree : hp_LV yX11_agree 12 := ⟨hp_mu (tb_5 (List.mem_of_getElem? (i := 54) rfl)) rfl, hp_mu (tb_5 (List.mem_of_getElem? (i := 55) rfl)) rfl, rfl, rfl, rfl⟩
theorem lb_X10_doAgree : hp_LB yX10_doAgree cX10_doAgree 5 (some .boolean) 2 := ⟨hp_mu (tb_5 (List.mem_of_getElem? (i := 60) rfl)) rfl, hp_mu (tb_1 (List.mem_of_getElem? (i := 2) rfl)) rfl, by decide, by decide +kernel⟩
theorem lv_X10_doAgree : hp_LV yX10_doAgree 11 := ⟨hp_mu (tb_5 (List.mem_of_getElem? (i := 58) rfl)) rfl, hp_mu (tb_5 (List.mem_of_getElem? (i := 59) rfl)) rfl, rfl, rfl, rfl⟩
theorem lb_X11_where : hp_LB yX11_where cX11_where 5 (some .int) 2 := ⟨hp_mu (tb_5 (List.mem_of_getElem? (i := 64) rfl)) rfl, hp_mu (tb_1 (List.mem_of_getElem? (i := 1) rfl)) rfl, by decide, by decide +kernel⟩
theorem lv_X11_where : hp_LV yX11_where 12 := ⟨hp_mu (tb_5 (List.mem_of_getElem? (i := 62) rfl)) rfl, hp_mu (tb_5 (List.mem_of_getElem? (i := 63) rfl)) rfl, rfl, rfl, rfl⟩
theorem lb_X2_countLike : hp_LB yX2_countLike cX2_countLike 5 (some .int) 1 := ⟨hp_mu (tb_5 (List.mem_of_getElem? (i := 68) rfl)) rfl, hp_mu (tb_1 (List.mem_of_getElem? (i := 5) rfl)) rfl, by decide, by decide +kernel⟩
theorem lv_X2_countLike : hp_LV yX2_countLike 3 := ⟨hp_mu (tb_5 (List.mem_of_getElem? (i := 66) rfl)) rfl, hp_mu (tb_5 (List.mem_of_getElem? (i := 67) rfl)) rfl, rfl, rfl, rfl⟩
theorem lb_X9_isLike : hp_LB yX9_isLike cX9_isLike 4 (some .boolean) 1 := ⟨hp_mu (tb_5 (List.mem_of_getElem? (i := 72) rfl)) rfl, hp_mu (tb_1 (List.mem_of_getElem? (i := 6) rfl)) rfl, by decide, by decide +kernel⟩
theorem lv_X9_isLike : hp_LV yX9_isLike 10 := ⟨hp_mu (tb_5 (List.mem_of_getElem? (i := 70) rfl)) rfl, hp_mu (tb_5 (List.mem_of_getElem? (i := 71) rfl)) rfl, rfl, rfl, rfl⟩
theorem lb_X2_firstLike : hp_LB yX2_firstLike cX2_firstLike 4 (some .int) 1 := ⟨hp_mu (tb_5 (List.mem_of_getElem? (i := 76) rfl)) rfl, hp_mu (tb_1 (List.mem_of_getElem? (i := 5) rfl)) rfl, by decide, by decide +kernel⟩
theorem lv_X2_firstLike : hp_LV yX2_firstLike 3 := ⟨hp_mu (tb_5 (List.mem_of_getElem? (i := 74) rfl)) rfl, hp_mu (tb_5 (List.mem_of_getElem? (i := 75) rfl)) rfl, rfl, rfl, rfl⟩
theorem lb_X11_tree : hp_LB yX11_tree cX11_tree 7 (some .int) 4 := ⟨hp_mu (tb_5 (List.mem_of_getElem? (i := 80) rfl)) rfl, hp_mu (tb_1 (List.mem_of_getElem? (i := 1) rfl)) rfl, by decide, by decide +kernel⟩
theorem lv_X11_tree : hp_LV yX11_tree 12 := ⟨hp_mu (tb_5 (List.mem_of_getElem? (i := 78) rfl)) rfl, hp_mu (tb_5 (List.mem_of_getElem? (i := 79) rfl)) rfl, rfl, rfl, rfl⟩
theorem lb_X8_toTree : hp_LB yX8_toTree cX8_toTree 8 none 2 := ⟨hp_mu (tb_5 (List.mem_of_getElem? (i := 84) rfl)) rfl, hp_mu (tb_1 (List.mem_of_getElem? (i := 4) rfl)) rfl, by decide, by decide +kernel⟩
theorem lv_X8_toTree : hp_LV yX8_toTree 9 := ⟨hp_mu (tb_5 (List.mem_of_getElem? (i := 82) rfl)) rfl, hp_mu (tb_5 (List.mem_of_getElem? (i := 83) rfl)) rfl, rfl, rfl, rfl⟩
theorem lb_X11_proves : hp_LB yX11_proves cX11_proves 6 (some .int) 2 := ⟨hp_mu (tb_5 (List.mem_of_getElem? (i := 91) rfl)) rfl, hp_mu (tb_1 (List.mem_of_getElem? (i := 1) rfl)) rfl, by decide, by decide +kernel⟩
theorem lv_X11_proves : hp_LV yX11_proves 12 := ⟨hp_mu (tb_5 (List.mem_of_getElem? (i := 89) rfl)) rfl, hp_mu (tb_5 (List.mem_of_getElem? (i := 90) rfl)) rfl, rfl, rfl, rfl⟩
theorem lb_X11_longest : hp_LB yX11_longest cX11_longest 7 (some .int) 2 := ⟨hp_mu (tb_5 (List.mem_of_getElem? (i := 96) rfl)) rfl, hp_mu (tb_1 (List.mem_of_getElem? (i := 1) rfl)) rfl, by decide, by decide +kernel⟩
theorem lv_X11_longest : hp_LV yX11_longest 12 := ⟨hp_mu (tb_5 (List.mem_of_getElem? (i := 94) rfl)) rfl, hp_mu (tb_5 (List.mem_of_getElem? (i := 95) rfl)) rfl, rfl, rfl, rfl⟩
theorem lb_X11_part : hp_LB yX11_part cX11_part 6 (some .int) 3 := ⟨hp_mu (tb_5 (List.mem_of_getElem? (i := 100) rfl)) rfl, hp_mu (tb_1 (List.mem_of_getElem? (i := 1) rfl)) rfl, by decide, by decide +kernel⟩
theorem lv_X11_part : hp_LV yX11_part 12 := ⟨hp_mu (tb_5 (List.mem_of_getElem? (i := 98) rfl)) rfl, hp_mu (tb_5 (List.mem_of_getElem? (i := 99) rfl)) rfl, rfl, rfl, rfl⟩
theorem lb_X10_partingEntry : hp_LB yX10_partingEntry cX10_partingEntry 4 (some .int) 2 := ⟨hp_mu (tb_5 (List.mem_of_getElem? (i := 104) rfl)) rfl, hp_mu (tb_1 (List.mem_of_getElem? (i := 2) rfl)) rfl, by decide, by decide +kernel⟩
theorem lv_X10_partingEntry : hp_LV yX10_partingEntry 11 := ⟨hp_mu (tb_5 (List.mem_of_getElem? (i := 102) rfl)) rfl, hp_mu (tb_5 (List.mem_of_getElem? (i := 103) rfl)) rfl, rfl, rfl, rfl⟩
theorem lb_X10_partingTrees : hp_LB yX10_partingTrees cX10_partingTrees 10 (some .int) 4 := ⟨hp_mu (tb_5 (List.mem_of_getElem? (i := 108) rfl)) rfl, hp_mu (tb_1 (List.mem_of_getElem? (i := 2) rfl)) rfl, by decide, by decide +kernel⟩
theorem lv_X10_partingTrees : hp_LV yX10_partingTrees 11 := ⟨hp_mu (tb_5 (List.mem_of_getElem? (i := 107) rfl)) rfl, hp_mu (tb_0 (List.mem_of_getElem? (i := 22) rfl)) rfl, rfl, rfl, rfl⟩
theorem lb_X10_partingCompared : hp_LB yX10_partingCompared cX10_partingCompared 4 (some .int) 2 := ⟨hp_mu (tb_5 (List.mem_of_getElem? (i := 113) rfl)) rfl, hp_mu (tb_1 (List.mem_of_getElem? (i := 2) rfl)) rfl, by decide, by decide +kernel⟩
theorem lv_X10_partingCompared : hp_LV yX10_partingCompared 11 := ⟨hp_mu (tb_5 (List.mem_of_getElem? (i := 111) rfl)) rfl, hp_mu (tb_5 (List.mem_of_getElem? (i := 112) rfl)) rfl, rfl, rfl, rfl⟩
theorem lb_X11_blame : hp_LB yX11_blame cX11_blame 4 (some .int) 2 := ⟨hp_mu (tb_5 (List.mem_of_getElem? (i := 117) rfl)) rfl, hp_mu (tb_1 (List.mem_of_getElem? (i := 1) rfl)) rfl, by decide, by decide +kernel⟩
theorem lv_X11_blame : hp_LV yX11_blame 12 := ⟨hp_mu (tb_5 (List.mem_of_getElem? (i := 115) rfl)) rfl, hp_mu (tb_5 (List.mem_of_getElem? (i := 116) rfl)) rfl, rfl, rfl, rfl⟩
theorem lb_X10_countUnsound : hp_LB yX10_countUnsound cX10_countUnsound 5 (some .int) 1 := ⟨hp_mu (tb_5 (List.mem_of_getElem? (i := 121) rfl)) rfl, hp_mu (tb_1 (List.mem_of_getElem? (i := 2) rfl)) rfl, by decide, by decide +kernel⟩
theorem lv_X10_countUnsound : hp_LV yX10_countUnsound 11 := ⟨hp_mu (tb_5 (List.mem_of_getElem? (i := 119) rfl)) rfl, hp_mu (tb_5 (List.mem_of_getElem? (i := 120) rfl)) rfl, rfl, rfl, rfl⟩
theorem lb_X10_leastUnsound : hp_LB yX10_leastUnsound cX10_leastUnsound 5 (some .int) 1 := ⟨hp_mu (tb_5 (List.mem_of_getElem? (i := 127) rfl)) rfl, hp_mu (tb_1 (List.mem_of_getElem? (i := 2) rfl)) rfl, by decide, by decide +kernel⟩
theorem lv_X10_leastUnsound : hp_LV yX10_leastUnsound 11 := ⟨hp_mu (tb_5 (List.mem_of_getElem? (i := 125) rfl)) rfl, hp_mu (tb_5 (List.mem_of_getElem? (i := 126) rfl)) rfl, rfl, rfl, rfl⟩
theorem lb_X10_greatestSoundBelow : hp_LB yX10_greatestSoundBelow cX10_greatestSoundBelow 6 (some .int) 2 := ⟨hp_mu (tb_5 (List.mem_of_getElem? (i := 131) rfl)) rfl, hp_mu (tb_1 (List.mem_of_getElem? (i := 2) rfl)) rfl, by decide, by decide +kernel⟩
theorem lv_X10_greatestSoundBelow : hp_LV yX10_greatestSoundBelow 11 := ⟨hp_mu (tb_5 (List.mem_of_getElem? (i := 129) rfl)) rfl, hp_mu (tb_5 (List.mem_of_getElem? (i := 130) rfl)) rfl, rfl, rfl, rfl⟩
theorem lb_X11_weak : hp_LB yX11_weak cX11_weak 8 (some .int) 4 := ⟨hp_mu (tb_5 (List.mem_of_getElem? (i := 136) rfl)) rfl, hp_mu (tb_1 (List.mem_of_getElem? (i := 1) rfl)) rfl, by decide, by decide +kernel⟩
theorem lv_X11_weak : hp_LV yX11_weak 12 := ⟨hp_mu (tb_5 (List.mem_of_getElem? (i := 134) rfl)) rfl, hp_mu (tb_5 (List.mem_of_getElem? (i := 135) rfl)) rfl, rfl, rfl, rfl⟩
theorem lb_X11_preparedRoots : hp_LB yX11_preparedRoots cX11_preparedRoots 1 (some (.object "ProvenRecord$Roots")) 0 := ⟨hp_mu (tb_5 (List.mem_of_getElem? (i := 140) rfl)) rfl, hp_mu (tb_1 (List.mem_of_getElem? (i := 1) rfl)) rfl, by decide, by decide +kernel⟩
theorem lv_X11_preparedRoots : hp_LV yX11_preparedRoots 12 := ⟨hp_mu (tb_5 (List.mem_of_getElem? (i := 139) rfl)) rfl, hp_mu (tb_0 (List.mem_of_getElem? (i := 23) rfl)) rfl, rfl, rfl, rfl⟩
theorem lb_X4_init : hp_LB yX4_init cX4_init 1 none 0 := ⟨hp_mu (tb_5 (List.mem_of_getElem? (i := 145) rfl)) rfl, hp_mu (tb_1 (List.mem_of_getElem? (i := 19) rfl)) rfl, by decide, by decide +kernel⟩
theorem li_X4_init : Cond.instanceMethod yX4_init ∈ lw_u := hp_mu (tb_5 (List.mem_of_getElem? (i := 144) rfl)) rfl
theorem lb_X4_prepare : hp_LB yX4_prepare cX4_prepare 4 none 1 := ⟨hp_mu (tb_5 (List.mem_of_getElem? (i := 191) rfl)) rfl, hp_mu (tb_1 (List.mem_of_getElem? (i := 19) rfl)) rfl, by decide, by decide +kernel⟩
theorem lv_X4_prepare : hp_LV yX4_prepare 5 := ⟨hp_mu (tb_5 (List.mem_of_getElem? (i := 189) rfl)) rfl, hp_mu (tb_5 (List.mem_of_getElem? (i := 190) rfl)) rfl, rfl, rfl, rfl⟩
theorem lb_X4_seekThing : hp_LB yX4_seekThing cX4_seekThing 5 none 4 := ⟨hp_mu (tb_5 (List.mem_of_getElem? (i := 196) rfl)) rfl, hp_mu (tb_1 (List.mem_of_getElem? (i := 19) rfl)) rfl, by decide, by decide +kernel⟩
theorem lv_X4_seekThing : hp_LV yX4_seekThing 5 := ⟨hp_mu (tb_5 (List.mem_of_getElem? (i := 194) rfl)) rfl, hp_mu (tb_5 (List.mem_of_getElem? (i := 195) rfl)) rfl, rfl, rfl, rfl⟩
theorem lb_X4_seek : hp_LB yX4_seek cX4_seek 2 none 1 := ⟨hp_mu (tb_5 (List.mem_of_getElem? (i := 200) rfl)) rfl, hp_mu (tb_1 (List.mem_of_getElem? (i := 19) rfl)) rfl, by decide, by decide +kernel⟩
theorem lv_X4_seek : hp_LV yX4_seek 5 := ⟨hp_mu (tb_5 (List.mem_of_getElem? (i := 199) rfl)) rfl, hp_mu (tb_0 (List.mem_of_getElem? (i := 24) rfl)) rfl, rfl, rfl, rfl⟩
theorem lb_X4_goBack : hp_LB yX4_goBack cX4_goBack 7 none 3 := ⟨hp_mu (tb_5 (List.mem_of_getElem? (i := 203) rfl)) rfl, hp_mu (tb_1 (List.mem_of_getElem? (i := 19) rfl)) rfl, by decide, by decide +kernel⟩
theorem ls_X4_goBack : Cond.static yX4_goBack ∈ lw_u := hp_mu (tb_5 (List.mem_of_getElem? (i := 202) rfl)) rfl
theorem lb_X4_take : hp_LB yX4_take cX4_take 2 none 1 := ⟨hp_mu (tb_5 (List.mem_of_getElem? (i := 207) rfl)) rfl, hp_mu (tb_1 (List.mem_of_getElem? (i := 19) rfl)) rfl, by decide, by decide +kernel⟩
theorem lv_X4_take : hp_LV yX4_take 5 := ⟨hp_mu (tb_5 (List.mem_of_getElem? (i := 206) rfl)) rfl, hp_mu (tb_0 (List.mem_of_getElem? (i := 25) rfl)) rfl, rfl, rfl, rfl⟩
theorem lb_X4_secondOf : hp_LB yX4_secondOf cX4_secondOf 3 (some .int) 2 := ⟨hp_mu (tb_5 (List.mem_of_getElem? (i := 214) rfl)) rfl, hp_mu (tb_1 (List.mem_of_getElem? (i := 19) rfl)) rfl, by decide, by decide +kernel⟩
theorem lv_X4_secondOf : hp_LV yX4_secondOf 5 := ⟨hp_mu (tb_5 (List.mem_of_getElem? (i := 213) rfl)) rfl, hp_mu (tb_0 (List.mem_of_getElem? (i := 26) rfl)) rfl, rfl, rfl, rfl⟩
theorem lb_X4_restOf : hp_LB yX4_restOf cX4_restOf 3 (some .int) 1 := ⟨hp_mu (tb_5 (List.mem_of_getElem? (i := 219) rfl)) rfl, hp_mu (tb_1 (List.mem_of_getElem? (i := 19) rfl)) rfl, by decide, by decide +kernel⟩
theorem lv_X4_restOf : hp_LV yX4_restOf 5 := ⟨hp_mu (tb_5 (List.mem_of_getElem? (i := 218) rfl)) rfl, hp_mu (tb_0 (List.mem_of_getElem? (i := 27) rfl)) rfl, rfl, rfl, rfl⟩
theorem lb_J9_floorMod_f86c9 : hp_LB yJ9_floorMod_f86c9 cJ9_floorMod_f86c9 6 (some .long) 2 := ⟨hp_mu (tb_5 (List.mem_of_getElem? (i := 222) rfl)) rfl, hp_mu (tb_1 (List.mem_of_getElem? (i := 13) rfl)) rfl, by decide, by decide +kernel⟩
theorem ls_J9_floorMod_f86c9 : Cond.static yJ9_floorMod_f86c9 ∈ lw_u := hp_mu (tb_5 (List.mem_of_getElem? (i := 221) rfl)) rfl
theorem lb_X4_leastRoot : hp_LB yX4_leastRoot cX4_leastRoot 4 (some .int) 2 := ⟨hp_mu (tb_5 (List.mem_of_getElem? (i := 226) rfl)) rfl, hp_mu (tb_1 (List.mem_of_getElem? (i := 19) rfl)) rfl, by decide, by decide +kernel⟩
theorem lv_X4_leastRoot : hp_LV yX4_leastRoot 5 := ⟨hp_mu (tb_5 (List.mem_of_getElem? (i := 225) rfl)) rfl, hp_mu (tb_0 (List.mem_of_getElem? (i := 28) rfl)) rfl, rfl, rfl, rfl⟩
theorem lb_X4_firstOf : hp_LB yX4_firstOf cX4_firstOf 2 (some .int) 1 := ⟨hp_mu (tb_5 (List.mem_of_getElem? (i := 230) rfl)) rfl, hp_mu (tb_1 (List.mem_of_getElem? (i := 19) rfl)) rfl, by decide, by decide +kernel⟩
theorem lv_X4_firstOf : hp_LV yX4_firstOf 5 := ⟨hp_mu (tb_5 (List.mem_of_getElem? (i := 229) rfl)) rfl, hp_mu (tb_0 (List.mem_of_getElem? (i := 29) rfl)) rfl, rfl, rfl, rfl⟩
theorem lb_X11_clash : hp_LB yX11_clash cX11_clash 13 (some .int) 5 := ⟨hp_mu (tb_5 (List.mem_of_getElem? (i := 235) rfl)) rfl, hp_mu (tb_1 (List.mem_of_getElem? (i := 1) rfl)) rfl, by decide, by decide +kernel⟩
theorem lv_X11_clash : hp_LV yX11_clash 12 := ⟨hp_mu (tb_5 (List.mem_of_getElem? (i := 233) rfl)) rfl, hp_mu (tb_5 (List.mem_of_getElem? (i := 234) rfl)) rfl, rfl, rfl, rfl⟩
theorem lb_X11_clashingStep : hp_LB yX11_clashingStep cX11_clashingStep 7 (some .int) 2 := ⟨hp_mu (tb_5 (List.mem_of_getElem? (i := 239) rfl)) rfl, hp_mu (tb_1 (List.mem_of_getElem? (i := 1) rfl)) rfl, by decide, by decide +kernel⟩
theorem lv_X11_clashingStep : hp_LV yX11_clashingStep 12 := ⟨hp_mu (tb_5 (List.mem_of_getElem? (i := 238) rfl)) rfl, hp_mu (tb_0 (List.mem_of_getElem? (i := 30) rfl)) rfl, rfl, rfl, rfl⟩
theorem lb_X11_forge : hp_LB yX11_forge cX11_forge 7 (some .int) 5 := ⟨hp_mu (tb_6 (List.mem_of_getElem? (i := 6) rfl)) rfl, hp_mu (tb_1 (List.mem_of_getElem? (i := 1) rfl)) rfl, by decide, by decide +kernel⟩
theorem lv_X11_forge : hp_LV yX11_forge 12 := ⟨hp_mu (tb_6 (List.mem_of_getElem? (i := 4) rfl)) rfl, hp_mu (tb_6 (List.mem_of_getElem? (i := 5) rfl)) rfl, rfl, rfl, rfl⟩
theorem lb_X4_seekStep : hp_LB yX4_seekStep cX4_seekStep 6 none 5 := ⟨hp_mu (tb_6 (List.mem_of_getElem? (i := 10) rfl)) rfl, hp_mu (tb_1 (List.mem_of_getElem? (i := 19) rfl)) rfl, by decide, by decide +kernel⟩
theorem lv_X4_seekStep : hp_LV yX4_seekStep 5 := ⟨hp_mu (tb_6 (List.mem_of_getElem? (i := 8) rfl)) rfl, hp_mu (tb_6 (List.mem_of_getElem? (i := 9) rfl)) rfl, rfl, rfl, rfl⟩
theorem lb_X11_trace : hp_LB yX11_trace cX11_trace 5 (some .int) 4 := ⟨hp_mu (tb_6 (List.mem_of_getElem? (i := 14) rfl)) rfl, hp_mu (tb_1 (List.mem_of_getElem? (i := 1) rfl)) rfl, by decide, by decide +kernel⟩
theorem lv_X11_trace : hp_LV yX11_trace 12 := ⟨hp_mu (tb_6 (List.mem_of_getElem? (i := 12) rfl)) rfl, hp_mu (tb_6 (List.mem_of_getElem? (i := 13) rfl)) rfl, rfl, rfl, rfl⟩
theorem lb_X11_span : hp_LB yX11_span cX11_span 5 (some .int) 4 := ⟨hp_mu (tb_6 (List.mem_of_getElem? (i := 18) rfl)) rfl, hp_mu (tb_1 (List.mem_of_getElem? (i := 1) rfl)) rfl, by decide, by decide +kernel⟩
theorem lv_X11_span : hp_LV yX11_span 12 := ⟨hp_mu (tb_6 (List.mem_of_getElem? (i := 16) rfl)) rfl, hp_mu (tb_6 (List.mem_of_getElem? (i := 17) rfl)) rfl, rfl, rfl, rfl⟩
theorem lb_X11_treeOfWay : hp_LB yX11_treeOfWay cX11_treeOfWay 3 (some .int) 2 := ⟨hp_mu (tb_6 (List.mem_of_getElem? (i := 22) rfl)) rfl, hp_mu (tb_1 (List.mem_of_getElem? (i := 1) rfl)) rfl, by decide, by decide +kernel⟩
theorem lv_X11_treeOfWay : hp_LV yX11_treeOfWay 12 := ⟨hp_mu (tb_6 (List.mem_of_getElem? (i := 21) rfl)) rfl, hp_mu (tb_0 (List.mem_of_getElem? (i := 31) rfl)) rfl, rfl, rfl, rfl⟩
theorem lb_X11_rise : hp_LB yX11_rise cX11_rise 5 (some .int) 4 := ⟨hp_mu (tb_6 (List.mem_of_getElem? (i := 26) rfl)) rfl, hp_mu (tb_1 (List.mem_of_getElem? (i := 1) rfl)) rfl, by decide, by decide +kernel⟩
theorem lv_X11_rise : hp_LV yX11_rise 12 := ⟨hp_mu (tb_6 (List.mem_of_getElem? (i := 24) rfl)) rfl, hp_mu (tb_6 (List.mem_of_getElem? (i := 25) rfl)) rfl, rfl, rfl, rfl⟩
theorem lb_X11_kept : hp_LB yX11_kept cX11_kept 4 (some .int) 3 := ⟨hp_mu (tb_6 (List.mem_of_getElem? (i := 30) rfl)) rfl, hp_mu (tb_1 (List.mem_of_getElem? (i := 1) rfl)) rfl, by decide, by decide +kernel⟩
theorem lv_X11_kept : hp_LV yX11_kept 12 := ⟨hp_mu (tb_6 (List.mem_of_getElem? (i := 28) rfl)) rfl, hp_mu (tb_6 (List.mem_of_getElem? (i := 29) rfl)) rfl, rfl, rfl, rfl⟩
theorem lb_X8_countShared : hp_LB yX8_countShared cX8_countShared 5 (some .int) 1 := ⟨hp_mu (tb_6 (List.mem_of_getElem? (i := 34) rfl)) rfl, hp_mu (tb_1 (List.mem_of_getElem? (i := 4) rfl)) rfl, by decide, by decide +kernel⟩
theorem lv_X8_countShared : hp_LV yX8_countShared 9 := ⟨hp_mu (tb_6 (List.mem_of_getElem? (i := 32) rfl)) rfl, hp_mu (tb_6 (List.mem_of_getElem? (i := 33) rfl)) rfl, rfl, rfl, rfl⟩
theorem lb_X11_sick : hp_LB yX11_sick cX11_sick 3 (some .int) 1 := ⟨hp_mu (tb_6 (List.mem_of_getElem? (i := 40) rfl)) rfl, hp_mu (tb_1 (List.mem_of_getElem? (i := 1) rfl)) rfl, by decide, by decide +kernel⟩
theorem lv_X11_sick : hp_LV yX11_sick 12 := ⟨hp_mu (tb_6 (List.mem_of_getElem? (i := 38) rfl)) rfl, hp_mu (tb_6 (List.mem_of_getElem? (i := 39) rfl)) rfl, rfl, rfl, rfl⟩
theorem lb_X10_sickBits : hp_LB yX10_sickBits cX10_sickBits 5 (some .int) 2 := ⟨hp_mu (tb_6 (List.mem_of_getElem? (i := 44) rfl)) rfl, hp_mu (tb_1 (List.mem_of_getElem? (i := 2) rfl)) rfl, by decide, by decide +kernel⟩
theorem lv_X10_sickBits : hp_LV yX10_sickBits 11 := ⟨hp_mu (tb_6 (List.mem_of_getElem? (i := 42) rfl)) rfl, hp_mu (tb_6 (List.mem_of_getElem? (i := 43) rfl)) rfl, rfl, rfl, rfl⟩
theorem lb_X11_chain : hp_LB yX11_chain cX11_chain 9 (some .int) 2 := ⟨hp_mu (tb_6 (List.mem_of_getElem? (i := 49) rfl)) rfl, hp_mu (tb_1 (List.mem_of_getElem? (i := 1) rfl)) rfl, by decide, by decide +kernel⟩
theorem lv_X11_chain : hp_LV yX11_chain 12 := ⟨hp_mu (tb_6 (List.mem_of_getElem? (i := 47) rfl)) rfl, hp_mu (tb_6 (List.mem_of_getElem? (i := 48) rfl)) rfl, rfl, rfl, rfl⟩
theorem lb_X10_leastFrozenAbove : hp_LB yX10_leastFrozenAbove cX10_leastFrozenAbove 6 (some .int) 2 := ⟨hp_mu (tb_6 (List.mem_of_getElem? (i := 53) rfl)) rfl, hp_mu (tb_1 (List.mem_of_getElem? (i := 2) rfl)) rfl, by decide, by decide +kernel⟩
theorem lv_X10_leastFrozenAbove : hp_LV yX10_leastFrozenAbove 11 := ⟨hp_mu (tb_6 (List.mem_of_getElem? (i := 51) rfl)) rfl, hp_mu (tb_6 (List.mem_of_getElem? (i := 52) rfl)) rfl, rfl, rfl, rfl⟩
theorem lb_X11_addLinks : hp_LB yX11_addLinks cX11_addLinks 5 (some .int) 1 := ⟨hp_mu (tb_6 (List.mem_of_getElem? (i := 57) rfl)) rfl, hp_mu (tb_1 (List.mem_of_getElem? (i := 1) rfl)) rfl, by decide, by decide +kernel⟩
theorem lv_X11_addLinks : hp_LV yX11_addLinks 12 := ⟨hp_mu (tb_6 (List.mem_of_getElem? (i := 56) rfl)) rfl, hp_mu (tb_0 (List.mem_of_getElem? (i := 32) rfl)) rfl, rfl, rfl, rfl⟩
theorem lb_X11_isLink : hp_LB yX11_isLink cX11_isLink 4 (some .boolean) 2 := ⟨hp_mu (tb_6 (List.mem_of_getElem? (i := 61) rfl)) rfl, hp_mu (tb_1 (List.mem_of_getElem? (i := 1) rfl)) rfl, by decide, by decide +kernel⟩
theorem lv_X11_isLink : hp_LV yX11_isLink 12 := ⟨hp_mu (tb_6 (List.mem_of_getElem? (i := 60) rfl)) rfl, hp_mu (tb_0 (List.mem_of_getElem? (i := 33) rfl)) rfl, rfl, rfl, rfl⟩
theorem lb_X11_split : hp_LB yX11_split cX11_split 6 (some .int) 1 := ⟨hp_mu (tb_6 (List.mem_of_getElem? (i := 65) rfl)) rfl, hp_mu (tb_1 (List.mem_of_getElem? (i := 1) rfl)) rfl, by decide, by decide +kernel⟩
theorem lv_X11_split : hp_LV yX11_split 12 := ⟨hp_mu (tb_6 (List.mem_of_getElem? (i := 63) rfl)) rfl, hp_mu (tb_6 (List.mem_of_getElem? (i := 64) rfl)) rfl, rfl, rfl, rfl⟩
theorem lb_X11_tell : hp_LB yX11_tell cX11_tell 6 (some .int) 3 := ⟨hp_mu (tb_6 (List.mem_of_getElem? (i := 69) rfl)) rfl, hp_mu (tb_1 (List.mem_of_getElem? (i := 1) rfl)) rfl, by decide, by decide +kernel⟩
theorem lv_X11_tell : hp_LV yX11_tell 12 := ⟨hp_mu (tb_6 (List.mem_of_getElem? (i := 67) rfl)) rfl, hp_mu (tb_6 (List.mem_of_getElem? (i := 68) rfl)) rfl, rfl, rfl, rfl⟩
theorem lb_X11_tellText : hp_LB yX11_tellText cX11_tellText 3 none 1 := ⟨hp_mu (tb_6 (List.mem_of_getElem? (i := 74) rfl)) rfl, hp_mu (tb_1 (List.mem_of_getElem? (i := 1) rfl)) rfl, by decide, by decide +kernel⟩
theorem lv_X11_tellText : hp_LV yX11_tellText 12 := ⟨hp_mu (tb_6 (List.mem_of_getElem? (i := 73) rfl)) rfl, hp_mu (tb_0 (List.mem_of_getElem? (i := 34) rfl)) rfl, rfl, rfl, rfl⟩
theorem lb_X11_tellByte : hp_LB yX11_tellByte cX11_tellByte 2 none 1 := ⟨hp_mu (tb_6 (List.mem_of_getElem? (i := 80) rfl)) rfl, hp_mu (tb_1 (List.mem_of_getElem? (i := 1) rfl)) rfl, by decide, by decide +kernel⟩
theorem lv_X11_tellByte : hp_LV yX11_tellByte 12 := ⟨hp_mu (tb_6 (List.mem_of_getElem? (i := 79) rfl)) rfl, hp_mu (tb_0 (List.mem_of_getElem? (i := 35) rfl)) rfl, rfl, rfl, rfl⟩
theorem lb_X11_tellNumber : hp_LB yX11_tellNumber cX11_tellNumber 4 none 1 := ⟨hp_mu (tb_6 (List.mem_of_getElem? (i := 84) rfl)) rfl, hp_mu (tb_1 (List.mem_of_getElem? (i := 1) rfl)) rfl, by decide, by decide +kernel⟩
theorem lv_X11_tellNumber : hp_LV yX11_tellNumber 12 := ⟨hp_mu (tb_6 (List.mem_of_getElem? (i := 83) rfl)) rfl, hp_mu (tb_0 (List.mem_of_getElem? (i := 36) rfl)) rfl, rfl, rfl, rfl⟩
theorem lb_X11_tellProof : hp_LB yX11_tellProof cX11_tellProof 2 none 0 := ⟨hp_mu (tb_6 (List.mem_of_getElem? (i := 91) rfl)) rfl, hp_mu (tb_1 (List.mem_of_getElem? (i := 1) rfl)) rfl, by decide, by decide +kernel⟩
theorem lv_X11_tellProof : hp_LV yX11_tellProof 12 := ⟨hp_mu (tb_6 (List.mem_of_getElem? (i := 90) rfl)) rfl, hp_mu (tb_0 (List.mem_of_getElem? (i := 37) rfl)) rfl, rfl, rfl, rfl⟩
theorem lb_X11_tellGrowth : hp_LB yX11_tellGrowth cX11_tellGrowth 6 (some .int) 3 := ⟨hp_mu (tb_6 (List.mem_of_getElem? (i := 98) rfl)) rfl, hp_mu (tb_1 (List.mem_of_getElem? (i := 1) rfl)) rfl, by decide, by decide +kernel⟩
theorem lv_X11_tellGrowth : hp_LV yX11_tellGrowth 12 := ⟨hp_mu (tb_6 (List.mem_of_getElem? (i := 96) rfl)) rfl, hp_mu (tb_6 (List.mem_of_getElem? (i := 97) rfl)) rfl, rfl, rfl, rfl⟩
theorem lb_X11_out : hp_LB yX11_out cX11_out 2 (some .int) 1 := ⟨hp_mu (tb_6 (List.mem_of_getElem? (i := 104) rfl)) rfl, hp_mu (tb_1 (List.mem_of_getElem? (i := 1) rfl)) rfl, by decide, by decide +kernel⟩
theorem lv_X11_out : hp_LV yX11_out 12 := ⟨hp_mu (tb_6 (List.mem_of_getElem? (i := 102) rfl)) rfl, hp_mu (tb_6 (List.mem_of_getElem? (i := 103) rfl)) rfl, rfl, rfl, rfl⟩
theorem lb_X11_trusted : hp_LB yX11_trusted cX11_trusted 6 (some .int) 2 := ⟨hp_mu (tb_6 (List.mem_of_getElem? (i := 108) rfl)) rfl, hp_mu (tb_1 (List.mem_of_getElem? (i := 1) rfl)) rfl, by decide, by decide +kernel⟩
theorem lv_X11_trusted : hp_LV yX11_trusted 12 := ⟨hp_mu (tb_6 (List.mem_of_getElem? (i := 106) rfl)) rfl, hp_mu (tb_6 (List.mem_of_getElem? (i := 107) rfl)) rfl, rfl, rfl, rfl⟩
theorem lb_X11_saves : hp_LB yX11_saves cX11_saves 5 (some .int) 2 := ⟨hp_mu (tb_6 (List.mem_of_getElem? (i := 112) rfl)) rfl, hp_mu (tb_1 (List.mem_of_getElem? (i := 1) rfl)) rfl, by decide, by decide +kernel⟩
theorem lv_X11_saves : hp_LV yX11_saves 12 := ⟨hp_mu (tb_6 (List.mem_of_getElem? (i := 110) rfl)) rfl, hp_mu (tb_6 (List.mem_of_getElem? (i := 111) rfl)) rfl, rfl, rfl, rfl⟩
theorem lb_X11_who : hp_LB yX11_who cX11_who 5 (some .int) 2 := ⟨hp_mu (tb_6 (List.mem_of_getElem? (i := 117) rfl)) rfl, hp_mu (tb_1 (List.mem_of_getElem? (i := 1) rfl)) rfl, by decide, by decide +kernel⟩
theorem lv_X11_who : hp_LV yX11_who 12 := ⟨hp_mu (tb_6 (List.mem_of_getElem? (i := 115) rfl)) rfl, hp_mu (tb_6 (List.mem_of_getElem? (i := 116) rfl)) rfl, rfl, rfl, rfl⟩
theorem lb_X12_init : hp_LB yX12_init cX12_init 1 none 0 := ⟨hp_mu (tb_6 (List.mem_of_getElem? (i := 123) rfl)) rfl, hp_mu (tb_1 (List.mem_of_getElem? (i := 12) rfl)) rfl, by decide, by decide +kernel⟩
theorem li_X12_init : Cond.instanceMethod yX12_init ∈ lw_u := hp_mu (tb_6 (List.mem_of_getElem? (i := 122) rfl)) rfl
theorem lb_X12_clears : hp_LB yX12_clears cX12_clears 2 none 0 := ⟨hp_mu (tb_6 (List.mem_of_getElem? (i := 140) rfl)) rfl, hp_mu (tb_1 (List.mem_of_getElem? (i := 12) rfl)) rfl, by decide, by decide +kernel⟩
theorem lv_X12_clears : hp_LV yX12_clears 13 := ⟨hp_mu (tb_6 (List.mem_of_getElem? (i := 139) rfl)) rfl, hp_mu (tb_0 (List.mem_of_getElem? (i := 38) rfl)) rfl, rfl, rfl, rfl⟩
theorem lb_X12_status : hp_LB yX12_status cX12_status 1 (some .int) 0 := ⟨hp_mu (tb_7 (List.mem_of_getElem? (i := 51) rfl)) rfl, hp_mu (tb_1 (List.mem_of_getElem? (i := 12) rfl)) rfl, by decide, by decide +kernel⟩
theorem lv_X12_status : hp_LV yX12_status 13 := ⟨hp_mu (tb_7 (List.mem_of_getElem? (i := 49) rfl)) rfl, hp_mu (tb_7 (List.mem_of_getElem? (i := 50) rfl)) rfl, rfl, rfl, rfl⟩
theorem lb_X12_type : hp_LB yX12_type cX12_type 7 (some .int) 2 := ⟨hp_mu (tb_7 (List.mem_of_getElem? (i := 55) rfl)) rfl, hp_mu (tb_1 (List.mem_of_getElem? (i := 12) rfl)) rfl, by decide, by decide +kernel⟩
theorem lv_X12_type : hp_LV yX12_type 13 := ⟨hp_mu (tb_7 (List.mem_of_getElem? (i := 53) rfl)) rfl, hp_mu (tb_7 (List.mem_of_getElem? (i := 54) rfl)) rfl, rfl, rfl, rfl⟩
theorem lb_X12_feed : hp_LB yX12_feed cX12_feed 6 (some .int) 5 := ⟨hp_mu (tb_7 (List.mem_of_getElem? (i := 59) rfl)) rfl, hp_mu (tb_1 (List.mem_of_getElem? (i := 12) rfl)) rfl, by decide, by decide +kernel⟩
theorem lv_X12_feed : hp_LV yX12_feed 13 := ⟨hp_mu (tb_7 (List.mem_of_getElem? (i := 57) rfl)) rfl, hp_mu (tb_7 (List.mem_of_getElem? (i := 58) rfl)) rfl, rfl, rfl, rfl⟩
theorem lb_X12_puts : hp_LB yX12_puts cX12_puts 3 none 1 := ⟨hp_mu (tb_7 (List.mem_of_getElem? (i := 63) rfl)) rfl, hp_mu (tb_1 (List.mem_of_getElem? (i := 12) rfl)) rfl, by decide, by decide +kernel⟩
theorem lv_X12_puts : hp_LV yX12_puts 13 := ⟨hp_mu (tb_7 (List.mem_of_getElem? (i := 62) rfl)) rfl, hp_mu (tb_0 (List.mem_of_getElem? (i := 39) rfl)) rfl, rfl, rfl, rfl⟩
theorem lb_X12_load : hp_LB yX12_load cX12_load 3 (some .int) 1 := ⟨hp_mu (tb_7 (List.mem_of_getElem? (i := 67) rfl)) rfl, hp_mu (tb_1 (List.mem_of_getElem? (i := 12) rfl)) rfl, by decide, by decide +kernel⟩
theorem lv_X12_load : hp_LV yX12_load 13 := ⟨hp_mu (tb_7 (List.mem_of_getElem? (i := 65) rfl)) rfl, hp_mu (tb_7 (List.mem_of_getElem? (i := 66) rfl)) rfl, rfl, rfl, rfl⟩
theorem lb_X12_isIn : hp_LB yX12_isIn cX12_isIn 3 (some .boolean) 3 := ⟨hp_mu (tb_7 (List.mem_of_getElem? (i := 70) rfl)) rfl, hp_mu (tb_1 (List.mem_of_getElem? (i := 12) rfl)) rfl, by decide, by decide +kernel⟩
theorem ls_X12_isIn : Cond.static yX12_isIn ∈ lw_u := hp_mu (tb_7 (List.mem_of_getElem? (i := 69) rfl)) rfl
theorem lb_X12_is : hp_LB yX12_is cX12_is 2 (some .boolean) 1 := ⟨hp_mu (tb_7 (List.mem_of_getElem? (i := 74) rfl)) rfl, hp_mu (tb_1 (List.mem_of_getElem? (i := 12) rfl)) rfl, by decide, by decide +kernel⟩
theorem lv_X12_is : hp_LV yX12_is 13 := ⟨hp_mu (tb_7 (List.mem_of_getElem? (i := 73) rfl)) rfl, hp_mu (tb_0 (List.mem_of_getElem? (i := 40) rfl)) rfl, rfl, rfl, rfl⟩
theorem lb_X12_begins : hp_LB yX12_begins cX12_begins 2 none 1 := ⟨hp_mu (tb_7 (List.mem_of_getElem? (i := 78) rfl)) rfl, hp_mu (tb_1 (List.mem_of_getElem? (i := 12) rfl)) rfl, by decide, by decide +kernel⟩
theorem lv_X12_begins : hp_LV yX12_begins 13 := ⟨hp_mu (tb_7 (List.mem_of_getElem? (i := 77) rfl)) rfl, hp_mu (tb_0 (List.mem_of_getElem? (i := 41) rfl)) rfl, rfl, rfl, rfl⟩
theorem lb_X12_reads : hp_LB yX12_reads cX12_reads 1 none 0 := ⟨hp_mu (tb_7 (List.mem_of_getElem? (i := 82) rfl)) rfl, hp_mu (tb_1 (List.mem_of_getElem? (i := 12) rfl)) rfl, by decide, by decide +kernel⟩
theorem lv_X12_reads : hp_LV yX12_reads 13 := ⟨hp_mu (tb_7 (List.mem_of_getElem? (i := 81) rfl)) rfl, hp_mu (tb_0 (List.mem_of_getElem? (i := 42) rfl)) rfl, rfl, rfl, rfl⟩
theorem lb_X12_isOf : hp_LB yX12_isOf cX12_isOf 4 (some .boolean) 3 := ⟨hp_mu (tb_7 (List.mem_of_getElem? (i := 86) rfl)) rfl, hp_mu (tb_1 (List.mem_of_getElem? (i := 12) rfl)) rfl, by decide, by decide +kernel⟩
theorem lv_X12_isOf : hp_LV yX12_isOf 13 := ⟨hp_mu (tb_7 (List.mem_of_getElem? (i := 85) rfl)) rfl, hp_mu (tb_0 (List.mem_of_getElem? (i := 43) rfl)) rfl, rfl, rfl, rfl⟩
theorem lb_X12_isWord : hp_LB yX12_isWord cX12_isWord 2 (some .boolean) 1 := ⟨hp_mu (tb_7 (List.mem_of_getElem? (i := 92) rfl)) rfl, hp_mu (tb_1 (List.mem_of_getElem? (i := 12) rfl)) rfl, by decide, by decide +kernel⟩
theorem lv_X12_isWord : hp_LV yX12_isWord 13 := ⟨hp_mu (tb_7 (List.mem_of_getElem? (i := 91) rfl)) rfl, hp_mu (tb_0 (List.mem_of_getElem? (i := 44) rfl)) rfl, rfl, rfl, rfl⟩
theorem lb_X12_takesNumber : hp_LB yX12_takesNumber cX12_takesNumber 4 (some .int) 2 := ⟨hp_mu (tb_7 (List.mem_of_getElem? (i := 96) rfl)) rfl, hp_mu (tb_1 (List.mem_of_getElem? (i := 12) rfl)) rfl, by decide, by decide +kernel⟩
theorem lv_X12_takesNumber : hp_LV yX12_takesNumber 13 := ⟨hp_mu (tb_7 (List.mem_of_getElem? (i := 95) rfl)) rfl, hp_mu (tb_0 (List.mem_of_getElem? (i := 45) rfl)) rfl, rfl, rfl, rfl⟩
theorem lb_X12_must : hp_LB yX12_must cX12_must 3 none 2 := ⟨hp_mu (tb_7 (List.mem_of_getElem? (i := 100) rfl)) rfl, hp_mu (tb_1 (List.mem_of_getElem? (i := 12) rfl)) rfl, by decide, by decide +kernel⟩
theorem lv_X12_must : hp_LV yX12_must 13 := ⟨hp_mu (tb_7 (List.mem_of_getElem? (i := 99) rfl)) rfl, hp_mu (tb_0 (List.mem_of_getElem? (i := 46) rfl)) rfl, rfl, rfl, rfl⟩
theorem lb_X12_takesEnd : hp_LB yX12_takesEnd cX12_takesEnd 1 none 0 := ⟨hp_mu (tb_7 (List.mem_of_getElem? (i := 104) rfl)) rfl, hp_mu (tb_1 (List.mem_of_getElem? (i := 12) rfl)) rfl, by decide, by decide +kernel⟩
theorem lv_X12_takesEnd : hp_LV yX12_takesEnd 13 := ⟨hp_mu (tb_7 (List.mem_of_getElem? (i := 103) rfl)) rfl, hp_mu (tb_0 (List.mem_of_getElem? (i := 47) rfl)) rfl, rfl, rfl, rfl⟩
theorem lb_X12_line : hp_LB yX12_line cX12_line 3 none 0 := ⟨hp_mu (tb_7 (List.mem_of_getElem? (i := 108) rfl)) rfl, hp_mu (tb_1 (List.mem_of_getElem? (i := 12) rfl)) rfl, by decide, by decide +kernel⟩
theorem lv_X12_line : hp_LV yX12_line 13 := ⟨hp_mu (tb_7 (List.mem_of_getElem? (i := 107) rfl)) rfl, hp_mu (tb_0 (List.mem_of_getElem? (i := 48) rfl)) rfl, rfl, rfl, rfl⟩
theorem lb_X12_addLine : hp_LB yX12_addLine cX12_addLine 2 none 0 := ⟨hp_mu (tb_7 (List.mem_of_getElem? (i := 112) rfl)) rfl, hp_mu (tb_1 (List.mem_of_getElem? (i := 12) rfl)) rfl, by decide, by decide +kernel⟩
theorem lv_X12_addLine : hp_LV yX12_addLine 13 := ⟨hp_mu (tb_7 (List.mem_of_getElem? (i := 111) rfl)) rfl, hp_mu (tb_0 (List.mem_of_getElem? (i := 49) rfl)) rfl, rfl, rfl, rfl⟩
theorem lb_X12_sizeOf : hp_LB yX12_sizeOf cX12_sizeOf 2 (some .int) 1 := ⟨hp_mu (tb_7 (List.mem_of_getElem? (i := 116) rfl)) rfl, hp_mu (tb_1 (List.mem_of_getElem? (i := 12) rfl)) rfl, by decide, by decide +kernel⟩
theorem lv_X12_sizeOf : hp_LV yX12_sizeOf 13 := ⟨hp_mu (tb_7 (List.mem_of_getElem? (i := 115) rfl)) rfl, hp_mu (tb_0 (List.mem_of_getElem? (i := 50) rfl)) rfl, rfl, rfl, rfl⟩
theorem lb_X12_adds : hp_LB yX12_adds cX12_adds 4 (some .int) 1 := ⟨hp_mu (tb_7 (List.mem_of_getElem? (i := 120) rfl)) rfl, hp_mu (tb_1 (List.mem_of_getElem? (i := 12) rfl)) rfl, by decide, by decide +kernel⟩
theorem lv_X12_adds : hp_LV yX12_adds 13 := ⟨hp_mu (tb_7 (List.mem_of_getElem? (i := 119) rfl)) rfl, hp_mu (tb_0 (List.mem_of_getElem? (i := 51) rfl)) rfl, rfl, rfl, rfl⟩
theorem lb_X12_refuse : hp_LB yX12_refuse cX12_refuse 2 (some .int) 1 := ⟨hp_mu (tb_7 (List.mem_of_getElem? (i := 124) rfl)) rfl, hp_mu (tb_1 (List.mem_of_getElem? (i := 12) rfl)) rfl, by decide, by decide +kernel⟩
theorem lv_X12_refuse : hp_LV yX12_refuse 13 := ⟨hp_mu (tb_7 (List.mem_of_getElem? (i := 123) rfl)) rfl, hp_mu (tb_0 (List.mem_of_getElem? (i := 52) rfl)) rfl, rfl, rfl, rfl⟩
theorem lb_X12_forkLine : hp_LB yX12_forkLine cX12_forkLine 2 none 0 := ⟨hp_mu (tb_7 (List.mem_of_getElem? (i := 128) rfl)) rfl, hp_mu (tb_1 (List.mem_of_getElem? (i := 12) rfl)) rfl, by decide, by decide +kernel⟩
theorem lv_X12_forkLine : hp_LV yX12_forkLine 13 := ⟨hp_mu (tb_7 (List.mem_of_getElem? (i := 127) rfl)) rfl, hp_mu (tb_0 (List.mem_of_getElem? (i := 53) rfl)) rfl, rfl, rfl, rfl⟩
theorem lb_X12_forks : hp_LB yX12_forks cX12_forks 6 (some .int) 2 := ⟨hp_mu (tb_7 (List.mem_of_getElem? (i := 132) rfl)) rfl, hp_mu (tb_1 (List.mem_of_getElem? (i := 12) rfl)) rfl, by decide, by decide +kernel⟩
theorem lv_X12_forks : hp_LV yX12_forks 13 := ⟨hp_mu (tb_7 (List.mem_of_getElem? (i := 131) rfl)) rfl, hp_mu (tb_0 (List.mem_of_getElem? (i := 54) rfl)) rfl, rfl, rfl, rfl⟩
theorem lb_X12_freezes : hp_LB yX12_freezes cX12_freezes 4 (some .int) 1 := ⟨hp_mu (tb_7 (List.mem_of_getElem? (i := 136) rfl)) rfl, hp_mu (tb_1 (List.mem_of_getElem? (i := 12) rfl)) rfl, by decide, by decide +kernel⟩
theorem lv_X12_freezes : hp_LV yX12_freezes 13 := ⟨hp_mu (tb_7 (List.mem_of_getElem? (i := 135) rfl)) rfl, hp_mu (tb_0 (List.mem_of_getElem? (i := 55) rfl)) rfl, rfl, rfl, rfl⟩
theorem lb_X12_headOf : hp_LB yX12_headOf cX12_headOf 3 (some .int) 2 := ⟨hp_mu (tb_7 (List.mem_of_getElem? (i := 140) rfl)) rfl, hp_mu (tb_1 (List.mem_of_getElem? (i := 12) rfl)) rfl, by decide, by decide +kernel⟩
theorem lv_X12_headOf : hp_LV yX12_headOf 13 := ⟨hp_mu (tb_7 (List.mem_of_getElem? (i := 139) rfl)) rfl, hp_mu (tb_0 (List.mem_of_getElem? (i := 56) rfl)) rfl, rfl, rfl, rfl⟩
theorem lb_X12_treeMark : hp_LB yX12_treeMark cX12_treeMark 5 (some .int) 3 := ⟨hp_mu (tb_7 (List.mem_of_getElem? (i := 144) rfl)) rfl, hp_mu (tb_1 (List.mem_of_getElem? (i := 12) rfl)) rfl, by decide, by decide +kernel⟩
theorem lv_X12_treeMark : hp_LV yX12_treeMark 13 := ⟨hp_mu (tb_7 (List.mem_of_getElem? (i := 143) rfl)) rfl, hp_mu (tb_0 (List.mem_of_getElem? (i := 57) rfl)) rfl, rfl, rfl, rfl⟩
theorem lb_X12_entryMark : hp_LB yX12_entryMark cX12_entryMark 6 (some .int) 2 := ⟨hp_mu (tb_7 (List.mem_of_getElem? (i := 148) rfl)) rfl, hp_mu (tb_1 (List.mem_of_getElem? (i := 12) rfl)) rfl, by decide, by decide +kernel⟩
theorem lv_X12_entryMark : hp_LV yX12_entryMark 13 := ⟨hp_mu (tb_7 (List.mem_of_getElem? (i := 147) rfl)) rfl, hp_mu (tb_0 (List.mem_of_getElem? (i := 58) rfl)) rfl, rfl, rfl, rfl⟩
theorem lb_X12_mixed : hp_LB yX12_mixed cX12_mixed 3 (some .int) 2 := ⟨hp_mu (tb_7 (List.mem_of_getElem? (i := 152) rfl)) rfl, hp_mu (tb_1 (List.mem_of_getElem? (i := 12) rfl)) rfl, by decide, by decide +kernel⟩
theorem lv_X12_mixed : hp_LV yX12_mixed 13 := ⟨hp_mu (tb_7 (List.mem_of_getElem? (i := 151) rfl)) rfl, hp_mu (tb_0 (List.mem_of_getElem? (i := 59) rfl)) rfl, rfl, rfl, rfl⟩
theorem lb_X12_part0 : hp_LB yX12_part0 cX12_part0 2 (some .int) 1 := ⟨hp_mu (tb_7 (List.mem_of_getElem? (i := 157) rfl)) rfl, hp_mu (tb_1 (List.mem_of_getElem? (i := 12) rfl)) rfl, by decide, by decide +kernel⟩
theorem ls_X12_part0 : Cond.static yX12_part0 ∈ lw_u := hp_mu (tb_7 (List.mem_of_getElem? (i := 156) rfl)) rfl
theorem lb_X12_both : hp_LB yX12_both cX12_both 3 (some .int) 2 := ⟨hp_mu (tb_7 (List.mem_of_getElem? (i := 161) rfl)) rfl, hp_mu (tb_1 (List.mem_of_getElem? (i := 12) rfl)) rfl, by decide, by decide +kernel⟩
theorem lv_X12_both : hp_LV yX12_both 13 := ⟨hp_mu (tb_7 (List.mem_of_getElem? (i := 160) rfl)) rfl, hp_mu (tb_0 (List.mem_of_getElem? (i := 60) rfl)) rfl, rfl, rfl, rfl⟩
theorem lb_X12_peaksOf : hp_LB yX12_peaksOf cX12_peaksOf 4 none 1 := ⟨hp_mu (tb_7 (List.mem_of_getElem? (i := 165) rfl)) rfl, hp_mu (tb_1 (List.mem_of_getElem? (i := 12) rfl)) rfl, by decide, by decide +kernel⟩
theorem lv_X12_peaksOf : hp_LV yX12_peaksOf 13 := ⟨hp_mu (tb_7 (List.mem_of_getElem? (i := 164) rfl)) rfl, hp_mu (tb_0 (List.mem_of_getElem? (i := 61) rfl)) rfl, rfl, rfl, rfl⟩
theorem lb_X12_asks : hp_LB yX12_asks cX12_asks 3 none 2 := ⟨hp_mu (tb_7 (List.mem_of_getElem? (i := 170) rfl)) rfl, hp_mu (tb_1 (List.mem_of_getElem? (i := 12) rfl)) rfl, by decide, by decide +kernel⟩
theorem lv_X12_asks : hp_LV yX12_asks 13 := ⟨hp_mu (tb_7 (List.mem_of_getElem? (i := 169) rfl)) rfl, hp_mu (tb_0 (List.mem_of_getElem? (i := 62) rfl)) rfl, rfl, rfl, rfl⟩
theorem lb_X12_fetches : hp_LB yX12_fetches cX12_fetches 3 none 1 := ⟨hp_mu (tb_7 (List.mem_of_getElem? (i := 174) rfl)) rfl, hp_mu (tb_1 (List.mem_of_getElem? (i := 12) rfl)) rfl, by decide, by decide +kernel⟩
theorem lv_X12_fetches : hp_LV yX12_fetches 13 := ⟨hp_mu (tb_7 (List.mem_of_getElem? (i := 173) rfl)) rfl, hp_mu (tb_0 (List.mem_of_getElem? (i := 63) rfl)) rfl, rfl, rfl, rfl⟩
theorem lb_X12_takes : hp_LB yX12_takes cX12_takes 2 none 1 := ⟨hp_mu (tb_7 (List.mem_of_getElem? (i := 178) rfl)) rfl, hp_mu (tb_1 (List.mem_of_getElem? (i := 12) rfl)) rfl, by decide, by decide +kernel⟩
theorem lv_X12_takes : hp_LV yX12_takes 13 := ⟨hp_mu (tb_7 (List.mem_of_getElem? (i := 177) rfl)) rfl, hp_mu (tb_0 (List.mem_of_getElem? (i := 64) rfl)) rfl, rfl, rfl, rfl⟩
theorem lb_X12_shows : hp_LB yX12_shows cX12_shows 7 (some .int) 3 := ⟨hp_mu (tb_7 (List.mem_of_getElem? (i := 182) rfl)) rfl, hp_mu (tb_1 (List.mem_of_getElem? (i := 12) rfl)) rfl, by decide, by decide +kernel⟩
theorem lv_X12_shows : hp_LV yX12_shows 13 := ⟨hp_mu (tb_7 (List.mem_of_getElem? (i := 181) rfl)) rfl, hp_mu (tb_0 (List.mem_of_getElem? (i := 65) rfl)) rfl, rfl, rfl, rfl⟩
theorem lb_X12_trust : hp_LB yX12_trust cX12_trust 3 (some .int) 2 := ⟨hp_mu (tb_7 (List.mem_of_getElem? (i := 186) rfl)) rfl, hp_mu (tb_1 (List.mem_of_getElem? (i := 12) rfl)) rfl, by decide, by decide +kernel⟩
theorem lv_X12_trust : hp_LV yX12_trust 13 := ⟨hp_mu (tb_7 (List.mem_of_getElem? (i := 185) rfl)) rfl, hp_mu (tb_0 (List.mem_of_getElem? (i := 66) rfl)) rfl, rfl, rfl, rfl⟩
theorem lb_X12_whyByRecord : hp_LB yX12_whyByRecord cX12_whyByRecord 6 (some .int) 5 := ⟨hp_mu (tb_7 (List.mem_of_getElem? (i := 190) rfl)) rfl, hp_mu (tb_1 (List.mem_of_getElem? (i := 12) rfl)) rfl, by decide, by decide +kernel⟩
theorem lv_X12_whyByRecord : hp_LV yX12_whyByRecord 13 := ⟨hp_mu (tb_7 (List.mem_of_getElem? (i := 189) rfl)) rfl, hp_mu (tb_0 (List.mem_of_getElem? (i := 67) rfl)) rfl, rfl, rfl, rfl⟩
theorem lb_X12_growth : hp_LB yX12_growth cX12_growth 3 none 2 := ⟨hp_mu (tb_7 (List.mem_of_getElem? (i := 194) rfl)) rfl, hp_mu (tb_1 (List.mem_of_getElem? (i := 12) rfl)) rfl, by decide, by decide +kernel⟩
theorem lv_X12_growth : hp_LV yX12_growth 13 := ⟨hp_mu (tb_7 (List.mem_of_getElem? (i := 193) rfl)) rfl, hp_mu (tb_0 (List.mem_of_getElem? (i := 68) rfl)) rfl, rfl, rfl, rfl⟩
theorem lb_X12_growsIn : hp_LB yX12_growsIn cX12_growsIn 6 none 4 := ⟨hp_mu (tb_7 (List.mem_of_getElem? (i := 198) rfl)) rfl, hp_mu (tb_1 (List.mem_of_getElem? (i := 12) rfl)) rfl, by decide, by decide +kernel⟩
theorem lv_X12_growsIn : hp_LV yX12_growsIn 13 := ⟨hp_mu (tb_7 (List.mem_of_getElem? (i := 197) rfl)) rfl, hp_mu (tb_0 (List.mem_of_getElem? (i := 69) rfl)) rfl, rfl, rfl, rfl⟩
theorem lb_X12_whyGrown : hp_LB yX12_whyGrown cX12_whyGrown 6 (some .int) 5 := ⟨hp_mu (tb_7 (List.mem_of_getElem? (i := 202) rfl)) rfl, hp_mu (tb_1 (List.mem_of_getElem? (i := 12) rfl)) rfl, by decide, by decide +kernel⟩
theorem lv_X12_whyGrown : hp_LV yX12_whyGrown 13 := ⟨hp_mu (tb_7 (List.mem_of_getElem? (i := 201) rfl)) rfl, hp_mu (tb_0 (List.mem_of_getElem? (i := 70) rfl)) rfl, rfl, rfl, rfl⟩
theorem lb_X12_foldsGrowth : hp_LB yX12_foldsGrowth cX12_foldsGrowth 6 none 4 := ⟨hp_mu (tb_7 (List.mem_of_getElem? (i := 206) rfl)) rfl, hp_mu (tb_1 (List.mem_of_getElem? (i := 12) rfl)) rfl, by decide, by decide +kernel⟩
theorem lv_X12_foldsGrowth : hp_LV yX12_foldsGrowth 13 := ⟨hp_mu (tb_7 (List.mem_of_getElem? (i := 205) rfl)) rfl, hp_mu (tb_0 (List.mem_of_getElem? (i := 71) rfl)) rfl, rfl, rfl, rfl⟩
theorem lb_X12_trusts : hp_LB yX12_trusts cX12_trusts 4 none 3 := ⟨hp_mu (tb_7 (List.mem_of_getElem? (i := 210) rfl)) rfl, hp_mu (tb_1 (List.mem_of_getElem? (i := 12) rfl)) rfl, by decide, by decide +kernel⟩
theorem lv_X12_trusts : hp_LV yX12_trusts 13 := ⟨hp_mu (tb_7 (List.mem_of_getElem? (i := 209) rfl)) rfl, hp_mu (tb_0 (List.mem_of_getElem? (i := 72) rfl)) rfl, rfl, rfl, rfl⟩
theorem lb_X12_ends : hp_LB yX12_ends cX12_ends 1 none 0 := ⟨hp_mu (tb_7 (List.mem_of_getElem? (i := 214) rfl)) rfl, hp_mu (tb_1 (List.mem_of_getElem? (i := 12) rfl)) rfl, by decide, by decide +kernel⟩
theorem lv_X12_ends : hp_LV yX12_ends 13 := ⟨hp_mu (tb_7 (List.mem_of_getElem? (i := 213) rfl)) rfl, hp_mu (tb_0 (List.mem_of_getElem? (i := 73) rfl)) rfl, rfl, rfl, rfl⟩
theorem lb_X12_hear : hp_LB yX12_hear cX12_hear 5 (some .int) 1 := ⟨hp_mu (tb_7 (List.mem_of_getElem? (i := 218) rfl)) rfl, hp_mu (tb_1 (List.mem_of_getElem? (i := 12) rfl)) rfl, by decide, by decide +kernel⟩
theorem lv_X12_hear : hp_LV yX12_hear 13 := ⟨hp_mu (tb_7 (List.mem_of_getElem? (i := 216) rfl)) rfl, hp_mu (tb_7 (List.mem_of_getElem? (i := 217) rfl)) rfl, rfl, rfl, rfl⟩
theorem lb_X12_statementIn : hp_LB yX12_statementIn cX12_statementIn 6 (some .int) 0 := ⟨hp_mu (tb_7 (List.mem_of_getElem? (i := 222) rfl)) rfl, hp_mu (tb_1 (List.mem_of_getElem? (i := 12) rfl)) rfl, by decide, by decide +kernel⟩
theorem lv_X12_statementIn : hp_LV yX12_statementIn 13 := ⟨hp_mu (tb_7 (List.mem_of_getElem? (i := 221) rfl)) rfl, hp_mu (tb_0 (List.mem_of_getElem? (i := 74) rfl)) rfl, rfl, rfl, rfl⟩
theorem lb_X12_takesMark : hp_LB yX12_takesMark cX12_takesMark 1 (some .int) 0 := ⟨hp_mu (tb_7 (List.mem_of_getElem? (i := 227) rfl)) rfl, hp_mu (tb_1 (List.mem_of_getElem? (i := 12) rfl)) rfl, by decide, by decide +kernel⟩
theorem lv_X12_takesMark : hp_LV yX12_takesMark 13 := ⟨hp_mu (tb_7 (List.mem_of_getElem? (i := 226) rfl)) rfl, hp_mu (tb_0 (List.mem_of_getElem? (i := 75) rfl)) rfl, rfl, rfl, rfl⟩
theorem lb_X12_takesMarks : hp_LB yX12_takesMarks cX12_takesMarks 2 (some .int) 0 := ⟨hp_mu (tb_7 (List.mem_of_getElem? (i := 231) rfl)) rfl, hp_mu (tb_1 (List.mem_of_getElem? (i := 12) rfl)) rfl, by decide, by decide +kernel⟩
theorem lv_X12_takesMarks : hp_LV yX12_takesMarks 13 := ⟨hp_mu (tb_7 (List.mem_of_getElem? (i := 230) rfl)) rfl, hp_mu (tb_0 (List.mem_of_getElem? (i := 76) rfl)) rfl, rfl, rfl, rfl⟩
theorem lb_X12_isMark : hp_LB yX12_isMark cX12_isMark 2 (some .boolean) 1 := ⟨hp_mu (tb_7 (List.mem_of_getElem? (i := 235) rfl)) rfl, hp_mu (tb_1 (List.mem_of_getElem? (i := 12) rfl)) rfl, by decide, by decide +kernel⟩
theorem lv_X12_isMark : hp_LV yX12_isMark 13 := ⟨hp_mu (tb_7 (List.mem_of_getElem? (i := 234) rfl)) rfl, hp_mu (tb_0 (List.mem_of_getElem? (i := 77) rfl)) rfl, rfl, rfl, rfl⟩
theorem lb_X12_whyIn : hp_LB yX12_whyIn cX12_whyIn 7 (some .int) 5 := ⟨hp_mu (tb_7 (List.mem_of_getElem? (i := 239) rfl)) rfl, hp_mu (tb_1 (List.mem_of_getElem? (i := 12) rfl)) rfl, by decide, by decide +kernel⟩
theorem lv_X12_whyIn : hp_LV yX12_whyIn 13 := ⟨hp_mu (tb_7 (List.mem_of_getElem? (i := 238) rfl)) rfl, hp_mu (tb_0 (List.mem_of_getElem? (i := 78) rfl)) rfl, rfl, rfl, rfl⟩
theorem lb_X12_inclusion : hp_LB yX12_inclusion cX12_inclusion 3 none 2 := ⟨hp_mu (tb_8 (List.mem_of_getElem? (i := 3) rfl)) rfl, hp_mu (tb_1 (List.mem_of_getElem? (i := 12) rfl)) rfl, by decide, by decide +kernel⟩
theorem lv_X12_inclusion : hp_LV yX12_inclusion 13 := ⟨hp_mu (tb_8 (List.mem_of_getElem? (i := 2) rfl)) rfl, hp_mu (tb_0 (List.mem_of_getElem? (i := 79) rfl)) rfl, rfl, rfl, rfl⟩
theorem lb_X12_waysIn : hp_LB yX12_waysIn cX12_waysIn 5 none 3 := ⟨hp_mu (tb_8 (List.mem_of_getElem? (i := 7) rfl)) rfl, hp_mu (tb_1 (List.mem_of_getElem? (i := 12) rfl)) rfl, by decide, by decide +kernel⟩
theorem lv_X12_waysIn : hp_LV yX12_waysIn 13 := ⟨hp_mu (tb_8 (List.mem_of_getElem? (i := 6) rfl)) rfl, hp_mu (tb_0 (List.mem_of_getElem? (i := 80) rfl)) rfl, rfl, rfl, rfl⟩
theorem lb_X12_folded : hp_LB yX12_folded cX12_folded 4 (some .int) 3 := ⟨hp_mu (tb_8 (List.mem_of_getElem? (i := 11) rfl)) rfl, hp_mu (tb_1 (List.mem_of_getElem? (i := 12) rfl)) rfl, by decide, by decide +kernel⟩
theorem lv_X12_folded : hp_LV yX12_folded 13 := ⟨hp_mu (tb_8 (List.mem_of_getElem? (i := 10) rfl)) rfl, hp_mu (tb_0 (List.mem_of_getElem? (i := 81) rfl)) rfl, rfl, rfl, rfl⟩
theorem lb_X12_foldsIn : hp_LB yX12_foldsIn cX12_foldsIn 6 (some .int) 3 := ⟨hp_mu (tb_8 (List.mem_of_getElem? (i := 15) rfl)) rfl, hp_mu (tb_1 (List.mem_of_getElem? (i := 12) rfl)) rfl, by decide, by decide +kernel⟩
theorem lv_X12_foldsIn : hp_LV yX12_foldsIn 13 := ⟨hp_mu (tb_8 (List.mem_of_getElem? (i := 14) rfl)) rfl, hp_mu (tb_0 (List.mem_of_getElem? (i := 82) rfl)) rfl, rfl, rfl, rfl⟩
theorem lb_X12_why : hp_LB yX12_why cX12_why 4 (some .int) 3 := ⟨hp_mu (tb_8 (List.mem_of_getElem? (i := 19) rfl)) rfl, hp_mu (tb_1 (List.mem_of_getElem? (i := 12) rfl)) rfl, by decide, by decide +kernel⟩
theorem lv_X12_why : hp_LV yX12_why 13 := ⟨hp_mu (tb_8 (List.mem_of_getElem? (i := 18) rfl)) rfl, hp_mu (tb_0 (List.mem_of_getElem? (i := 83) rfl)) rfl, rfl, rfl, rfl⟩
theorem lb_X12_statementGrow : hp_LB yX12_statementGrow cX12_statementGrow 6 (some .int) 0 := ⟨hp_mu (tb_8 (List.mem_of_getElem? (i := 23) rfl)) rfl, hp_mu (tb_1 (List.mem_of_getElem? (i := 12) rfl)) rfl, by decide, by decide +kernel⟩
theorem lv_X12_statementGrow : hp_LV yX12_statementGrow 13 := ⟨hp_mu (tb_8 (List.mem_of_getElem? (i := 22) rfl)) rfl, hp_mu (tb_0 (List.mem_of_getElem? (i := 84) rfl)) rfl, rfl, rfl, rfl⟩
theorem lb_X12_heard : hp_LB yX12_heard cX12_heard 2 (some .int) 1 := ⟨hp_mu (tb_8 (List.mem_of_getElem? (i := 27) rfl)) rfl, hp_mu (tb_1 (List.mem_of_getElem? (i := 12) rfl)) rfl, by decide, by decide +kernel⟩
theorem lv_X12_heard : hp_LV yX12_heard 13 := ⟨hp_mu (tb_8 (List.mem_of_getElem? (i := 25) rfl)) rfl, hp_mu (tb_8 (List.mem_of_getElem? (i := 26) rfl)) rfl, rfl, rfl, rfl⟩
theorem lb_X12_fault : hp_LB yX12_fault cX12_fault 2 (some .int) 1 := ⟨hp_mu (tb_8 (List.mem_of_getElem? (i := 31) rfl)) rfl, hp_mu (tb_1 (List.mem_of_getElem? (i := 12) rfl)) rfl, by decide, by decide +kernel⟩
theorem lv_X12_fault : hp_LV yX12_fault 13 := ⟨hp_mu (tb_8 (List.mem_of_getElem? (i := 29) rfl)) rfl, hp_mu (tb_8 (List.mem_of_getElem? (i := 30) rfl)) rfl, rfl, rfl, rfl⟩
theorem lb_X12_many : hp_LB yX12_many cX12_many 4 (some .int) 1 := ⟨hp_mu (tb_8 (List.mem_of_getElem? (i := 35) rfl)) rfl, hp_mu (tb_1 (List.mem_of_getElem? (i := 12) rfl)) rfl, by decide, by decide +kernel⟩
theorem lv_X12_many : hp_LV yX12_many 13 := ⟨hp_mu (tb_8 (List.mem_of_getElem? (i := 33) rfl)) rfl, hp_mu (tb_8 (List.mem_of_getElem? (i := 34) rfl)) rfl, rfl, rfl, rfl⟩
theorem lb_X12_size : hp_LB yX12_size cX12_size 2 (some .int) 1 := ⟨hp_mu (tb_8 (List.mem_of_getElem? (i := 39) rfl)) rfl, hp_mu (tb_1 (List.mem_of_getElem? (i := 12) rfl)) rfl, by decide, by decide +kernel⟩
theorem lv_X12_size : hp_LV yX12_size 13 := ⟨hp_mu (tb_8 (List.mem_of_getElem? (i := 37) rfl)) rfl, hp_mu (tb_8 (List.mem_of_getElem? (i := 38) rfl)) rfl, rfl, rfl, rfl⟩
theorem lb_X12_isRecord : hp_LB yX12_isRecord cX12_isRecord 2 (some .boolean) 1 := ⟨hp_mu (tb_8 (List.mem_of_getElem? (i := 43) rfl)) rfl, hp_mu (tb_1 (List.mem_of_getElem? (i := 12) rfl)) rfl, by decide, by decide +kernel⟩
theorem lv_X12_isRecord : hp_LV yX12_isRecord 13 := ⟨hp_mu (tb_8 (List.mem_of_getElem? (i := 42) rfl)) rfl, hp_mu (tb_0 (List.mem_of_getElem? (i := 85) rfl)) rfl, rfl, rfl, rfl⟩
theorem lb_X12_entry : hp_LB yX12_entry cX12_entry 5 (some .int) 3 := ⟨hp_mu (tb_8 (List.mem_of_getElem? (i := 47) rfl)) rfl, hp_mu (tb_1 (List.mem_of_getElem? (i := 12) rfl)) rfl, by decide, by decide +kernel⟩
theorem lv_X12_entry : hp_LV yX12_entry 13 := ⟨hp_mu (tb_8 (List.mem_of_getElem? (i := 45) rfl)) rfl, hp_mu (tb_8 (List.mem_of_getElem? (i := 46) rfl)) rfl, rfl, rfl, rfl⟩
theorem lb_X12_head : hp_LB yX12_head cX12_head 3 (some .int) 2 := ⟨hp_mu (tb_8 (List.mem_of_getElem? (i := 51) rfl)) rfl, hp_mu (tb_1 (List.mem_of_getElem? (i := 12) rfl)) rfl, by decide, by decide +kernel⟩
theorem lv_X12_head : hp_LV yX12_head 13 := ⟨hp_mu (tb_8 (List.mem_of_getElem? (i := 49) rfl)) rfl, hp_mu (tb_8 (List.mem_of_getElem? (i := 50) rfl)) rfl, rfl, rfl, rfl⟩
theorem lb_X12_noSize : hp_LB yX12_noSize cX12_noSize 3 (some .int) 2 := ⟨hp_mu (tb_8 (List.mem_of_getElem? (i := 55) rfl)) rfl, hp_mu (tb_1 (List.mem_of_getElem? (i := 12) rfl)) rfl, by decide, by decide +kernel⟩
theorem lv_X12_noSize : hp_LV yX12_noSize 13 := ⟨hp_mu (tb_8 (List.mem_of_getElem? (i := 54) rfl)) rfl, hp_mu (tb_0 (List.mem_of_getElem? (i := 86) rfl)) rfl, rfl, rfl, rfl⟩
theorem lb_X12_join : hp_LB yX12_join cX12_join 3 (some .int) 2 := ⟨hp_mu (tb_8 (List.mem_of_getElem? (i := 59) rfl)) rfl, hp_mu (tb_1 (List.mem_of_getElem? (i := 12) rfl)) rfl, by decide, by decide +kernel⟩
theorem lv_X12_join : hp_LV yX12_join 13 := ⟨hp_mu (tb_8 (List.mem_of_getElem? (i := 57) rfl)) rfl, hp_mu (tb_8 (List.mem_of_getElem? (i := 58) rfl)) rfl, rfl, rfl, rfl⟩
theorem lb_X12_mark : hp_LB yX12_mark cX12_mark 3 (some .int) 0 := ⟨hp_mu (tb_8 (List.mem_of_getElem? (i := 63) rfl)) rfl, hp_mu (tb_1 (List.mem_of_getElem? (i := 12) rfl)) rfl, by decide, by decide +kernel⟩
theorem lv_X12_mark : hp_LV yX12_mark 13 := ⟨hp_mu (tb_8 (List.mem_of_getElem? (i := 61) rfl)) rfl, hp_mu (tb_8 (List.mem_of_getElem? (i := 62) rfl)) rfl, rfl, rfl, rfl⟩
theorem lb_X12_frozen : hp_LB yX12_frozen cX12_frozen 3 (some .int) 2 := ⟨hp_mu (tb_8 (List.mem_of_getElem? (i := 67) rfl)) rfl, hp_mu (tb_1 (List.mem_of_getElem? (i := 12) rfl)) rfl, by decide, by decide +kernel⟩
theorem lv_X12_frozen : hp_LV yX12_frozen 13 := ⟨hp_mu (tb_8 (List.mem_of_getElem? (i := 65) rfl)) rfl, hp_mu (tb_8 (List.mem_of_getElem? (i := 66) rfl)) rfl, rfl, rfl, rfl⟩
theorem lb_X12_froze : hp_LB yX12_froze cX12_froze 3 (some .int) 2 := ⟨hp_mu (tb_8 (List.mem_of_getElem? (i := 71) rfl)) rfl, hp_mu (tb_1 (List.mem_of_getElem? (i := 12) rfl)) rfl, by decide, by decide +kernel⟩
theorem lv_X12_froze : hp_LV yX12_froze 13 := ⟨hp_mu (tb_8 (List.mem_of_getElem? (i := 70) rfl)) rfl, hp_mu (tb_0 (List.mem_of_getElem? (i := 87) rfl)) rfl, rfl, rfl, rfl⟩
theorem lb_X12_isSound : hp_LB yX12_isSound cX12_isSound 2 (some .boolean) 1 := ⟨hp_mu (tb_8 (List.mem_of_getElem? (i := 75) rfl)) rfl, hp_mu (tb_1 (List.mem_of_getElem? (i := 12) rfl)) rfl, by decide, by decide +kernel⟩
theorem lv_X12_isSound : hp_LV yX12_isSound 13 := ⟨hp_mu (tb_8 (List.mem_of_getElem? (i := 74) rfl)) rfl, hp_mu (tb_0 (List.mem_of_getElem? (i := 88) rfl)) rfl, rfl, rfl, rfl⟩
theorem lb_X12_watcher : hp_LB yX12_watcher cX12_watcher 3 (some .int) 2 := ⟨hp_mu (tb_8 (List.mem_of_getElem? (i := 79) rfl)) rfl, hp_mu (tb_1 (List.mem_of_getElem? (i := 12) rfl)) rfl, by decide, by decide +kernel⟩
theorem lv_X12_watcher : hp_LV yX12_watcher 13 := ⟨hp_mu (tb_8 (List.mem_of_getElem? (i := 77) rfl)) rfl, hp_mu (tb_8 (List.mem_of_getElem? (i := 78) rfl)) rfl, rfl, rfl, rfl⟩
theorem lb_X12_isWatcher : hp_LB yX12_isWatcher cX12_isWatcher 1 (some .boolean) 1 := ⟨hp_mu (tb_8 (List.mem_of_getElem? (i := 82) rfl)) rfl, hp_mu (tb_1 (List.mem_of_getElem? (i := 12) rfl)) rfl, by decide, by decide +kernel⟩
theorem ls_X12_isWatcher : Cond.static yX12_isWatcher ∈ lw_u := hp_mu (tb_8 (List.mem_of_getElem? (i := 81) rfl)) rfl
theorem lb_X12_add : hp_LB yX12_add cX12_add 2 (some .int) 1 := ⟨hp_mu (tb_8 (List.mem_of_getElem? (i := 86) rfl)) rfl, hp_mu (tb_1 (List.mem_of_getElem? (i := 12) rfl)) rfl, by decide, by decide +kernel⟩
theorem lv_X12_add : hp_LV yX12_add 13 := ⟨hp_mu (tb_8 (List.mem_of_getElem? (i := 84) rfl)) rfl, hp_mu (tb_8 (List.mem_of_getElem? (i := 85) rfl)) rfl, rfl, rfl, rfl⟩
theorem lb_X12_hand : hp_LB yX12_hand cX12_hand 2 none 0 := ⟨hp_mu (tb_8 (List.mem_of_getElem? (i := 90) rfl)) rfl, hp_mu (tb_1 (List.mem_of_getElem? (i := 12) rfl)) rfl, by decide, by decide +kernel⟩
theorem lv_X12_hand : hp_LV yX12_hand 13 := ⟨hp_mu (tb_8 (List.mem_of_getElem? (i := 89) rfl)) rfl, hp_mu (tb_0 (List.mem_of_getElem? (i := 89) rfl)) rfl, rfl, rfl, rfl⟩
theorem lb_X12_fork : hp_LB yX12_fork cX12_fork 3 (some .int) 2 := ⟨hp_mu (tb_8 (List.mem_of_getElem? (i := 94) rfl)) rfl, hp_mu (tb_1 (List.mem_of_getElem? (i := 12) rfl)) rfl, by decide, by decide +kernel⟩
theorem lv_X12_fork : hp_LV yX12_fork 13 := ⟨hp_mu (tb_8 (List.mem_of_getElem? (i := 92) rfl)) rfl, hp_mu (tb_8 (List.mem_of_getElem? (i := 93) rfl)) rfl, rfl, rfl, rfl⟩
theorem lb_X12_freeze : hp_LB yX12_freeze cX12_freeze 2 (some .int) 1 := ⟨hp_mu (tb_8 (List.mem_of_getElem? (i := 98) rfl)) rfl, hp_mu (tb_1 (List.mem_of_getElem? (i := 12) rfl)) rfl, by decide, by decide +kernel⟩
theorem lv_X12_freeze : hp_LV yX12_freeze 13 := ⟨hp_mu (tb_8 (List.mem_of_getElem? (i := 96) rfl)) rfl, hp_mu (tb_8 (List.mem_of_getElem? (i := 97) rfl)) rfl, rfl, rfl, rfl⟩
theorem lb_X12_show : hp_LB yX12_show cX12_show 4 (some .int) 3 := ⟨hp_mu (tb_8 (List.mem_of_getElem? (i := 102) rfl)) rfl, hp_mu (tb_1 (List.mem_of_getElem? (i := 12) rfl)) rfl, by decide, by decide +kernel⟩
theorem lv_X12_show : hp_LV yX12_show 13 := ⟨hp_mu (tb_8 (List.mem_of_getElem? (i := 100) rfl)) rfl, hp_mu (tb_8 (List.mem_of_getElem? (i := 101) rfl)) rfl, rfl, rfl, rfl⟩
theorem lb_X12_meet : hp_LB yX12_meet cX12_meet 9 (some .int) 3 := ⟨hp_mu (tb_8 (List.mem_of_getElem? (i := 106) rfl)) rfl, hp_mu (tb_1 (List.mem_of_getElem? (i := 12) rfl)) rfl, by decide, by decide +kernel⟩
theorem lv_X12_meet : hp_LV yX12_meet 13 := ⟨hp_mu (tb_8 (List.mem_of_getElem? (i := 104) rfl)) rfl, hp_mu (tb_8 (List.mem_of_getElem? (i := 105) rfl)) rfl, rfl, rfl, rfl⟩
theorem lb_X12_spoil : hp_LB yX12_spoil cX12_spoil 7 (some .int) 4 := ⟨hp_mu (tb_8 (List.mem_of_getElem? (i := 110) rfl)) rfl, hp_mu (tb_1 (List.mem_of_getElem? (i := 12) rfl)) rfl, by decide, by decide +kernel⟩
theorem lv_X12_spoil : hp_LV yX12_spoil 13 := ⟨hp_mu (tb_8 (List.mem_of_getElem? (i := 108) rfl)) rfl, hp_mu (tb_8 (List.mem_of_getElem? (i := 109) rfl)) rfl, rfl, rfl, rfl⟩
theorem lb_X12_push : hp_LB yX12_push cX12_push 2 (some .int) 1 := ⟨hp_mu (tb_8 (List.mem_of_getElem? (i := 114) rfl)) rfl, hp_mu (tb_1 (List.mem_of_getElem? (i := 12) rfl)) rfl, by decide, by decide +kernel⟩
theorem lv_X12_push : hp_LV yX12_push 13 := ⟨hp_mu (tb_8 (List.mem_of_getElem? (i := 112) rfl)) rfl, hp_mu (tb_8 (List.mem_of_getElem? (i := 113) rfl)) rfl, rfl, rfl, rfl⟩
theorem lb_X12_poke : hp_LB yX12_poke cX12_poke 4 (some .int) 2 := ⟨hp_mu (tb_8 (List.mem_of_getElem? (i := 118) rfl)) rfl, hp_mu (tb_1 (List.mem_of_getElem? (i := 12) rfl)) rfl, by decide, by decide +kernel⟩
theorem lv_X12_poke : hp_LV yX12_poke 13 := ⟨hp_mu (tb_8 (List.mem_of_getElem? (i := 116) rfl)) rfl, hp_mu (tb_8 (List.mem_of_getElem? (i := 117) rfl)) rfl, rfl, rfl, rfl⟩
theorem lb_X12_pad : hp_LB yX12_pad cX12_pad 2 (some .int) 1 := ⟨hp_mu (tb_8 (List.mem_of_getElem? (i := 122) rfl)) rfl, hp_mu (tb_1 (List.mem_of_getElem? (i := 12) rfl)) rfl, by decide, by decide +kernel⟩
theorem lv_X12_pad : hp_LV yX12_pad 13 := ⟨hp_mu (tb_8 (List.mem_of_getElem? (i := 120) rfl)) rfl, hp_mu (tb_8 (List.mem_of_getElem? (i := 121) rfl)) rfl, rfl, rfl, rfl⟩
theorem lb_X12_cut : hp_LB yX12_cut cX12_cut 2 (some .int) 1 := ⟨hp_mu (tb_8 (List.mem_of_getElem? (i := 126) rfl)) rfl, hp_mu (tb_1 (List.mem_of_getElem? (i := 12) rfl)) rfl, by decide, by decide +kernel⟩
theorem lv_X12_cut : hp_LV yX12_cut 13 := ⟨hp_mu (tb_8 (List.mem_of_getElem? (i := 124) rfl)) rfl, hp_mu (tb_8 (List.mem_of_getElem? (i := 125) rfl)) rfl, rfl, rfl, rfl⟩
theorem lb_X12_include : hp_LB yX12_include cX12_include 4 (some .int) 3 := ⟨hp_mu (tb_8 (List.mem_of_getElem? (i := 130) rfl)) rfl, hp_mu (tb_1 (List.mem_of_getElem? (i := 12) rfl)) rfl, by decide, by decide +kernel⟩
theorem lv_X12_include : hp_LV yX12_include 13 := ⟨hp_mu (tb_8 (List.mem_of_getElem? (i := 128) rfl)) rfl, hp_mu (tb_8 (List.mem_of_getElem? (i := 129) rfl)) rfl, rfl, rfl, rfl⟩
theorem lb_X12_noEntry : hp_LB yX12_noEntry cX12_noEntry 4 (some .int) 3 := ⟨hp_mu (tb_8 (List.mem_of_getElem? (i := 134) rfl)) rfl, hp_mu (tb_1 (List.mem_of_getElem? (i := 12) rfl)) rfl, by decide, by decide +kernel⟩
theorem lv_X12_noEntry : hp_LV yX12_noEntry 13 := ⟨hp_mu (tb_8 (List.mem_of_getElem? (i := 133) rfl)) rfl, hp_mu (tb_0 (List.mem_of_getElem? (i := 90) rfl)) rfl, rfl, rfl, rfl⟩
theorem lb_X12_pads : hp_LB yX12_pads cX12_pads 3 (some .int) 1 := ⟨hp_mu (tb_8 (List.mem_of_getElem? (i := 138) rfl)) rfl, hp_mu (tb_1 (List.mem_of_getElem? (i := 12) rfl)) rfl, by decide, by decide +kernel⟩
theorem lv_X12_pads : hp_LV yX12_pads 13 := ⟨hp_mu (tb_8 (List.mem_of_getElem? (i := 137) rfl)) rfl, hp_mu (tb_0 (List.mem_of_getElem? (i := 91) rfl)) rfl, rfl, rfl, rfl⟩
theorem lb_X12_grow : hp_LB yX12_grow cX12_grow 4 (some .int) 3 := ⟨hp_mu (tb_8 (List.mem_of_getElem? (i := 142) rfl)) rfl, hp_mu (tb_1 (List.mem_of_getElem? (i := 12) rfl)) rfl, by decide, by decide +kernel⟩
theorem lv_X12_grow : hp_LV yX12_grow 13 := ⟨hp_mu (tb_8 (List.mem_of_getElem? (i := 140) rfl)) rfl, hp_mu (tb_8 (List.mem_of_getElem? (i := 141) rfl)) rfl, rfl, rfl, rfl⟩
theorem lb_X12_bundle : hp_LB yX12_bundle cX12_bundle 4 (some .int) 3 := ⟨hp_mu (tb_8 (List.mem_of_getElem? (i := 146) rfl)) rfl, hp_mu (tb_1 (List.mem_of_getElem? (i := 12) rfl)) rfl, by decide, by decide +kernel⟩
theorem lv_X12_bundle : hp_LV yX12_bundle 13 := ⟨hp_mu (tb_8 (List.mem_of_getElem? (i := 144) rfl)) rfl, hp_mu (tb_8 (List.mem_of_getElem? (i := 145) rfl)) rfl, rfl, rfl, rfl⟩
theorem lb_X12_isBeyond : hp_LB yX12_isBeyond cX12_isBeyond 3 (some .boolean) 2 := ⟨hp_mu (tb_8 (List.mem_of_getElem? (i := 149) rfl)) rfl, hp_mu (tb_1 (List.mem_of_getElem? (i := 12) rfl)) rfl, by decide, by decide +kernel⟩
theorem ls_X12_isBeyond : Cond.static yX12_isBeyond ∈ lw_u := hp_mu (tb_8 (List.mem_of_getElem? (i := 148) rfl)) rfl
theorem lb_X12_bundleOf : hp_LB yX12_bundleOf cX12_bundleOf 3 none 2 := ⟨hp_mu (tb_8 (List.mem_of_getElem? (i := 153) rfl)) rfl, hp_mu (tb_1 (List.mem_of_getElem? (i := 12) rfl)) rfl, by decide, by decide +kernel⟩
theorem lv_X12_bundleOf : hp_LV yX12_bundleOf 13 := ⟨hp_mu (tb_8 (List.mem_of_getElem? (i := 152) rfl)) rfl, hp_mu (tb_0 (List.mem_of_getElem? (i := 92) rfl)) rfl, rfl, rfl, rfl⟩
theorem lb_X12_bundlesIn : hp_LB yX12_bundlesIn cX12_bundlesIn 5 none 3 := ⟨hp_mu (tb_8 (List.mem_of_getElem? (i := 157) rfl)) rfl, hp_mu (tb_1 (List.mem_of_getElem? (i := 12) rfl)) rfl, by decide, by decide +kernel⟩
theorem lv_X12_bundlesIn : hp_LV yX12_bundlesIn 13 := ⟨hp_mu (tb_8 (List.mem_of_getElem? (i := 156) rfl)) rfl, hp_mu (tb_0 (List.mem_of_getElem? (i := 93) rfl)) rfl, rfl, rfl, rfl⟩
theorem lb_X12_hasAny : hp_LB yX12_hasAny cX12_hasAny 4 (some .boolean) 3 := ⟨hp_mu (tb_8 (List.mem_of_getElem? (i := 160) rfl)) rfl, hp_mu (tb_1 (List.mem_of_getElem? (i := 12) rfl)) rfl, by decide, by decide +kernel⟩
theorem ls_X12_hasAny : Cond.static yX12_hasAny ∈ lw_u := hp_mu (tb_8 (List.mem_of_getElem? (i := 159) rfl)) rfl
theorem lb_X12_peaks : hp_LB yX12_peaks cX12_peaks 3 (some .int) 2 := ⟨hp_mu (tb_8 (List.mem_of_getElem? (i := 164) rfl)) rfl, hp_mu (tb_1 (List.mem_of_getElem? (i := 12) rfl)) rfl, by decide, by decide +kernel⟩
theorem lv_X12_peaks : hp_LV yX12_peaks 13 := ⟨hp_mu (tb_8 (List.mem_of_getElem? (i := 162) rfl)) rfl, hp_mu (tb_8 (List.mem_of_getElem? (i := 163) rfl)) rfl, rfl, rfl, rfl⟩
theorem lb_X12_extend : hp_LB yX12_extend cX12_extend 5 (some .int) 2 := ⟨hp_mu (tb_8 (List.mem_of_getElem? (i := 168) rfl)) rfl, hp_mu (tb_1 (List.mem_of_getElem? (i := 12) rfl)) rfl, by decide, by decide +kernel⟩
theorem lv_X12_extend : hp_LV yX12_extend 13 := ⟨hp_mu (tb_8 (List.mem_of_getElem? (i := 166) rfl)) rfl, hp_mu (tb_8 (List.mem_of_getElem? (i := 167) rfl)) rfl, rfl, rfl, rfl⟩
theorem lb_X12_checks : hp_LB yX12_checks cX12_checks 5 (some .int) 4 := ⟨hp_mu (tb_8 (List.mem_of_getElem? (i := 174) rfl)) rfl, hp_mu (tb_1 (List.mem_of_getElem? (i := 12) rfl)) rfl, by decide, by decide +kernel⟩
theorem lv_X12_checks : hp_LV yX12_checks 13 := ⟨hp_mu (tb_8 (List.mem_of_getElem? (i := 172) rfl)) rfl, hp_mu (tb_8 (List.mem_of_getElem? (i := 173) rfl)) rfl, rfl, rfl, rfl⟩
theorem lb_X12_isThing : hp_LB yX12_isThing cX12_isThing 3 (some .boolean) 2 := ⟨hp_mu (tb_8 (List.mem_of_getElem? (i := 178) rfl)) rfl, hp_mu (tb_1 (List.mem_of_getElem? (i := 12) rfl)) rfl, by decide, by decide +kernel⟩
theorem lv_X12_isThing : hp_LV yX12_isThing 13 := ⟨hp_mu (tb_8 (List.mem_of_getElem? (i := 177) rfl)) rfl, hp_mu (tb_0 (List.mem_of_getElem? (i := 94) rfl)) rfl, rfl, rfl, rfl⟩
theorem lb_X12_fromPad : hp_LB yX12_fromPad cX12_fromPad 2 (some .int) 0 := ⟨hp_mu (tb_8 (List.mem_of_getElem? (i := 182) rfl)) rfl, hp_mu (tb_1 (List.mem_of_getElem? (i := 12) rfl)) rfl, by decide, by decide +kernel⟩
theorem lv_X12_fromPad : hp_LV yX12_fromPad 13 := ⟨hp_mu (tb_8 (List.mem_of_getElem? (i := 181) rfl)) rfl, hp_mu (tb_0 (List.mem_of_getElem? (i := 95) rfl)) rfl, rfl, rfl, rfl⟩
theorem lb_X12_growth_ : hp_LB yX12_growth_ cX12_growth_ 5 (some .int) 4 := ⟨hp_mu (tb_8 (List.mem_of_getElem? (i := 186) rfl)) rfl, hp_mu (tb_1 (List.mem_of_getElem? (i := 12) rfl)) rfl, by decide, by decide +kernel⟩
theorem lv_X12_growth_ : hp_LV yX12_growth_ 13 := ⟨hp_mu (tb_8 (List.mem_of_getElem? (i := 184) rfl)) rfl, hp_mu (tb_8 (List.mem_of_getElem? (i := 185) rfl)) rfl, rfl, rfl, rfl⟩
theorem lb_X12_bundled : hp_LB yX12_bundled cX12_bundled 7 (some .int) 3 := ⟨hp_mu (tb_8 (List.mem_of_getElem? (i := 190) rfl)) rfl, hp_mu (tb_1 (List.mem_of_getElem? (i := 12) rfl)) rfl, by decide, by decide +kernel⟩
theorem lv_X12_bundled : hp_LV yX12_bundled 13 := ⟨hp_mu (tb_8 (List.mem_of_getElem? (i := 188) rfl)) rfl, hp_mu (tb_8 (List.mem_of_getElem? (i := 189) rfl)) rfl, rfl, rfl, rfl⟩
theorem lb_X12_foldsBundle : hp_LB yX12_foldsBundle cX12_foldsBundle 6 (some .int) 3 := ⟨hp_mu (tb_8 (List.mem_of_getElem? (i := 194) rfl)) rfl, hp_mu (tb_1 (List.mem_of_getElem? (i := 12) rfl)) rfl, by decide, by decide +kernel⟩
theorem lv_X12_foldsBundle : hp_LV yX12_foldsBundle 13 := ⟨hp_mu (tb_8 (List.mem_of_getElem? (i := 193) rfl)) rfl, hp_mu (tb_0 (List.mem_of_getElem? (i := 96) rfl)) rfl, rfl, rfl, rfl⟩
theorem lb_X12_fold : hp_LB yX12_fold cX12_fold 3 (some .int) 0 := ⟨hp_mu (tb_8 (List.mem_of_getElem? (i := 198) rfl)) rfl, hp_mu (tb_1 (List.mem_of_getElem? (i := 12) rfl)) rfl, by decide, by decide +kernel⟩
theorem lv_X12_fold : hp_LV yX12_fold 13 := ⟨hp_mu (tb_8 (List.mem_of_getElem? (i := 196) rfl)) rfl, hp_mu (tb_8 (List.mem_of_getElem? (i := 197) rfl)) rfl, rfl, rfl, rfl⟩
theorem lb_X12_steps : hp_LB yX12_steps cX12_steps 3 (some .int) 2 := ⟨hp_mu (tb_8 (List.mem_of_getElem? (i := 202) rfl)) rfl, hp_mu (tb_1 (List.mem_of_getElem? (i := 12) rfl)) rfl, by decide, by decide +kernel⟩
theorem lv_X12_steps : hp_LV yX12_steps 13 := ⟨hp_mu (tb_8 (List.mem_of_getElem? (i := 200) rfl)) rfl, hp_mu (tb_8 (List.mem_of_getElem? (i := 201) rfl)) rfl, rfl, rfl, rfl⟩
theorem lb_X12_climbs : hp_LB yX12_climbs cX12_climbs 3 (some .int) 2 := ⟨hp_mu (tb_8 (List.mem_of_getElem? (i := 206) rfl)) rfl, hp_mu (tb_1 (List.mem_of_getElem? (i := 12) rfl)) rfl, by decide, by decide +kernel⟩
theorem lv_X12_climbs : hp_LV yX12_climbs 13 := ⟨hp_mu (tb_8 (List.mem_of_getElem? (i := 204) rfl)) rfl, hp_mu (tb_8 (List.mem_of_getElem? (i := 205) rfl)) rfl, rfl, rfl, rfl⟩
theorem lb_X12_agree : hp_LB yX12_agree cX12_agree 3 (some .int) 2 := ⟨hp_mu (tb_8 (List.mem_of_getElem? (i := 210) rfl)) rfl, hp_mu (tb_1 (List.mem_of_getElem? (i := 12) rfl)) rfl, by decide, by decide +kernel⟩
theorem lv_X12_agree : hp_LV yX12_agree 13 := ⟨hp_mu (tb_8 (List.mem_of_getElem? (i := 208) rfl)) rfl, hp_mu (tb_8 (List.mem_of_getElem? (i := 209) rfl)) rfl, rfl, rfl, rfl⟩
theorem lb_X12_isAgreed : hp_LB yX12_isAgreed cX12_isAgreed 4 (some .boolean) 2 := ⟨hp_mu (tb_8 (List.mem_of_getElem? (i := 214) rfl)) rfl, hp_mu (tb_1 (List.mem_of_getElem? (i := 12) rfl)) rfl, by decide, by decide +kernel⟩
theorem lv_X12_isAgreed : hp_LV yX12_isAgreed 13 := ⟨hp_mu (tb_8 (List.mem_of_getElem? (i := 213) rfl)) rfl, hp_mu (tb_0 (List.mem_of_getElem? (i := 97) rfl)) rfl, rfl, rfl, rfl⟩
theorem lb_X12_isHead : hp_LB yX12_isHead cX12_isHead 4 (some .boolean) 3 := ⟨hp_mu (tb_8 (List.mem_of_getElem? (i := 218) rfl)) rfl, hp_mu (tb_1 (List.mem_of_getElem? (i := 12) rfl)) rfl, by decide, by decide +kernel⟩
theorem lv_X12_isHead : hp_LV yX12_isHead 13 := ⟨hp_mu (tb_8 (List.mem_of_getElem? (i := 217) rfl)) rfl, hp_mu (tb_0 (List.mem_of_getElem? (i := 98) rfl)) rfl, rfl, rfl, rfl⟩
theorem lb_X12_where : hp_LB yX12_where cX12_where 6 (some .int) 2 := ⟨hp_mu (tb_8 (List.mem_of_getElem? (i := 222) rfl)) rfl, hp_mu (tb_1 (List.mem_of_getElem? (i := 12) rfl)) rfl, by decide, by decide +kernel⟩
theorem lv_X12_where : hp_LV yX12_where 13 := ⟨hp_mu (tb_8 (List.mem_of_getElem? (i := 220) rfl)) rfl, hp_mu (tb_8 (List.mem_of_getElem? (i := 221) rfl)) rfl, rfl, rfl, rfl⟩
theorem lb_X12_isTyped : hp_LB yX12_isTyped cX12_isTyped 3 (some .boolean) 1 := ⟨hp_mu (tb_8 (List.mem_of_getElem? (i := 226) rfl)) rfl, hp_mu (tb_1 (List.mem_of_getElem? (i := 12) rfl)) rfl, by decide, by decide +kernel⟩
theorem lv_X12_isTyped : hp_LV yX12_isTyped 13 := ⟨hp_mu (tb_8 (List.mem_of_getElem? (i := 225) rfl)) rfl, hp_mu (tb_0 (List.mem_of_getElem? (i := 99) rfl)) rfl, rfl, rfl, rfl⟩
theorem lb_X12_tree : hp_LB yX12_tree cX12_tree 5 (some .int) 4 := ⟨hp_mu (tb_8 (List.mem_of_getElem? (i := 230) rfl)) rfl, hp_mu (tb_1 (List.mem_of_getElem? (i := 12) rfl)) rfl, by decide, by decide +kernel⟩
theorem lv_X12_tree : hp_LV yX12_tree 13 := ⟨hp_mu (tb_8 (List.mem_of_getElem? (i := 228) rfl)) rfl, hp_mu (tb_8 (List.mem_of_getElem? (i := 229) rfl)) rfl, rfl, rfl, rfl⟩
theorem lb_X12_seeks : hp_LB yX12_seeks cX12_seeks 4 none 2 := ⟨hp_mu (tb_8 (List.mem_of_getElem? (i := 234) rfl)) rfl, hp_mu (tb_1 (List.mem_of_getElem? (i := 12) rfl)) rfl, by decide, by decide +kernel⟩
theorem lv_X12_seeks : hp_LV yX12_seeks 13 := ⟨hp_mu (tb_8 (List.mem_of_getElem? (i := 233) rfl)) rfl, hp_mu (tb_0 (List.mem_of_getElem? (i := 100) rfl)) rfl, rfl, rfl, rfl⟩
theorem lb_X12_proves : hp_LB yX12_proves cX12_proves 3 (some .int) 2 := ⟨hp_mu (tb_8 (List.mem_of_getElem? (i := 238) rfl)) rfl, hp_mu (tb_1 (List.mem_of_getElem? (i := 12) rfl)) rfl, by decide, by decide +kernel⟩
theorem lv_X12_proves : hp_LV yX12_proves 13 := ⟨hp_mu (tb_8 (List.mem_of_getElem? (i := 236) rfl)) rfl, hp_mu (tb_8 (List.mem_of_getElem? (i := 237) rfl)) rfl, rfl, rfl, rfl⟩
theorem lb_X12_longest : hp_LB yX12_longest cX12_longest 7 (some .int) 2 := ⟨hp_mu (tb_9 (List.mem_of_getElem? (i := 2) rfl)) rfl, hp_mu (tb_1 (List.mem_of_getElem? (i := 12) rfl)) rfl, by decide, by decide +kernel⟩
theorem lv_X12_longest : hp_LV yX12_longest 13 := ⟨hp_mu (tb_9 (List.mem_of_getElem? (i := 0) rfl)) rfl, hp_mu (tb_9 (List.mem_of_getElem? (i := 1) rfl)) rfl, rfl, rfl, rfl⟩
theorem lb_X12_part : hp_LB yX12_part cX12_part 9 (some .int) 3 := ⟨hp_mu (tb_9 (List.mem_of_getElem? (i := 6) rfl)) rfl, hp_mu (tb_1 (List.mem_of_getElem? (i := 12) rfl)) rfl, by decide, by decide +kernel⟩
theorem lv_X12_part : hp_LV yX12_part 13 := ⟨hp_mu (tb_9 (List.mem_of_getElem? (i := 4) rfl)) rfl, hp_mu (tb_9 (List.mem_of_getElem? (i := 5) rfl)) rfl, rfl, rfl, rfl⟩
theorem lb_X12_blame : hp_LB yX12_blame cX12_blame 7 (some .int) 2 := ⟨hp_mu (tb_9 (List.mem_of_getElem? (i := 10) rfl)) rfl, hp_mu (tb_1 (List.mem_of_getElem? (i := 12) rfl)) rfl, by decide, by decide +kernel⟩
theorem lv_X12_blame : hp_LV yX12_blame 13 := ⟨hp_mu (tb_9 (List.mem_of_getElem? (i := 8) rfl)) rfl, hp_mu (tb_9 (List.mem_of_getElem? (i := 9) rfl)) rfl, rfl, rfl, rfl⟩
theorem lb_X12_weak : hp_LB yX12_weak cX12_weak 10 (some .int) 4 := ⟨hp_mu (tb_9 (List.mem_of_getElem? (i := 14) rfl)) rfl, hp_mu (tb_1 (List.mem_of_getElem? (i := 12) rfl)) rfl, by decide, by decide +kernel⟩
theorem lv_X12_weak : hp_LV yX12_weak 13 := ⟨hp_mu (tb_9 (List.mem_of_getElem? (i := 12) rfl)) rfl, hp_mu (tb_9 (List.mem_of_getElem? (i := 13) rfl)) rfl, rfl, rfl, rfl⟩
theorem lb_X12_clash : hp_LB yX12_clash cX12_clash 7 (some .int) 5 := ⟨hp_mu (tb_9 (List.mem_of_getElem? (i := 18) rfl)) rfl, hp_mu (tb_1 (List.mem_of_getElem? (i := 12) rfl)) rfl, by decide, by decide +kernel⟩
theorem lv_X12_clash : hp_LV yX12_clash 13 := ⟨hp_mu (tb_9 (List.mem_of_getElem? (i := 16) rfl)) rfl, hp_mu (tb_9 (List.mem_of_getElem? (i := 17) rfl)) rfl, rfl, rfl, rfl⟩
theorem lb_X12_stepsIn : hp_LB yX12_stepsIn cX12_stepsIn 6 (some .int) 3 := ⟨hp_mu (tb_9 (List.mem_of_getElem? (i := 22) rfl)) rfl, hp_mu (tb_1 (List.mem_of_getElem? (i := 12) rfl)) rfl, by decide, by decide +kernel⟩
theorem lv_X12_stepsIn : hp_LV yX12_stepsIn 13 := ⟨hp_mu (tb_9 (List.mem_of_getElem? (i := 21) rfl)) rfl, hp_mu (tb_0 (List.mem_of_getElem? (i := 101) rfl)) rfl, rfl, rfl, rfl⟩
theorem lb_X12_forge : hp_LB yX12_forge cX12_forge 7 (some .int) 5 := ⟨hp_mu (tb_9 (List.mem_of_getElem? (i := 26) rfl)) rfl, hp_mu (tb_1 (List.mem_of_getElem? (i := 12) rfl)) rfl, by decide, by decide +kernel⟩
theorem lv_X12_forge : hp_LV yX12_forge 13 := ⟨hp_mu (tb_9 (List.mem_of_getElem? (i := 24) rfl)) rfl, hp_mu (tb_9 (List.mem_of_getElem? (i := 25) rfl)) rfl, rfl, rfl, rfl⟩
theorem lb_X12_trace : hp_LB yX12_trace cX12_trace 6 (some .int) 4 := ⟨hp_mu (tb_9 (List.mem_of_getElem? (i := 30) rfl)) rfl, hp_mu (tb_1 (List.mem_of_getElem? (i := 12) rfl)) rfl, by decide, by decide +kernel⟩
theorem lv_X12_trace : hp_LV yX12_trace 13 := ⟨hp_mu (tb_9 (List.mem_of_getElem? (i := 28) rfl)) rfl, hp_mu (tb_9 (List.mem_of_getElem? (i := 29) rfl)) rfl, rfl, rfl, rfl⟩
theorem lb_X12_span : hp_LB yX12_span cX12_span 5 (some .int) 4 := ⟨hp_mu (tb_9 (List.mem_of_getElem? (i := 34) rfl)) rfl, hp_mu (tb_1 (List.mem_of_getElem? (i := 12) rfl)) rfl, by decide, by decide +kernel⟩
theorem lv_X12_span : hp_LV yX12_span 13 := ⟨hp_mu (tb_9 (List.mem_of_getElem? (i := 32) rfl)) rfl, hp_mu (tb_9 (List.mem_of_getElem? (i := 33) rfl)) rfl, rfl, rfl, rfl⟩
theorem lb_X12_wayAt : hp_LB yX12_wayAt cX12_wayAt 3 (some .int) 2 := ⟨hp_mu (tb_9 (List.mem_of_getElem? (i := 38) rfl)) rfl, hp_mu (tb_1 (List.mem_of_getElem? (i := 12) rfl)) rfl, by decide, by decide +kernel⟩
theorem lv_X12_wayAt : hp_LV yX12_wayAt 13 := ⟨hp_mu (tb_9 (List.mem_of_getElem? (i := 37) rfl)) rfl, hp_mu (tb_0 (List.mem_of_getElem? (i := 102) rfl)) rfl, rfl, rfl, rfl⟩
theorem lb_X12_rise : hp_LB yX12_rise cX12_rise 5 (some .int) 4 := ⟨hp_mu (tb_9 (List.mem_of_getElem? (i := 42) rfl)) rfl, hp_mu (tb_1 (List.mem_of_getElem? (i := 12) rfl)) rfl, by decide, by decide +kernel⟩
theorem lv_X12_rise : hp_LV yX12_rise 13 := ⟨hp_mu (tb_9 (List.mem_of_getElem? (i := 40) rfl)) rfl, hp_mu (tb_9 (List.mem_of_getElem? (i := 41) rfl)) rfl, rfl, rfl, rfl⟩
theorem lb_X12_kept : hp_LB yX12_kept cX12_kept 6 (some .int) 3 := ⟨hp_mu (tb_9 (List.mem_of_getElem? (i := 46) rfl)) rfl, hp_mu (tb_1 (List.mem_of_getElem? (i := 12) rfl)) rfl, by decide, by decide +kernel⟩
theorem lv_X12_kept : hp_LV yX12_kept 13 := ⟨hp_mu (tb_9 (List.mem_of_getElem? (i := 44) rfl)) rfl, hp_mu (tb_9 (List.mem_of_getElem? (i := 45) rfl)) rfl, rfl, rfl, rfl⟩
theorem lb_X12_notes : hp_LB yX12_notes cX12_notes 2 none 0 := ⟨hp_mu (tb_9 (List.mem_of_getElem? (i := 50) rfl)) rfl, hp_mu (tb_1 (List.mem_of_getElem? (i := 12) rfl)) rfl, by decide, by decide +kernel⟩
theorem lv_X12_notes : hp_LV yX12_notes 13 := ⟨hp_mu (tb_9 (List.mem_of_getElem? (i := 49) rfl)) rfl, hp_mu (tb_0 (List.mem_of_getElem? (i := 103) rfl)) rfl, rfl, rfl, rfl⟩
theorem lb_X12_had : hp_LB yX12_had cX12_had 4 (some .boolean) 2 := ⟨hp_mu (tb_9 (List.mem_of_getElem? (i := 54) rfl)) rfl, hp_mu (tb_1 (List.mem_of_getElem? (i := 12) rfl)) rfl, by decide, by decide +kernel⟩
theorem lv_X12_had : hp_LV yX12_had 13 := ⟨hp_mu (tb_9 (List.mem_of_getElem? (i := 53) rfl)) rfl, hp_mu (tb_0 (List.mem_of_getElem? (i := 104) rfl)) rfl, rfl, rfl, rfl⟩
theorem lb_X12_sick : hp_LB yX12_sick cX12_sick 4 (some .int) 1 := ⟨hp_mu (tb_9 (List.mem_of_getElem? (i := 58) rfl)) rfl, hp_mu (tb_1 (List.mem_of_getElem? (i := 12) rfl)) rfl, by decide, by decide +kernel⟩
theorem lv_X12_sick : hp_LV yX12_sick 13 := ⟨hp_mu (tb_9 (List.mem_of_getElem? (i := 56) rfl)) rfl, hp_mu (tb_9 (List.mem_of_getElem? (i := 57) rfl)) rfl, rfl, rfl, rfl⟩
theorem lb_X12_chain : hp_LB yX12_chain cX12_chain 7 (some .int) 2 := ⟨hp_mu (tb_9 (List.mem_of_getElem? (i := 62) rfl)) rfl, hp_mu (tb_1 (List.mem_of_getElem? (i := 12) rfl)) rfl, by decide, by decide +kernel⟩
theorem lv_X12_chain : hp_LV yX12_chain 13 := ⟨hp_mu (tb_9 (List.mem_of_getElem? (i := 60) rfl)) rfl, hp_mu (tb_9 (List.mem_of_getElem? (i := 61) rfl)) rfl, rfl, rfl, rfl⟩
theorem lb_X12_sizeAbove : hp_LB yX12_sizeAbove cX12_sizeAbove 5 (some .int) 2 := ⟨hp_mu (tb_9 (List.mem_of_getElem? (i := 66) rfl)) rfl, hp_mu (tb_1 (List.mem_of_getElem? (i := 12) rfl)) rfl, by decide, by decide +kernel⟩
theorem lv_X12_sizeAbove : hp_LV yX12_sizeAbove 13 := ⟨hp_mu (tb_9 (List.mem_of_getElem? (i := 65) rfl)) rfl, hp_mu (tb_0 (List.mem_of_getElem? (i := 105) rfl)) rfl, rfl, rfl, rfl⟩
theorem lb_X12_split : hp_LB yX12_split cX12_split 6 (some .int) 1 := ⟨hp_mu (tb_9 (List.mem_of_getElem? (i := 70) rfl)) rfl, hp_mu (tb_1 (List.mem_of_getElem? (i := 12) rfl)) rfl, by decide, by decide +kernel⟩
theorem lv_X12_split : hp_LV yX12_split 13 := ⟨hp_mu (tb_9 (List.mem_of_getElem? (i := 68) rfl)) rfl, hp_mu (tb_9 (List.mem_of_getElem? (i := 69) rfl)) rfl, rfl, rfl, rfl⟩
theorem lb_X12_tell : hp_LB yX12_tell cX12_tell 4 (some .int) 3 := ⟨hp_mu (tb_9 (List.mem_of_getElem? (i := 74) rfl)) rfl, hp_mu (tb_1 (List.mem_of_getElem? (i := 12) rfl)) rfl, by decide, by decide +kernel⟩
theorem lv_X12_tell : hp_LV yX12_tell 13 := ⟨hp_mu (tb_9 (List.mem_of_getElem? (i := 72) rfl)) rfl, hp_mu (tb_9 (List.mem_of_getElem? (i := 73) rfl)) rfl, rfl, rfl, rfl⟩
theorem lb_X12_says : hp_LB yX12_says cX12_says 4 none 2 := ⟨hp_mu (tb_9 (List.mem_of_getElem? (i := 79) rfl)) rfl, hp_mu (tb_1 (List.mem_of_getElem? (i := 12) rfl)) rfl, by decide, by decide +kernel⟩
theorem lv_X12_says : hp_LV yX12_says 13 := ⟨hp_mu (tb_9 (List.mem_of_getElem? (i := 78) rfl)) rfl, hp_mu (tb_0 (List.mem_of_getElem? (i := 106) rfl)) rfl, rfl, rfl, rfl⟩
theorem lb_X12_tells : hp_LB yX12_tells cX12_tells 2 none 1 := ⟨hp_mu (tb_9 (List.mem_of_getElem? (i := 83) rfl)) rfl, hp_mu (tb_1 (List.mem_of_getElem? (i := 12) rfl)) rfl, by decide, by decide +kernel⟩
theorem lv_X12_tells : hp_LV yX12_tells 13 := ⟨hp_mu (tb_9 (List.mem_of_getElem? (i := 82) rfl)) rfl, hp_mu (tb_0 (List.mem_of_getElem? (i := 107) rfl)) rfl, rfl, rfl, rfl⟩
theorem lb_X12_tellsNumber : hp_LB yX12_tellsNumber cX12_tellsNumber 3 none 1 := ⟨hp_mu (tb_9 (List.mem_of_getElem? (i := 89) rfl)) rfl, hp_mu (tb_1 (List.mem_of_getElem? (i := 12) rfl)) rfl, by decide, by decide +kernel⟩
theorem lv_X12_tellsNumber : hp_LV yX12_tellsNumber 13 := ⟨hp_mu (tb_9 (List.mem_of_getElem? (i := 88) rfl)) rfl, hp_mu (tb_0 (List.mem_of_getElem? (i := 108) rfl)) rfl, rfl, rfl, rfl⟩
theorem lb_X12_tellsMarks : hp_LB yX12_tellsMarks cX12_tellsMarks 3 (some .int) 1 := ⟨hp_mu (tb_9 (List.mem_of_getElem? (i := 96) rfl)) rfl, hp_mu (tb_1 (List.mem_of_getElem? (i := 12) rfl)) rfl, by decide, by decide +kernel⟩
theorem lv_X12_tellsMarks : hp_LV yX12_tellsMarks 13 := ⟨hp_mu (tb_9 (List.mem_of_getElem? (i := 95) rfl)) rfl, hp_mu (tb_0 (List.mem_of_getElem? (i := 109) rfl)) rfl, rfl, rfl, rfl⟩
theorem lb_X12_tellGrowth : hp_LB yX12_tellGrowth cX12_tellGrowth 4 (some .int) 3 := ⟨hp_mu (tb_9 (List.mem_of_getElem? (i := 100) rfl)) rfl, hp_mu (tb_1 (List.mem_of_getElem? (i := 12) rfl)) rfl, by decide, by decide +kernel⟩
theorem lv_X12_tellGrowth : hp_LV yX12_tellGrowth 13 := ⟨hp_mu (tb_9 (List.mem_of_getElem? (i := 98) rfl)) rfl, hp_mu (tb_9 (List.mem_of_getElem? (i := 99) rfl)) rfl, rfl, rfl, rfl⟩
theorem lb_X12_out : hp_LB yX12_out cX12_out 2 (some .int) 1 := ⟨hp_mu (tb_9 (List.mem_of_getElem? (i := 106) rfl)) rfl, hp_mu (tb_1 (List.mem_of_getElem? (i := 12) rfl)) rfl, by decide, by decide +kernel⟩
theorem lv_X12_out : hp_LV yX12_out 13 := ⟨hp_mu (tb_9 (List.mem_of_getElem? (i := 104) rfl)) rfl, hp_mu (tb_9 (List.mem_of_getElem? (i := 105) rfl)) rfl, rfl, rfl, rfl⟩
theorem lb_X12_trusted : hp_LB yX12_trusted cX12_trusted 5 (some .int) 2 := ⟨hp_mu (tb_9 (List.mem_of_getElem? (i := 110) rfl)) rfl, hp_mu (tb_1 (List.mem_of_getElem? (i := 12) rfl)) rfl, by decide, by decide +kernel⟩
theorem lv_X12_trusted : hp_LV yX12_trusted 13 := ⟨hp_mu (tb_9 (List.mem_of_getElem? (i := 108) rfl)) rfl, hp_mu (tb_9 (List.mem_of_getElem? (i := 109) rfl)) rfl, rfl, rfl, rfl⟩
theorem lb_X12_saves : hp_LB yX12_saves cX12_saves 5 (some .int) 2 := ⟨hp_mu (tb_9 (List.mem_of_getElem? (i := 114) rfl)) rfl, hp_mu (tb_1 (List.mem_of_getElem? (i := 12) rfl)) rfl, by decide, by decide +kernel⟩
theorem lv_X12_saves : hp_LV yX12_saves 13 := ⟨hp_mu (tb_9 (List.mem_of_getElem? (i := 112) rfl)) rfl, hp_mu (tb_9 (List.mem_of_getElem? (i := 113) rfl)) rfl, rfl, rfl, rfl⟩
theorem lb_X12_who : hp_LB yX12_who cX12_who 5 (some .int) 2 := ⟨hp_mu (tb_9 (List.mem_of_getElem? (i := 118) rfl)) rfl, hp_mu (tb_1 (List.mem_of_getElem? (i := 12) rfl)) rfl, by decide, by decide +kernel⟩
theorem lv_X12_who : hp_LV yX12_who 13 := ⟨hp_mu (tb_9 (List.mem_of_getElem? (i := 116) rfl)) rfl, hp_mu (tb_9 (List.mem_of_getElem? (i := 117) rfl)) rfl, rfl, rfl, rfl⟩
theorem lk_L_9 : hp_LK RL 9 yX11_init := Or.inl (hp_mu (tb_1 (List.mem_of_getElem? (i := 22) rfl)) rfl)
theorem lk_X11_15 : hp_LK RX11 15 yX10_init := Or.inl (hp_mu (tb_1 (List.mem_of_getElem? (i := 30) rfl)) rfl)
theorem lk_X10_49 : hp_LK RX10 49 yX5_init := Or.inr ⟨"ProvenRecord", List.mem_filter.mpr ⟨tb_1 (List.mem_of_getElem? (i := 43) rfl), by decide +kernel⟩⟩
theorem lk_X10_56 : hp_LK RX10 56 yX8_init := Or.inr ⟨"ProvenRecord", List.mem_filter.mpr ⟨tb_1 (List.mem_of_getElem? (i := 62) rfl), by decide +kernel⟩⟩
theorem lk_X10_61 : hp_LK RX10 61 yX2_init := Or.inl (hp_mu (tb_1 (List.mem_of_getElem? (i := 87) rfl)) rfl)
theorem lk_X2_25 : hp_LK RX2 25 yX9_init := Or.inr ⟨"ProvenRecord", List.mem_filter.mpr ⟨tb_1 (List.mem_of_getElem? (i := 94) rfl), by decide +kernel⟩⟩
theorem lk_X10_62 : hp_LK RX10 62 yX1_init := Or.inr ⟨"ProvenRecord", List.mem_filter.mpr ⟨tb_1 (List.mem_of_getElem? (i := 121) rfl), by decide +kernel⟩⟩
theorem lk_X1_24 : hp_LK RX1 24 yX5_init := Or.inr ⟨"ProvenRecord", List.mem_filter.mpr ⟨tb_1 (List.mem_of_getElem? (i := 126) rfl), by decide +kernel⟩⟩
theorem lk_X10_63 : hp_LK RX10 63 yX7_init := Or.inr ⟨"ProvenRecord", List.mem_filter.mpr ⟨tb_1 (List.mem_of_getElem? (i := 153) rfl), by decide +kernel⟩⟩
theorem lk_X11_25 : hp_LK RX11 25 yX5_init := Or.inr ⟨"ProvenRecord", List.mem_filter.mpr ⟨tb_1 (List.mem_of_getElem? (i := 217) rfl), by decide +kernel⟩⟩
theorem lk_X11_39 : hp_LK RX11 39 yX9_init := Or.inr ⟨"ProvenRecord", List.mem_filter.mpr ⟨tb_1 (List.mem_of_getElem? (i := 219) rfl), by decide +kernel⟩⟩
theorem lk_X11_61 : hp_LK RX11 61 yX8_init := Or.inr ⟨"ProvenRecord", List.mem_filter.mpr ⟨tb_1 (List.mem_of_getElem? (i := 221) rfl), by decide +kernel⟩⟩
theorem lk_X11_74 : hp_LK RX11 74 yX0_init := Or.inr ⟨"ProvenRecord", List.mem_filter.mpr ⟨tb_1 (List.mem_of_getElem? (i := 224) rfl), by decide +kernel⟩⟩
theorem lk_X0_17 : hp_LK RX0 17 yX5_init := Or.inr ⟨"ProvenRecord", List.mem_filter.mpr ⟨tb_1 (List.mem_of_getElem? (i := 229) rfl), by decide +kernel⟩⟩
theorem lk_X11_81 : hp_LK RX11 81 yX3_init := Or.inr ⟨"ProvenRecord", List.mem_filter.mpr ⟨tb_2 (List.mem_of_getElem? (i := 8) rfl), by decide +kernel⟩⟩
theorem lk_X3_11 : hp_LK RX3 11 yX6_init := Or.inr ⟨"ProvenRecord", List.mem_filter.mpr ⟨tb_2 (List.mem_of_getElem? (i := 14) rfl), by decide +kernel⟩⟩
theorem lk_X3_20 : hp_LK RX3 20 yX5_init := Or.inr ⟨"ProvenRecord", List.mem_filter.mpr ⟨tb_2 (List.mem_of_getElem? (i := 45) rfl), by decide +kernel⟩⟩
theorem lk_X3_27 : hp_LK RX3 27 yX8_init := Or.inr ⟨"ProvenRecord", List.mem_filter.mpr ⟨tb_2 (List.mem_of_getElem? (i := 47) rfl), by decide +kernel⟩⟩
theorem lk_X3_48 : hp_LK RX3 48 yX9_init := Or.inr ⟨"ProvenRecord", List.mem_filter.mpr ⟨tb_2 (List.mem_of_getElem? (i := 50) rfl), by decide +kernel⟩⟩
theorem lk_L_13 : hp_LK RL 13 yX11_status := Or.inl (hp_mu (tb_2 (List.mem_of_getElem? (i := 146) rfl)) rfl)
theorem lk_L_18 : hp_LK RL 18 yX11_feed := Or.inl (hp_mu (tb_2 (List.mem_of_getElem? (i := 150) rfl)) rfl)
theorem lk_X11_94 : hp_LK RX11 94 yX11_putOnTape := Or.inl (hp_mu (tb_2 (List.mem_of_getElem? (i := 154) rfl)) rfl)
theorem lk_L_23 : hp_LK RL 23 yX11_load := Or.inl (hp_mu (tb_2 (List.mem_of_getElem? (i := 158) rfl)) rfl)
theorem lk_X11_98 : hp_LK RX11 98 yX11_refuse := Or.inl (hp_mu (tb_2 (List.mem_of_getElem? (i := 162) rfl)) rfl)
theorem lk_X11_102 : hp_LK RX11 102 yX10_renew := Or.inl (hp_mu (tb_2 (List.mem_of_getElem? (i := 166) rfl)) rfl)
theorem lk_X10_64 : hp_LK RX10 64 yX10_logAt := Or.inl (hp_mu (tb_2 (List.mem_of_getElem? (i := 170) rfl)) rfl)
theorem lk_X10_71 : hp_LK RX10 71 yX10_watcherAt := Or.inl (hp_mu (tb_2 (List.mem_of_getElem? (i := 174) rfl)) rfl)
theorem lk_X10_75 : hp_LK RX10 75 yX7_renew := Or.inl (hp_mu (tb_2 (List.mem_of_getElem? (i := 178) rfl)) rfl)
theorem lk_X7_25 : hp_LK RX7 25 yX7_trust := Or.inl (hp_mu (tb_2 (List.mem_of_getElem? (i := 182) rfl)) rfl)
theorem lk_X11_105 : hp_LK RX11 105 yX11_loadLines := Or.inl (hp_mu (tb_2 (List.mem_of_getElem? (i := 186) rfl)) rfl)
theorem lk_X11_118 : hp_LK RX11 118 yX3_begin := Or.inl (hp_mu (tb_2 (List.mem_of_getElem? (i := 190) rfl)) rfl)
theorem lk_X3_59 : hp_LK RX3 59 yX6_begin := Or.inl (hp_mu (tb_2 (List.mem_of_getElem? (i := 194) rfl)) rfl)
theorem lk_X6_34 : hp_LK RX6 34 yJ9_min_7cf53 := Or.inl (hp_mu (tb_2 (List.mem_of_getElem? (i := 198) rfl)) rfl)
theorem lk_X6_40 : hp_LK RX6 40 yJ9_max_7cf53 := Or.inl (hp_mu (tb_2 (List.mem_of_getElem? (i := 201) rfl)) rfl)
theorem lk_X3_63 : hp_LK RX3 63 yX6_advance := Or.inl (hp_mu (tb_2 (List.mem_of_getElem? (i := 204) rfl)) rfl)
theorem lk_X6_43 : hp_LK RX6 43 yX6_byteAt := Or.inl (hp_mu (tb_2 (List.mem_of_getElem? (i := 208) rfl)) rfl)
theorem lk_X6_47 : hp_LK RX6 47 yX6_isBlank := Or.inl (hp_mu (tb_2 (List.mem_of_getElem? (i := 212) rfl)) rfl)
theorem lk_X6_51 : hp_LK RX6 51 yX6_kindOf := Or.inl (hp_mu (tb_2 (List.mem_of_getElem? (i := 215) rfl)) rfl)
theorem lk_X11_439 : hp_LK RX11 439 yX3_readModulus := Or.inl (hp_mu (tb_2 (List.mem_of_getElem? (i := 218) rfl)) rfl)
theorem lk_X3_71 : hp_LK RX3 71 yX6_spells := Or.inl (hp_mu (tb_2 (List.mem_of_getElem? (i := 223) rfl)) rfl)
theorem lk_X6_54 : hp_LK RX6 54 yJ0_length_8abf5 := Or.inl (hp_mu (tb_2 (List.mem_of_getElem? (i := 227) rfl)) rfl)
theorem lk_J0_335 : hp_LK RJ0 335 yJ0_coder_7d493 := Or.inl (hp_mu (tb_2 (List.mem_of_getElem? (i := 231) rfl)) rfl)
theorem lk_X6_59 : hp_LK RX6 59 yJ0_charAt_5068e := Or.inl (hp_mu (tb_2 (List.mem_of_getElem? (i := 237) rfl)) rfl)
theorem lk_J0_492 : hp_LK RJ0 492 yJ0_isLatin1_aae02 := Or.inl (hp_mu (tb_3 (List.mem_of_getElem? (i := 1) rfl)) rfl)
theorem lk_J0_495 : hp_LK RJ0 495 yJ1_charAt_3b067 := Or.inl (hp_mu (tb_3 (List.mem_of_getElem? (i := 5) rfl)) rfl)
theorem lk_J1_9 : hp_LK RJ1 9 yJ0_checkIndex_df160 := Or.inl (hp_mu (tb_3 (List.mem_of_getElem? (i := 8) rfl)) rfl)
theorem lk_J0_1059 : hp_LK RJ0 1059 yJ3_checkIndex_8e157 := Or.inl (hp_mu (tb_3 (List.mem_of_getElem? (i := 13) rfl)) rfl)
theorem lk_X3_75 : hp_LK RX3 75 yX3_readNumber := Or.inl (hp_mu (tb_3 (List.mem_of_getElem? (i := 35) rfl)) rfl)
theorem lk_X3_117 : hp_LK RX3 117 yX3_stray := Or.inl (hp_mu (tb_3 (List.mem_of_getElem? (i := 39) rfl)) rfl)
theorem lk_X3_145 : hp_LK RX3 145 yX3_fail := Or.inl (hp_mu (tb_3 (List.mem_of_getElem? (i := 43) rfl)) rfl)
theorem lk_X3_79 : hp_LK RX3 79 yX3_readSign := Or.inl (hp_mu (tb_3 (List.mem_of_getElem? (i := 47) rfl)) rfl)
theorem lk_X11_443 : hp_LK RX11 443 yX3_isAtEnd := Or.inl (hp_mu (tb_3 (List.mem_of_getElem? (i := 51) rfl)) rfl)
theorem lk_X11_163 : hp_LK RX11 163 yX10_logAt := Or.inl (hp_mu (tb_3 (List.mem_of_getElem? (i := 55) rfl)) rfl)
theorem lk_X11_447 : hp_LK RX11 447 yX3_readLine := Or.inl (hp_mu (tb_3 (List.mem_of_getElem? (i := 56) rfl)) rfl)
theorem lk_X3_88 : hp_LK RX3 88 yX3_readAdd := Or.inl (hp_mu (tb_3 (List.mem_of_getElem? (i := 61) rfl)) rfl)
theorem lk_X3_99 : hp_LK RX3 99 yX3_hasRoom := Or.inl (hp_mu (tb_3 (List.mem_of_getElem? (i := 65) rfl)) rfl)
theorem lk_X3_141 : hp_LK RX3 141 yX9_clear := Or.inl (hp_mu (tb_3 (List.mem_of_getElem? (i := 69) rfl)) rfl)
theorem lk_X3_149 : hp_LK RX3 149 yX6_copyWord := Or.inl (hp_mu (tb_3 (List.mem_of_getElem? (i := 73) rfl)) rfl)
theorem lk_X6_63 : hp_LK RX6 63 yX9_clear := Or.inl (hp_mu (tb_3 (List.mem_of_getElem? (i := 77) rfl)) rfl)
theorem lk_X6_68 : hp_LK RX6 68 yX9_put := Or.inl (hp_mu (tb_3 (List.mem_of_getElem? (i := 78) rfl)) rfl)
theorem lk_X3_114 : hp_LK RX3 114 yX3_readShow := Or.inl (hp_mu (tb_3 (List.mem_of_getElem? (i := 86) rfl)) rfl)
theorem lk_X11_237 : hp_LK RX11 237 yX10_addWord := Or.inl (hp_mu (tb_3 (List.mem_of_getElem? (i := 90) rfl)) rfl)
theorem lk_X10_120 : hp_LK RX10 120 yX2_putWord := Or.inl (hp_mu (tb_3 (List.mem_of_getElem? (i := 94) rfl)) rfl)
theorem lk_X2_26 : hp_LK RX2 26 yX9_copy := Or.inl (hp_mu (tb_3 (List.mem_of_getElem? (i := 98) rfl)) rfl)
theorem lk_X9_19 : hp_LK RX9 19 yX9_clear := Or.inl (hp_mu (tb_3 (List.mem_of_getElem? (i := 102) rfl)) rfl)
theorem lk_X9_22 : hp_LK RX9 22 yX9_letterAt := Or.inl (hp_mu (tb_3 (List.mem_of_getElem? (i := 103) rfl)) rfl)
theorem lk_X9_26 : hp_LK RX9 26 yX9_put := Or.inl (hp_mu (tb_3 (List.mem_of_getElem? (i := 107) rfl)) rfl)
theorem lk_X2_30 : hp_LK RX2 30 yX9_markBy := Or.inl (hp_mu (tb_3 (List.mem_of_getElem? (i := 108) rfl)) rfl)
theorem lk_X9_30 : hp_LK RX9 30 yX11_mixed := Or.inr ⟨"ProvenRecord", List.mem_filter.mpr ⟨tb_3 (List.mem_of_getElem? (i := 112) rfl), by decide +kernel⟩⟩
theorem lk_X11_241 : hp_LK RX11 241 yX10_forkLog := Or.inl (hp_mu (tb_3 (List.mem_of_getElem? (i := 117) rfl)) rfl)
theorem lk_X10_124 : hp_LK RX10 124 yX2_wordAt := Or.inl (hp_mu (tb_3 (List.mem_of_getElem? (i := 121) rfl)) rfl)
theorem lk_X11_244 : hp_LK RX11 244 yX10_freezeHead := Or.inl (hp_mu (tb_3 (List.mem_of_getElem? (i := 125) rfl)) rfl)
theorem lk_X10_107 : hp_LK RX10 107 yX10_headOf := Or.inl (hp_mu (tb_3 (List.mem_of_getElem? (i := 129) rfl)) rfl)
theorem lk_X10_100 : hp_LK RX10 100 yX10_treeMark := Or.inl (hp_mu (tb_3 (List.mem_of_getElem? (i := 133) rfl)) rfl)
theorem lk_X10_82 : hp_LK RX10 82 yJ9_min_7cf53 := Or.inl (hp_mu (tb_3 (List.mem_of_getElem? (i := 137) rfl)) rfl)
theorem lk_X10_88 : hp_LK RX10 88 yX2_markAt := Or.inl (hp_mu (tb_3 (List.mem_of_getElem? (i := 138) rfl)) rfl)
theorem lk_X10_92 : hp_LK RX10 92 yX11_markOfTwo := Or.inr ⟨"ProvenRecord", List.mem_filter.mpr ⟨tb_3 (List.mem_of_getElem? (i := 142) rfl), by decide +kernel⟩⟩
theorem lk_X10_143 : hp_LK RX10 143 yX10_peaksOf := Or.inl (hp_mu (tb_3 (List.mem_of_getElem? (i := 146) rfl)) rfl)
theorem lk_X10_96 : hp_LK RX10 96 yX5_shorten := Or.inl (hp_mu (tb_3 (List.mem_of_getElem? (i := 150) rfl)) rfl)
theorem lk_X10_104 : hp_LK RX10 104 yX5_put := Or.inl (hp_mu (tb_3 (List.mem_of_getElem? (i := 154) rfl)) rfl)
theorem lk_X11_220 : hp_LK RX11 220 yX10_watcherAt := Or.inl (hp_mu (tb_3 (List.mem_of_getElem? (i := 158) rfl)) rfl)
theorem lk_X11_247 : hp_LK RX11 247 yX10_showTo := Or.inl (hp_mu (tb_3 (List.mem_of_getElem? (i := 159) rfl)) rfl)
theorem lk_X10_167 : hp_LK RX10 167 yX10_whyGrown := Or.inl (hp_mu (tb_3 (List.mem_of_getElem? (i := 163) rfl)) rfl)
theorem lk_X10_151 : hp_LK RX10 151 yX8_toGrowth := Or.inl (hp_mu (tb_3 (List.mem_of_getElem? (i := 167) rfl)) rfl)
theorem lk_X8_30 : hp_LK RX8 30 yX8_clear := Or.inl (hp_mu (tb_3 (List.mem_of_getElem? (i := 171) rfl)) rfl)
theorem lk_X8_33 : hp_LK RX8 33 yX11_firstPartOf := Or.inr ⟨"ProvenRecord", List.mem_filter.mpr ⟨tb_3 (List.mem_of_getElem? (i := 175) rfl), by decide +kernel⟩⟩
theorem lk_X11_463 : hp_LK RX11 463 yJ6_highestOneBit_0f7a4 := Or.inl (hp_mu (tb_3 (List.mem_of_getElem? (i := 178) rfl)) rfl)
theorem lk_J6_51 : hp_LK RJ6 51 yJ6_numberOfLeadingZeros_0f7a4 := Or.inl (hp_mu (tb_3 (List.mem_of_getElem? (i := 182) rfl)) rfl)
theorem lk_X8_37 : hp_LK RX8 37 yX8_put := Or.inl (hp_mu (tb_3 (List.mem_of_getElem? (i := 186) rfl)) rfl)
theorem lk_X8_41 : hp_LK RX8 41 yX8_turnRound := Or.inl (hp_mu (tb_3 (List.mem_of_getElem? (i := 190) rfl)) rfl)
theorem lk_X10_155 : hp_LK RX10 155 yX10_marksAlong := Or.inl (hp_mu (tb_3 (List.mem_of_getElem? (i := 194) rfl)) rfl)
theorem lk_X10_114 : hp_LK RX10 114 yX8_firstAt := Or.inl (hp_mu (tb_3 (List.mem_of_getElem? (i := 198) rfl)) rfl)
theorem lk_X10_117 : hp_LK RX10 117 yX8_manyAt := Or.inl (hp_mu (tb_3 (List.mem_of_getElem? (i := 202) rfl)) rfl)
theorem lk_X10_159 : hp_LK RX10 159 yX8_whyGrowth := Or.inl (hp_mu (tb_3 (List.mem_of_getElem? (i := 206) rfl)) rfl)
theorem lk_X8_79 : hp_LK RX8 79 yX8_toGrowth := Or.inl (hp_mu (tb_3 (List.mem_of_getElem? (i := 210) rfl)) rfl)
theorem lk_X8_65 : hp_LK RX8 65 yX5_at := Or.inl (hp_mu (tb_3 (List.mem_of_getElem? (i := 211) rfl)) rfl)
theorem lk_X8_70 : hp_LK RX8 70 yX8_joined := Or.inl (hp_mu (tb_3 (List.mem_of_getElem? (i := 215) rfl)) rfl)
theorem lk_X8_58 : hp_LK RX8 58 yX8_isAhead := Or.inl (hp_mu (tb_3 (List.mem_of_getElem? (i := 219) rfl)) rfl)
theorem lk_X8_62 : hp_LK RX8 62 yX11_markOfTwo := Or.inr ⟨"ProvenRecord", List.mem_filter.mpr ⟨tb_3 (List.mem_of_getElem? (i := 223) rfl), by decide +kernel⟩⟩
theorem lk_X10_171 : hp_LK RX10 171 yX7_trust := Or.inl (hp_mu (tb_3 (List.mem_of_getElem? (i := 224) rfl)) rfl)
theorem lk_X10_174 : hp_LK RX10 174 yX7_hearWhy := Or.inl (hp_mu (tb_3 (List.mem_of_getElem? (i := 225) rfl)) rfl)
theorem lk_X11_109 : hp_LK RX11 109 yX5_shorten := Or.inl (hp_mu (tb_3 (List.mem_of_getElem? (i := 229) rfl)) rfl)
theorem lk_X11_115 : hp_LK RX11 115 yX11_answer := Or.inl (hp_mu (tb_3 (List.mem_of_getElem? (i := 230) rfl)) rfl)
theorem lk_L_28 : hp_LK RL 28 yX11_hear := Or.inl (hp_mu (tb_3 (List.mem_of_getElem? (i := 234) rfl)) rfl)
theorem lk_X11_125 : hp_LK RX11 125 yX3_readProofs := Or.inl (hp_mu (tb_3 (List.mem_of_getElem? (i := 238) rfl)) rfl)
theorem lk_X3_120 : hp_LK RX3 120 yX5_shorten := Or.inl (hp_mu (tb_4 (List.mem_of_getElem? (i := 2) rfl)) rfl)
theorem lk_X3_124 : hp_LK RX3 124 yX3_isAtEnd := Or.inl (hp_mu (tb_4 (List.mem_of_getElem? (i := 3) rfl)) rfl)
theorem lk_X3_134 : hp_LK RX3 134 yX3_readInclusion := Or.inl (hp_mu (tb_4 (List.mem_of_getElem? (i := 6) rfl)) rfl)
theorem lk_X3_158 : hp_LK RX3 158 yX3_readWord := Or.inl (hp_mu (tb_4 (List.mem_of_getElem? (i := 12) rfl)) rfl)
theorem lk_X3_163 : hp_LK RX3 163 yX3_readMark := Or.inl (hp_mu (tb_4 (List.mem_of_getElem? (i := 17) rfl)) rfl)
theorem lk_X3_168 : hp_LK RX3 168 yX3_readRow := Or.inl (hp_mu (tb_4 (List.mem_of_getElem? (i := 22) rfl)) rfl)
theorem lk_X3_179 : hp_LK RX3 179 yX5_put := Or.inl (hp_mu (tb_4 (List.mem_of_getElem? (i := 27) rfl)) rfl)
theorem lk_X3_171 : hp_LK RX3 171 yX8_toThing := Or.inl (hp_mu (tb_4 (List.mem_of_getElem? (i := 28) rfl)) rfl)
theorem lk_X3_175 : hp_LK RX3 175 yX8_whyInclusion := Or.inl (hp_mu (tb_4 (List.mem_of_getElem? (i := 32) rfl)) rfl)
theorem lk_X8_75 : hp_LK RX8 75 yX8_folded := Or.inl (hp_mu (tb_4 (List.mem_of_getElem? (i := 36) rfl)) rfl)
theorem lk_X3_138 : hp_LK RX3 138 yX3_readGrowth := Or.inl (hp_mu (tb_4 (List.mem_of_getElem? (i := 40) rfl)) rfl)
theorem lk_X3_182 : hp_LK RX3 182 yX8_whyGrowth := Or.inl (hp_mu (tb_4 (List.mem_of_getElem? (i := 44) rfl)) rfl)
theorem lk_X11_129 : hp_LK RX11 129 yX5_countOf := Or.inl (hp_mu (tb_4 (List.mem_of_getElem? (i := 45) rfl)) rfl)
theorem lk_X5_19 : hp_LK RX5 19 yX5_at := Or.inl (hp_mu (tb_4 (List.mem_of_getElem? (i := 49) rfl)) rfl)
theorem lk_L_32 : hp_LK RL 32 yX11_heard := Or.inl (hp_mu (tb_4 (List.mem_of_getElem? (i := 50) rfl)) rfl)
theorem lk_X11_135 : hp_LK RX11 135 yX5_at := Or.inl (hp_mu (tb_4 (List.mem_of_getElem? (i := 54) rfl)) rfl)
theorem lk_L_36 : hp_LK RL 36 yX11_fault := Or.inl (hp_mu (tb_4 (List.mem_of_getElem? (i := 55) rfl)) rfl)
theorem lk_L_40 : hp_LK RL 40 yX11_type := Or.inl (hp_mu (tb_4 (List.mem_of_getElem? (i := 59) rfl)) rfl)
theorem lk_X11_144 : hp_LK RX11 144 yX9_clear := Or.inl (hp_mu (tb_4 (List.mem_of_getElem? (i := 63) rfl)) rfl)
theorem lk_X11_147 : hp_LK RX11 147 yX9_put := Or.inl (hp_mu (tb_4 (List.mem_of_getElem? (i := 64) rfl)) rfl)
theorem lk_L_45 : hp_LK RL 45 yX11_many := Or.inl (hp_mu (tb_4 (List.mem_of_getElem? (i := 65) rfl)) rfl)
theorem lk_X11_159 : hp_LK RX11 159 yX10_alarmedBits := Or.inl (hp_mu (tb_4 (List.mem_of_getElem? (i := 69) rfl)) rfl)
theorem lk_L_49 : hp_LK RL 49 yX11_size := Or.inl (hp_mu (tb_4 (List.mem_of_getElem? (i := 73) rfl)) rfl)
theorem lk_L_53 : hp_LK RL 53 yX11_entry := Or.inl (hp_mu (tb_4 (List.mem_of_getElem? (i := 77) rfl)) rfl)
theorem lk_X11_170 : hp_LK RX11 170 yX2_wordAt := Or.inl (hp_mu (tb_4 (List.mem_of_getElem? (i := 81) rfl)) rfl)
theorem lk_X11_174 : hp_LK RX11 174 yX2_markAt := Or.inl (hp_mu (tb_4 (List.mem_of_getElem? (i := 82) rfl)) rfl)
theorem lk_X11_177 : hp_LK RX11 177 yX9_letterAt := Or.inl (hp_mu (tb_4 (List.mem_of_getElem? (i := 83) rfl)) rfl)
theorem lk_L_58 : hp_LK RL 58 yX11_head := Or.inl (hp_mu (tb_4 (List.mem_of_getElem? (i := 84) rfl)) rfl)
theorem lk_X11_180 : hp_LK RX11 180 yX11_wrongGrowth := Or.inl (hp_mu (tb_4 (List.mem_of_getElem? (i := 88) rfl)) rfl)
theorem lk_X11_184 : hp_LK RX11 184 yX10_headOf := Or.inl (hp_mu (tb_4 (List.mem_of_getElem? (i := 91) rfl)) rfl)
theorem lk_L_62 : hp_LK RL 62 yX11_join := Or.inl (hp_mu (tb_4 (List.mem_of_getElem? (i := 92) rfl)) rfl)
theorem lk_X11_188 : hp_LK RX11 188 yX11_isMark := Or.inl (hp_mu (tb_4 (List.mem_of_getElem? (i := 96) rfl)) rfl)
theorem lk_X11_191 : hp_LK RX11 191 yX11_markOfTwo := Or.inl (hp_mu (tb_4 (List.mem_of_getElem? (i := 100) rfl)) rfl)
theorem lk_L_66 : hp_LK RL 66 yX11_mark := Or.inl (hp_mu (tb_4 (List.mem_of_getElem? (i := 101) rfl)) rfl)
theorem lk_X11_195 : hp_LK RX11 195 yX9_markBy := Or.inl (hp_mu (tb_4 (List.mem_of_getElem? (i := 105) rfl)) rfl)
theorem lk_L_70 : hp_LK RL 70 yX11_frozen := Or.inl (hp_mu (tb_4 (List.mem_of_getElem? (i := 106) rfl)) rfl)
theorem lk_X11_198 : hp_LK RX11 198 yX10_frozenAt := Or.inl (hp_mu (tb_4 (List.mem_of_getElem? (i := 110) rfl)) rfl)
theorem lk_X11_216 : hp_LK RX11 216 yX10_isSound := Or.inl (hp_mu (tb_4 (List.mem_of_getElem? (i := 114) rfl)) rfl)
theorem lk_X10_180 : hp_LK RX10 180 yX10_hasHead := Or.inl (hp_mu (tb_4 (List.mem_of_getElem? (i := 118) rfl)) rfl)
theorem lk_L_74 : hp_LK RL 74 yX11_watcher := Or.inl (hp_mu (tb_4 (List.mem_of_getElem? (i := 122) rfl)) rfl)
theorem lk_L_78 : hp_LK RL 78 yX11_add := Or.inl (hp_mu (tb_4 (List.mem_of_getElem? (i := 126) rfl)) rfl)
theorem lk_L_82 : hp_LK RL 82 yX11_fork := Or.inl (hp_mu (tb_4 (List.mem_of_getElem? (i := 130) rfl)) rfl)
theorem lk_L_86 : hp_LK RL 86 yX11_freeze := Or.inl (hp_mu (tb_4 (List.mem_of_getElem? (i := 134) rfl)) rfl)
theorem lk_L_90 : hp_LK RL 90 yX11_show := Or.inl (hp_mu (tb_4 (List.mem_of_getElem? (i := 138) rfl)) rfl)
theorem lk_L_94 : hp_LK RL 94 yX11_meet := Or.inl (hp_mu (tb_4 (List.mem_of_getElem? (i := 142) rfl)) rfl)
theorem lk_X11_251 : hp_LK RX11 251 yX10_meetBy := Or.inl (hp_mu (tb_4 (List.mem_of_getElem? (i := 146) rfl)) rfl)
theorem lk_L_98 : hp_LK RL 98 yX11_spoil := Or.inl (hp_mu (tb_4 (List.mem_of_getElem? (i := 150) rfl)) rfl)
theorem lk_X11_255 : hp_LK RX11 255 yX10_spoilLetter := Or.inl (hp_mu (tb_4 (List.mem_of_getElem? (i := 154) rfl)) rfl)
theorem lk_X10_147 : hp_LK RX10 147 yX2_changeLetter := Or.inl (hp_mu (tb_4 (List.mem_of_getElem? (i := 158) rfl)) rfl)
theorem lk_X2_34 : hp_LK RX2 34 yX2_wordAt := Or.inl (hp_mu (tb_4 (List.mem_of_getElem? (i := 162) rfl)) rfl)
theorem lk_X2_38 : hp_LK RX2 38 yX9_change := Or.inl (hp_mu (tb_4 (List.mem_of_getElem? (i := 163) rfl)) rfl)
theorem lk_L_103 : hp_LK RL 103 yX11_push := Or.inl (hp_mu (tb_4 (List.mem_of_getElem? (i := 167) rfl)) rfl)
theorem lk_X11_259 : hp_LK RX11 259 yX5_put := Or.inl (hp_mu (tb_4 (List.mem_of_getElem? (i := 171) rfl)) rfl)
theorem lk_L_107 : hp_LK RL 107 yX11_poke := Or.inl (hp_mu (tb_4 (List.mem_of_getElem? (i := 172) rfl)) rfl)
theorem lk_X11_260 : hp_LK RX11 260 yX5_change := Or.inl (hp_mu (tb_4 (List.mem_of_getElem? (i := 176) rfl)) rfl)
theorem lk_L_111 : hp_LK RL 111 yX11_pad := Or.inl (hp_mu (tb_4 (List.mem_of_getElem? (i := 180) rfl)) rfl)
theorem lk_L_115 : hp_LK RL 115 yX11_cut := Or.inl (hp_mu (tb_4 (List.mem_of_getElem? (i := 184) rfl)) rfl)
theorem lk_L_119 : hp_LK RL 119 yX11_include := Or.inl (hp_mu (tb_4 (List.mem_of_getElem? (i := 188) rfl)) rfl)
theorem lk_X11_264 : hp_LK RX11 264 yX11_wrongInclusion := Or.inl (hp_mu (tb_4 (List.mem_of_getElem? (i := 192) rfl)) rfl)
theorem lk_X11_267 : hp_LK RX11 267 yX8_toThing := Or.inl (hp_mu (tb_4 (List.mem_of_getElem? (i := 195) rfl)) rfl)
theorem lk_X11_270 : hp_LK RX11 270 yX10_marksAlong := Or.inl (hp_mu (tb_4 (List.mem_of_getElem? (i := 196) rfl)) rfl)
theorem lk_L_123 : hp_LK RL 123 yX11_grow := Or.inl (hp_mu (tb_4 (List.mem_of_getElem? (i := 197) rfl)) rfl)
theorem lk_X11_274 : hp_LK RX11 274 yX8_toGrowth := Or.inl (hp_mu (tb_4 (List.mem_of_getElem? (i := 201) rfl)) rfl)
theorem lk_L_127 : hp_LK RL 127 yX11_bundle := Or.inl (hp_mu (tb_4 (List.mem_of_getElem? (i := 202) rfl)) rfl)
theorem lk_X11_277 : hp_LK RX11 277 yX11_isSet := Or.inl (hp_mu (tb_4 (List.mem_of_getElem? (i := 206) rfl)) rfl)
theorem lk_X11_280 : hp_LK RX11 280 yX11_lieBelow := Or.inl (hp_mu (tb_4 (List.mem_of_getElem? (i := 209) rfl)) rfl)
theorem lk_X11_466 : hp_LK RX11 466 yJ9_min_7cf53 := Or.inl (hp_mu (tb_4 (List.mem_of_getElem? (i := 212) rfl)) rfl)
theorem lk_X11_471 : hp_LK RX11 471 yJ9_max_7cf53 := Or.inl (hp_mu (tb_4 (List.mem_of_getElem? (i := 213) rfl)) rfl)
theorem lk_X11_284 : hp_LK RX11 284 yX8_toBundle := Or.inl (hp_mu (tb_4 (List.mem_of_getElem? (i := 214) rfl)) rfl)
theorem lk_X8_44 : hp_LK RX8 44 yX11_hasOneOf := Or.inr ⟨"ProvenRecord", List.mem_filter.mpr ⟨tb_4 (List.mem_of_getElem? (i := 218) rfl), by decide +kernel⟩⟩
theorem lk_X8_48 : hp_LK RX8 48 yX8_putGreatestWithout := Or.inl (hp_mu (tb_4 (List.mem_of_getElem? (i := 221) rfl)) rfl)
theorem lk_L_131 : hp_LK RL 131 yX11_peaks := Or.inl (hp_mu (tb_4 (List.mem_of_getElem? (i := 225) rfl)) rfl)
theorem lk_X11_287 : hp_LK RX11 287 yX10_peaksOf := Or.inl (hp_mu (tb_4 (List.mem_of_getElem? (i := 229) rfl)) rfl)
theorem lk_L_135 : hp_LK RL 135 yX11_extend := Or.inl (hp_mu (tb_4 (List.mem_of_getElem? (i := 230) rfl)) rfl)
theorem lk_X11_292 : hp_LK RX11 292 yJ6_bitCount_0f7a4 := Or.inl (hp_mu (tb_4 (List.mem_of_getElem? (i := 235) rfl)) rfl)
theorem lk_X11_297 : hp_LK RX11 297 yX5_putPeak := Or.inl (hp_mu (tb_5 (List.mem_of_getElem? (i := 1) rfl)) rfl)
theorem lk_X5_23 : hp_LK RX5 23 yX11_markOfTwo := Or.inr ⟨"ProvenRecord", List.mem_filter.mpr ⟨tb_5 (List.mem_of_getElem? (i := 5) rfl), by decide +kernel⟩⟩
theorem lk_X5_27 : hp_LK RX5 27 yX5_shorten := Or.inl (hp_mu (tb_5 (List.mem_of_getElem? (i := 6) rfl)) rfl)
theorem lk_X5_31 : hp_LK RX5 31 yX5_put := Or.inl (hp_mu (tb_5 (List.mem_of_getElem? (i := 7) rfl)) rfl)
theorem lk_L_139 : hp_LK RL 139 yX11_checks := Or.inl (hp_mu (tb_5 (List.mem_of_getElem? (i := 8) rfl)) rfl)
theorem lk_X11_301 : hp_LK RX11 301 yX11_isThing := Or.inl (hp_mu (tb_5 (List.mem_of_getElem? (i := 12) rfl)) rfl)
theorem lk_X11_304 : hp_LK RX11 304 yX8_whyInclusion := Or.inl (hp_mu (tb_5 (List.mem_of_getElem? (i := 15) rfl)) rfl)
theorem lk_L_143 : hp_LK RL 143 yX11_growth := Or.inl (hp_mu (tb_5 (List.mem_of_getElem? (i := 16) rfl)) rfl)
theorem lk_X11_308 : hp_LK RX11 308 yX8_whyGrowth := Or.inl (hp_mu (tb_5 (List.mem_of_getElem? (i := 20) rfl)) rfl)
theorem lk_L_147 : hp_LK RL 147 yX11_bundled := Or.inl (hp_mu (tb_5 (List.mem_of_getElem? (i := 21) rfl)) rfl)
theorem lk_X11_313 : hp_LK RX11 313 yX0_why := Or.inl (hp_mu (tb_5 (List.mem_of_getElem? (i := 25) rfl)) rfl)
theorem lk_X0_31 : hp_LK RX0 31 yJ6_bitCount_0f7a4 := Or.inl (hp_mu (tb_5 (List.mem_of_getElem? (i := 29) rfl)) rfl)
theorem lk_X0_40 : hp_LK RX0 40 yX0_foldedTree := Or.inl (hp_mu (tb_5 (List.mem_of_getElem? (i := 30) rfl)) rfl)
theorem lk_X0_44 : hp_LK RX0 44 yX11_hasOneOf := Or.inr ⟨"ProvenRecord", List.mem_filter.mpr ⟨tb_5 (List.mem_of_getElem? (i := 33) rfl), by decide +kernel⟩⟩
theorem lk_X0_48 : hp_LK RX0 48 yX5_at := Or.inl (hp_mu (tb_5 (List.mem_of_getElem? (i := 34) rfl)) rfl)
theorem lk_X0_51 : hp_LK RX0 51 yX11_firstPartOf := Or.inr ⟨"ProvenRecord", List.mem_filter.mpr ⟨tb_5 (List.mem_of_getElem? (i := 35) rfl), by decide +kernel⟩⟩
theorem lk_X0_54 : hp_LK RX0 54 yX11_markOfTwo := Or.inr ⟨"ProvenRecord", List.mem_filter.mpr ⟨tb_5 (List.mem_of_getElem? (i := 36) rfl), by decide +kernel⟩⟩
theorem lk_L_151 : hp_LK RL 151 yX11_fold := Or.inl (hp_mu (tb_5 (List.mem_of_getElem? (i := 37) rfl)) rfl)
theorem lk_X11_316 : hp_LK RX11 316 yX5_foldedPeaks := Or.inl (hp_mu (tb_5 (List.mem_of_getElem? (i := 41) rfl)) rfl)
theorem lk_L_155 : hp_LK RL 155 yX11_steps := Or.inl (hp_mu (tb_5 (List.mem_of_getElem? (i := 45) rfl)) rfl)
theorem lk_L_159 : hp_LK RL 159 yX11_climbs := Or.inl (hp_mu (tb_5 (List.mem_of_getElem? (i := 49) rfl)) rfl)
theorem lk_L_163 : hp_LK RL 163 yX11_agree := Or.inl (hp_mu (tb_5 (List.mem_of_getElem? (i := 53) rfl)) rfl)
theorem lk_X11_319 : hp_LK RX11 319 yX10_doAgree := Or.inl (hp_mu (tb_5 (List.mem_of_getElem? (i := 57) rfl)) rfl)
theorem lk_L_167 : hp_LK RL 167 yX11_where := Or.inl (hp_mu (tb_5 (List.mem_of_getElem? (i := 61) rfl)) rfl)
theorem lk_X11_323 : hp_LK RX11 323 yX2_countLike := Or.inl (hp_mu (tb_5 (List.mem_of_getElem? (i := 65) rfl)) rfl)
theorem lk_X2_42 : hp_LK RX2 42 yX9_isLike := Or.inl (hp_mu (tb_5 (List.mem_of_getElem? (i := 69) rfl)) rfl)
theorem lk_X11_327 : hp_LK RX11 327 yX2_firstLike := Or.inl (hp_mu (tb_5 (List.mem_of_getElem? (i := 73) rfl)) rfl)
theorem lk_L_171 : hp_LK RL 171 yX11_tree := Or.inl (hp_mu (tb_5 (List.mem_of_getElem? (i := 77) rfl)) rfl)
theorem lk_X11_330 : hp_LK RX11 330 yX8_toTree := Or.inl (hp_mu (tb_5 (List.mem_of_getElem? (i := 81) rfl)) rfl)
theorem lk_X11_333 : hp_LK RX11 333 yX8_firstAt := Or.inl (hp_mu (tb_5 (List.mem_of_getElem? (i := 85) rfl)) rfl)
theorem lk_X11_336 : hp_LK RX11 336 yX8_manyAt := Or.inl (hp_mu (tb_5 (List.mem_of_getElem? (i := 86) rfl)) rfl)
theorem lk_X11_339 : hp_LK RX11 339 yX10_treeMark := Or.inl (hp_mu (tb_5 (List.mem_of_getElem? (i := 87) rfl)) rfl)
theorem lk_L_175 : hp_LK RL 175 yX11_proves := Or.inl (hp_mu (tb_5 (List.mem_of_getElem? (i := 88) rfl)) rfl)
theorem lk_X11_342 : hp_LK RX11 342 yX10_whyGrown := Or.inl (hp_mu (tb_5 (List.mem_of_getElem? (i := 92) rfl)) rfl)
theorem lk_L_179 : hp_LK RL 179 yX11_longest := Or.inl (hp_mu (tb_5 (List.mem_of_getElem? (i := 93) rfl)) rfl)
theorem lk_L_183 : hp_LK RL 183 yX11_part := Or.inl (hp_mu (tb_5 (List.mem_of_getElem? (i := 97) rfl)) rfl)
theorem lk_X11_346 : hp_LK RX11 346 yX10_partingEntry := Or.inl (hp_mu (tb_5 (List.mem_of_getElem? (i := 101) rfl)) rfl)
theorem lk_X10_199 : hp_LK RX10 199 yX10_partingTrees := Or.inl (hp_mu (tb_5 (List.mem_of_getElem? (i := 105) rfl)) rfl)
theorem lk_X10_203 : hp_LK RX10 203 yX11_firstPartOf := Or.inr ⟨"ProvenRecord", List.mem_filter.mpr ⟨tb_5 (List.mem_of_getElem? (i := 109) rfl), by decide +kernel⟩⟩
theorem lk_X11_350 : hp_LK RX11 350 yX10_partingCompared := Or.inl (hp_mu (tb_5 (List.mem_of_getElem? (i := 110) rfl)) rfl)
theorem lk_L_187 : hp_LK RL 187 yX11_blame := Or.inl (hp_mu (tb_5 (List.mem_of_getElem? (i := 114) rfl)) rfl)
theorem lk_X11_353 : hp_LK RX11 353 yX10_countUnsound := Or.inl (hp_mu (tb_5 (List.mem_of_getElem? (i := 118) rfl)) rfl)
theorem lk_X10_188 : hp_LK RX10 188 yX10_frozenAt := Or.inl (hp_mu (tb_5 (List.mem_of_getElem? (i := 122) rfl)) rfl)
theorem lk_X10_192 : hp_LK RX10 192 yX10_isSound := Or.inl (hp_mu (tb_5 (List.mem_of_getElem? (i := 123) rfl)) rfl)
theorem lk_X11_356 : hp_LK RX11 356 yX10_leastUnsound := Or.inl (hp_mu (tb_5 (List.mem_of_getElem? (i := 124) rfl)) rfl)
theorem lk_X11_359 : hp_LK RX11 359 yX10_greatestSoundBelow := Or.inl (hp_mu (tb_5 (List.mem_of_getElem? (i := 128) rfl)) rfl)
theorem lk_X10_196 : hp_LK RX10 196 yJ9_max_7cf53 := Or.inl (hp_mu (tb_5 (List.mem_of_getElem? (i := 132) rfl)) rfl)
theorem lk_L_191 : hp_LK RL 191 yX11_weak := Or.inl (hp_mu (tb_5 (List.mem_of_getElem? (i := 133) rfl)) rfl)
theorem lk_X11_363 : hp_LK RX11 363 yX11_preparedRoots := Or.inl (hp_mu (tb_5 (List.mem_of_getElem? (i := 137) rfl)) rfl)
theorem lk_X11_474 : hp_LK RX11 474 yX4_init := Or.inr ⟨"ProvenRecord", List.mem_filter.mpr ⟨tb_5 (List.mem_of_getElem? (i := 143) rfl), by decide +kernel⟩⟩
theorem lk_X4_25 : hp_LK RX4 25 yX8_init := Or.inr ⟨"ProvenRecord", List.mem_filter.mpr ⟨tb_5 (List.mem_of_getElem? (i := 149) rfl), by decide +kernel⟩⟩
theorem lk_X4_32 : hp_LK RX4 32 yX5_init := Or.inr ⟨"ProvenRecord", List.mem_filter.mpr ⟨tb_5 (List.mem_of_getElem? (i := 151) rfl), by decide +kernel⟩⟩
theorem lk_X11_475 : hp_LK RX11 475 yX4_prepare := Or.inl (hp_mu (tb_5 (List.mem_of_getElem? (i := 188) rfl)) rfl)
theorem lk_X11_367 : hp_LK RX11 367 yX4_seekThing := Or.inl (hp_mu (tb_5 (List.mem_of_getElem? (i := 193) rfl)) rfl)
theorem lk_X4_57 : hp_LK RX4 57 yX4_seek := Or.inl (hp_mu (tb_5 (List.mem_of_getElem? (i := 197) rfl)) rfl)
theorem lk_X4_64 : hp_LK RX4 64 yX4_goBack := Or.inl (hp_mu (tb_5 (List.mem_of_getElem? (i := 201) rfl)) rfl)
theorem lk_X4_68 : hp_LK RX4 68 yX4_take := Or.inl (hp_mu (tb_5 (List.mem_of_getElem? (i := 204) rfl)) rfl)
theorem lk_X4_89 : hp_LK RX4 89 yJ9_min_7cf53 := Or.inl (hp_mu (tb_5 (List.mem_of_getElem? (i := 208) rfl)) rfl)
theorem lk_X4_71 : hp_LK RX4 71 yX5_at := Or.inl (hp_mu (tb_5 (List.mem_of_getElem? (i := 209) rfl)) rfl)
theorem lk_X4_75 : hp_LK RX4 75 yX8_isAhead := Or.inl (hp_mu (tb_5 (List.mem_of_getElem? (i := 210) rfl)) rfl)
theorem lk_X4_79 : hp_LK RX4 79 yX4_secondOf := Or.inl (hp_mu (tb_5 (List.mem_of_getElem? (i := 211) rfl)) rfl)
theorem lk_X4_94 : hp_LK RX4 94 yX11_markOfTwo := Or.inr ⟨"ProvenRecord", List.mem_filter.mpr ⟨tb_5 (List.mem_of_getElem? (i := 215) rfl), by decide +kernel⟩⟩
theorem lk_X4_98 : hp_LK RX4 98 yX4_restOf := Or.inl (hp_mu (tb_5 (List.mem_of_getElem? (i := 216) rfl)) rfl)
theorem lk_X4_104 : hp_LK RX4 104 yJ9_floorMod_f86c9 := Or.inl (hp_mu (tb_5 (List.mem_of_getElem? (i := 220) rfl)) rfl)
theorem lk_X4_83 : hp_LK RX4 83 yX4_leastRoot := Or.inl (hp_mu (tb_5 (List.mem_of_getElem? (i := 223) rfl)) rfl)
theorem lk_X4_86 : hp_LK RX4 86 yX4_firstOf := Or.inl (hp_mu (tb_5 (List.mem_of_getElem? (i := 227) rfl)) rfl)
theorem lk_L_195 : hp_LK RL 195 yX11_clash := Or.inl (hp_mu (tb_5 (List.mem_of_getElem? (i := 232) rfl)) rfl)
theorem lk_X11_379 : hp_LK RX11 379 yX11_clashingStep := Or.inl (hp_mu (tb_5 (List.mem_of_getElem? (i := 236) rfl)) rfl)
theorem lk_X11_478 : hp_LK RX11 478 yX8_joined := Or.inl (hp_mu (tb_6 (List.mem_of_getElem? (i := 0) rfl)) rfl)
theorem lk_X11_382 : hp_LK RX11 382 yX8_folded := Or.inl (hp_mu (tb_6 (List.mem_of_getElem? (i := 1) rfl)) rfl)
theorem lk_X11_385 : hp_LK RX11 385 yX8_isAhead := Or.inl (hp_mu (tb_6 (List.mem_of_getElem? (i := 2) rfl)) rfl)
theorem lk_L_199 : hp_LK RL 199 yX11_forge := Or.inl (hp_mu (tb_6 (List.mem_of_getElem? (i := 3) rfl)) rfl)
theorem lk_X11_388 : hp_LK RX11 388 yX4_seekStep := Or.inl (hp_mu (tb_6 (List.mem_of_getElem? (i := 7) rfl)) rfl)
theorem lk_L_203 : hp_LK RL 203 yX11_trace := Or.inl (hp_mu (tb_6 (List.mem_of_getElem? (i := 11) rfl)) rfl)
theorem lk_L_207 : hp_LK RL 207 yX11_span := Or.inl (hp_mu (tb_6 (List.mem_of_getElem? (i := 15) rfl)) rfl)
theorem lk_X11_392 : hp_LK RX11 392 yX11_treeOfWay := Or.inl (hp_mu (tb_6 (List.mem_of_getElem? (i := 19) rfl)) rfl)
theorem lk_L_211 : hp_LK RL 211 yX11_rise := Or.inl (hp_mu (tb_6 (List.mem_of_getElem? (i := 23) rfl)) rfl)
theorem lk_L_215 : hp_LK RL 215 yX11_kept := Or.inl (hp_mu (tb_6 (List.mem_of_getElem? (i := 27) rfl)) rfl)
theorem lk_X11_395 : hp_LK RX11 395 yX8_countShared := Or.inl (hp_mu (tb_6 (List.mem_of_getElem? (i := 31) rfl)) rfl)
theorem lk_X8_52 : hp_LK RX8 52 yX8_firstAt := Or.inl (hp_mu (tb_6 (List.mem_of_getElem? (i := 35) rfl)) rfl)
theorem lk_X8_55 : hp_LK RX8 55 yX8_manyAt := Or.inl (hp_mu (tb_6 (List.mem_of_getElem? (i := 36) rfl)) rfl)
theorem lk_L_219 : hp_LK RL 219 yX11_sick := Or.inl (hp_mu (tb_6 (List.mem_of_getElem? (i := 37) rfl)) rfl)
theorem lk_X11_399 : hp_LK RX11 399 yX10_sickBits := Or.inl (hp_mu (tb_6 (List.mem_of_getElem? (i := 41) rfl)) rfl)
theorem lk_X10_185 : hp_LK RX10 185 yX5_at := Or.inl (hp_mu (tb_6 (List.mem_of_getElem? (i := 45) rfl)) rfl)
theorem lk_L_223 : hp_LK RL 223 yX11_chain := Or.inl (hp_mu (tb_6 (List.mem_of_getElem? (i := 46) rfl)) rfl)
theorem lk_X11_403 : hp_LK RX11 403 yX10_leastFrozenAbove := Or.inl (hp_mu (tb_6 (List.mem_of_getElem? (i := 50) rfl)) rfl)
theorem lk_X11_406 : hp_LK RX11 406 yX11_addLinks := Or.inl (hp_mu (tb_6 (List.mem_of_getElem? (i := 54) rfl)) rfl)
theorem lk_X11_482 : hp_LK RX11 482 yX11_isLink := Or.inl (hp_mu (tb_6 (List.mem_of_getElem? (i := 58) rfl)) rfl)
theorem lk_L_227 : hp_LK RL 227 yX11_split := Or.inl (hp_mu (tb_6 (List.mem_of_getElem? (i := 62) rfl)) rfl)
theorem lk_L_231 : hp_LK RL 231 yX11_tell := Or.inl (hp_mu (tb_6 (List.mem_of_getElem? (i := 66) rfl)) rfl)
theorem lk_X11_411 : hp_LK RX11 411 yX11_tellText := Or.inl (hp_mu (tb_6 (List.mem_of_getElem? (i := 71) rfl)) rfl)
theorem lk_X11_485 : hp_LK RX11 485 yJ0_length_8abf5 := Or.inl (hp_mu (tb_6 (List.mem_of_getElem? (i := 75) rfl)) rfl)
theorem lk_X11_489 : hp_LK RX11 489 yJ0_charAt_5068e := Or.inl (hp_mu (tb_6 (List.mem_of_getElem? (i := 76) rfl)) rfl)
theorem lk_X11_493 : hp_LK RX11 493 yX11_tellByte := Or.inl (hp_mu (tb_6 (List.mem_of_getElem? (i := 77) rfl)) rfl)
theorem lk_X11_415 : hp_LK RX11 415 yX11_tellNumber := Or.inl (hp_mu (tb_6 (List.mem_of_getElem? (i := 81) rfl)) rfl)
theorem lk_X11_424 : hp_LK RX11 424 yX11_tellProof := Or.inl (hp_mu (tb_6 (List.mem_of_getElem? (i := 88) rfl)) rfl)
theorem lk_L_235 : hp_LK RL 235 yX11_tellGrowth := Or.inl (hp_mu (tb_6 (List.mem_of_getElem? (i := 95) rfl)) rfl)
theorem lk_L_239 : hp_LK RL 239 yX11_out := Or.inl (hp_mu (tb_6 (List.mem_of_getElem? (i := 101) rfl)) rfl)
theorem lk_L_243 : hp_LK RL 243 yX11_trusted := Or.inl (hp_mu (tb_6 (List.mem_of_getElem? (i := 105) rfl)) rfl)
theorem lk_L_247 : hp_LK RL 247 yX11_saves := Or.inl (hp_mu (tb_6 (List.mem_of_getElem? (i := 109) rfl)) rfl)
theorem lk_X11_431 : hp_LK RX11 431 yX11_hasOneOf := Or.inl (hp_mu (tb_6 (List.mem_of_getElem? (i := 113) rfl)) rfl)
theorem lk_L_251 : hp_LK RL 251 yX11_who := Or.inl (hp_mu (tb_6 (List.mem_of_getElem? (i := 114) rfl)) rfl)
theorem lk_X11_435 : hp_LK RX11 435 yX10_hasHead := Or.inl (hp_mu (tb_6 (List.mem_of_getElem? (i := 118) rfl)) rfl)
theorem lk_L_12 : hp_LK RL 12 yX12_init := Or.inl (hp_mu (tb_6 (List.mem_of_getElem? (i := 121) rfl)) rfl)
theorem lk_X12_103 : hp_LK RX12 103 yX12_clears := Or.inl (hp_mu (tb_6 (List.mem_of_getElem? (i := 137) rfl)) rfl)
theorem lk_L_17 : hp_LK RL 17 yX12_status := Or.inl (hp_mu (tb_7 (List.mem_of_getElem? (i := 48) rfl)) rfl)
theorem lk_L_44 : hp_LK RL 44 yX12_type := Or.inl (hp_mu (tb_7 (List.mem_of_getElem? (i := 52) rfl)) rfl)
theorem lk_L_22 : hp_LK RL 22 yX12_feed := Or.inl (hp_mu (tb_7 (List.mem_of_getElem? (i := 56) rfl)) rfl)
theorem lk_X12_233 : hp_LK RX12 233 yX12_puts := Or.inl (hp_mu (tb_7 (List.mem_of_getElem? (i := 60) rfl)) rfl)
theorem lk_L_27 : hp_LK RL 27 yX12_load := Or.inl (hp_mu (tb_7 (List.mem_of_getElem? (i := 64) rfl)) rfl)
theorem lk_X12_113 : hp_LK RX12 113 yX12_isIn := Or.inl (hp_mu (tb_7 (List.mem_of_getElem? (i := 68) rfl)) rfl)
theorem lk_X12_309 : hp_LK RX12 309 yX12_is := Or.inl (hp_mu (tb_7 (List.mem_of_getElem? (i := 71) rfl)) rfl)
theorem lk_X12_312 : hp_LK RX12 312 yX12_begins := Or.inl (hp_mu (tb_7 (List.mem_of_getElem? (i := 75) rfl)) rfl)
theorem lk_X12_276 : hp_LK RX12 276 yX12_reads := Or.inl (hp_mu (tb_7 (List.mem_of_getElem? (i := 79) rfl)) rfl)
theorem lk_X12_248 : hp_LK RX12 248 yX12_isOf := Or.inl (hp_mu (tb_7 (List.mem_of_getElem? (i := 83) rfl)) rfl)
theorem lk_X12_268 : hp_LK RX12 268 yX12_isWord := Or.inl (hp_mu (tb_7 (List.mem_of_getElem? (i := 89) rfl)) rfl)
theorem lk_X12_279 : hp_LK RX12 279 yX12_takesNumber := Or.inl (hp_mu (tb_7 (List.mem_of_getElem? (i := 93) rfl)) rfl)
theorem lk_X12_272 : hp_LK RX12 272 yX12_must := Or.inl (hp_mu (tb_7 (List.mem_of_getElem? (i := 97) rfl)) rfl)
theorem lk_X12_285 : hp_LK RX12 285 yX12_takesEnd := Or.inl (hp_mu (tb_7 (List.mem_of_getElem? (i := 101) rfl)) rfl)
theorem lk_X12_315 : hp_LK RX12 315 yX12_line := Or.inl (hp_mu (tb_7 (List.mem_of_getElem? (i := 105) rfl)) rfl)
theorem lk_X12_294 : hp_LK RX12 294 yX12_addLine := Or.inl (hp_mu (tb_7 (List.mem_of_getElem? (i := 109) rfl)) rfl)
theorem lk_X12_209 : hp_LK RX12 209 yX12_sizeOf := Or.inl (hp_mu (tb_7 (List.mem_of_getElem? (i := 113) rfl)) rfl)
theorem lk_X12_288 : hp_LK RX12 288 yX12_adds := Or.inl (hp_mu (tb_7 (List.mem_of_getElem? (i := 117) rfl)) rfl)
theorem lk_X12_212 : hp_LK RX12 212 yX12_refuse := Or.inl (hp_mu (tb_7 (List.mem_of_getElem? (i := 121) rfl)) rfl)
theorem lk_X12_297 : hp_LK RX12 297 yX12_forkLine := Or.inl (hp_mu (tb_7 (List.mem_of_getElem? (i := 125) rfl)) rfl)
theorem lk_X12_291 : hp_LK RX12 291 yX12_forks := Or.inl (hp_mu (tb_7 (List.mem_of_getElem? (i := 129) rfl)) rfl)
theorem lk_X12_300 : hp_LK RX12 300 yX12_freezes := Or.inl (hp_mu (tb_7 (List.mem_of_getElem? (i := 133) rfl)) rfl)
theorem lk_X12_215 : hp_LK RX12 215 yX12_headOf := Or.inl (hp_mu (tb_7 (List.mem_of_getElem? (i := 137) rfl)) rfl)
theorem lk_X12_132 : hp_LK RX12 132 yX12_treeMark := Or.inl (hp_mu (tb_7 (List.mem_of_getElem? (i := 141) rfl)) rfl)
theorem lk_X12_125 : hp_LK RX12 125 yX12_entryMark := Or.inl (hp_mu (tb_7 (List.mem_of_getElem? (i := 145) rfl)) rfl)
theorem lk_X12_121 : hp_LK RX12 121 yX12_mixed := Or.inl (hp_mu (tb_7 (List.mem_of_getElem? (i := 149) rfl)) rfl)
theorem lk_X12_128 : hp_LK RX12 128 yX12_part0 := Or.inl (hp_mu (tb_7 (List.mem_of_getElem? (i := 155) rfl)) rfl)
theorem lk_X12_136 : hp_LK RX12 136 yX12_both := Or.inl (hp_mu (tb_7 (List.mem_of_getElem? (i := 158) rfl)) rfl)
theorem lk_X12_218 : hp_LK RX12 218 yX12_peaksOf := Or.inl (hp_mu (tb_7 (List.mem_of_getElem? (i := 162) rfl)) rfl)
theorem lk_X12_146 : hp_LK RX12 146 yX12_asks := Or.inl (hp_mu (tb_7 (List.mem_of_getElem? (i := 167) rfl)) rfl)
theorem lk_X12_161 : hp_LK RX12 161 yX12_fetches := Or.inl (hp_mu (tb_7 (List.mem_of_getElem? (i := 171) rfl)) rfl)
theorem lk_X12_303 : hp_LK RX12 303 yX12_takes := Or.inl (hp_mu (tb_7 (List.mem_of_getElem? (i := 175) rfl)) rfl)
theorem lk_X12_306 : hp_LK RX12 306 yX12_shows := Or.inl (hp_mu (tb_7 (List.mem_of_getElem? (i := 179) rfl)) rfl)
theorem lk_X12_221 : hp_LK RX12 221 yX12_trust := Or.inl (hp_mu (tb_7 (List.mem_of_getElem? (i := 183) rfl)) rfl)
theorem lk_X12_224 : hp_LK RX12 224 yX12_whyByRecord := Or.inl (hp_mu (tb_7 (List.mem_of_getElem? (i := 187) rfl)) rfl)
theorem lk_X12_190 : hp_LK RX12 190 yX12_growth := Or.inl (hp_mu (tb_7 (List.mem_of_getElem? (i := 191) rfl)) rfl)
theorem lk_X12_150 : hp_LK RX12 150 yX12_growsIn := Or.inl (hp_mu (tb_7 (List.mem_of_getElem? (i := 195) rfl)) rfl)
theorem lk_X12_199 : hp_LK RX12 199 yX12_whyGrown := Or.inl (hp_mu (tb_7 (List.mem_of_getElem? (i := 199) rfl)) rfl)
theorem lk_X12_187 : hp_LK RX12 187 yX12_foldsGrowth := Or.inl (hp_mu (tb_7 (List.mem_of_getElem? (i := 203) rfl)) rfl)
theorem lk_X12_227 : hp_LK RX12 227 yX12_trusts := Or.inl (hp_mu (tb_7 (List.mem_of_getElem? (i := 207) rfl)) rfl)
theorem lk_X12_318 : hp_LK RX12 318 yX12_ends := Or.inl (hp_mu (tb_7 (List.mem_of_getElem? (i := 211) rfl)) rfl)
theorem lk_L_31 : hp_LK RL 31 yX12_hear := Or.inl (hp_mu (tb_7 (List.mem_of_getElem? (i := 215) rfl)) rfl)
theorem lk_X12_335 : hp_LK RX12 335 yX12_statementIn := Or.inl (hp_mu (tb_7 (List.mem_of_getElem? (i := 219) rfl)) rfl)
theorem lk_X12_325 : hp_LK RX12 325 yX12_takesMark := Or.inl (hp_mu (tb_7 (List.mem_of_getElem? (i := 224) rfl)) rfl)
theorem lk_X12_329 : hp_LK RX12 329 yX12_takesMarks := Or.inl (hp_mu (tb_7 (List.mem_of_getElem? (i := 228) rfl)) rfl)
theorem lk_X12_321 : hp_LK RX12 321 yX12_isMark := Or.inl (hp_mu (tb_7 (List.mem_of_getElem? (i := 232) rfl)) rfl)
theorem lk_X12_332 : hp_LK RX12 332 yX12_whyIn := Or.inl (hp_mu (tb_7 (List.mem_of_getElem? (i := 236) rfl)) rfl)
theorem lk_X12_171 : hp_LK RX12 171 yX12_inclusion := Or.inl (hp_mu (tb_8 (List.mem_of_getElem? (i := 0) rfl)) rfl)
theorem lk_X12_142 : hp_LK RX12 142 yX12_waysIn := Or.inl (hp_mu (tb_8 (List.mem_of_getElem? (i := 4) rfl)) rfl)
theorem lk_X12_174 : hp_LK RX12 174 yX12_folded := Or.inl (hp_mu (tb_8 (List.mem_of_getElem? (i := 8) rfl)) rfl)
theorem lk_X12_165 : hp_LK RX12 165 yX12_foldsIn := Or.inl (hp_mu (tb_8 (List.mem_of_getElem? (i := 12) rfl)) rfl)
theorem lk_X12_177 : hp_LK RX12 177 yX12_why := Or.inl (hp_mu (tb_8 (List.mem_of_getElem? (i := 16) rfl)) rfl)
theorem lk_X12_338 : hp_LK RX12 338 yX12_statementGrow := Or.inl (hp_mu (tb_8 (List.mem_of_getElem? (i := 20) rfl)) rfl)
theorem lk_L_35 : hp_LK RL 35 yX12_heard := Or.inl (hp_mu (tb_8 (List.mem_of_getElem? (i := 24) rfl)) rfl)
theorem lk_L_39 : hp_LK RL 39 yX12_fault := Or.inl (hp_mu (tb_8 (List.mem_of_getElem? (i := 28) rfl)) rfl)
theorem lk_L_48 : hp_LK RL 48 yX12_many := Or.inl (hp_mu (tb_8 (List.mem_of_getElem? (i := 32) rfl)) rfl)
theorem lk_L_52 : hp_LK RL 52 yX12_size := Or.inl (hp_mu (tb_8 (List.mem_of_getElem? (i := 36) rfl)) rfl)
theorem lk_X12_344 : hp_LK RX12 344 yX12_isRecord := Or.inl (hp_mu (tb_8 (List.mem_of_getElem? (i := 40) rfl)) rfl)
theorem lk_L_57 : hp_LK RL 57 yX12_entry := Or.inl (hp_mu (tb_8 (List.mem_of_getElem? (i := 44) rfl)) rfl)
theorem lk_L_61 : hp_LK RL 61 yX12_head := Or.inl (hp_mu (tb_8 (List.mem_of_getElem? (i := 48) rfl)) rfl)
theorem lk_X12_347 : hp_LK RX12 347 yX12_noSize := Or.inl (hp_mu (tb_8 (List.mem_of_getElem? (i := 52) rfl)) rfl)
theorem lk_L_65 : hp_LK RL 65 yX12_join := Or.inl (hp_mu (tb_8 (List.mem_of_getElem? (i := 56) rfl)) rfl)
theorem lk_L_69 : hp_LK RL 69 yX12_mark := Or.inl (hp_mu (tb_8 (List.mem_of_getElem? (i := 60) rfl)) rfl)
theorem lk_L_73 : hp_LK RL 73 yX12_frozen := Or.inl (hp_mu (tb_8 (List.mem_of_getElem? (i := 64) rfl)) rfl)
theorem lk_X12_350 : hp_LK RX12 350 yX12_froze := Or.inl (hp_mu (tb_8 (List.mem_of_getElem? (i := 68) rfl)) rfl)
theorem lk_X12_353 : hp_LK RX12 353 yX12_isSound := Or.inl (hp_mu (tb_8 (List.mem_of_getElem? (i := 72) rfl)) rfl)
theorem lk_L_77 : hp_LK RL 77 yX12_watcher := Or.inl (hp_mu (tb_8 (List.mem_of_getElem? (i := 76) rfl)) rfl)
theorem lk_X12_356 : hp_LK RX12 356 yX12_isWatcher := Or.inl (hp_mu (tb_8 (List.mem_of_getElem? (i := 80) rfl)) rfl)
theorem lk_L_81 : hp_LK RL 81 yX12_add := Or.inl (hp_mu (tb_8 (List.mem_of_getElem? (i := 83) rfl)) rfl)
theorem lk_X12_359 : hp_LK RX12 359 yX12_hand := Or.inl (hp_mu (tb_8 (List.mem_of_getElem? (i := 87) rfl)) rfl)
theorem lk_L_85 : hp_LK RL 85 yX12_fork := Or.inl (hp_mu (tb_8 (List.mem_of_getElem? (i := 91) rfl)) rfl)
theorem lk_L_89 : hp_LK RL 89 yX12_freeze := Or.inl (hp_mu (tb_8 (List.mem_of_getElem? (i := 95) rfl)) rfl)
theorem lk_L_93 : hp_LK RL 93 yX12_show := Or.inl (hp_mu (tb_8 (List.mem_of_getElem? (i := 99) rfl)) rfl)
theorem lk_L_97 : hp_LK RL 97 yX12_meet := Or.inl (hp_mu (tb_8 (List.mem_of_getElem? (i := 103) rfl)) rfl)
theorem lk_L_102 : hp_LK RL 102 yX12_spoil := Or.inl (hp_mu (tb_8 (List.mem_of_getElem? (i := 107) rfl)) rfl)
theorem lk_L_106 : hp_LK RL 106 yX12_push := Or.inl (hp_mu (tb_8 (List.mem_of_getElem? (i := 111) rfl)) rfl)
theorem lk_L_110 : hp_LK RL 110 yX12_poke := Or.inl (hp_mu (tb_8 (List.mem_of_getElem? (i := 115) rfl)) rfl)
theorem lk_L_114 : hp_LK RL 114 yX12_pad := Or.inl (hp_mu (tb_8 (List.mem_of_getElem? (i := 119) rfl)) rfl)
theorem lk_L_118 : hp_LK RL 118 yX12_cut := Or.inl (hp_mu (tb_8 (List.mem_of_getElem? (i := 123) rfl)) rfl)
theorem lk_L_122 : hp_LK RL 122 yX12_include := Or.inl (hp_mu (tb_8 (List.mem_of_getElem? (i := 127) rfl)) rfl)
theorem lk_X12_362 : hp_LK RX12 362 yX12_noEntry := Or.inl (hp_mu (tb_8 (List.mem_of_getElem? (i := 131) rfl)) rfl)
theorem lk_X12_365 : hp_LK RX12 365 yX12_pads := Or.inl (hp_mu (tb_8 (List.mem_of_getElem? (i := 135) rfl)) rfl)
theorem lk_L_126 : hp_LK RL 126 yX12_grow := Or.inl (hp_mu (tb_8 (List.mem_of_getElem? (i := 139) rfl)) rfl)
theorem lk_L_130 : hp_LK RL 130 yX12_bundle := Or.inl (hp_mu (tb_8 (List.mem_of_getElem? (i := 143) rfl)) rfl)
theorem lk_X12_368 : hp_LK RX12 368 yX12_isBeyond := Or.inl (hp_mu (tb_8 (List.mem_of_getElem? (i := 147) rfl)) rfl)
theorem lk_X12_372 : hp_LK RX12 372 yX12_bundleOf := Or.inl (hp_mu (tb_8 (List.mem_of_getElem? (i := 150) rfl)) rfl)
theorem lk_X12_157 : hp_LK RX12 157 yX12_bundlesIn := Or.inl (hp_mu (tb_8 (List.mem_of_getElem? (i := 154) rfl)) rfl)
theorem lk_X12_154 : hp_LK RX12 154 yX12_hasAny := Or.inl (hp_mu (tb_8 (List.mem_of_getElem? (i := 158) rfl)) rfl)
theorem lk_L_134 : hp_LK RL 134 yX12_peaks := Or.inl (hp_mu (tb_8 (List.mem_of_getElem? (i := 161) rfl)) rfl)
theorem lk_L_138 : hp_LK RL 138 yX12_extend := Or.inl (hp_mu (tb_8 (List.mem_of_getElem? (i := 165) rfl)) rfl)
theorem lk_X12_376 : hp_LK RX12 376 yJ6_bitCount_0f7a4 := Or.inl (hp_mu (tb_8 (List.mem_of_getElem? (i := 170) rfl)) rfl)
theorem lk_L_142 : hp_LK RL 142 yX12_checks := Or.inl (hp_mu (tb_8 (List.mem_of_getElem? (i := 171) rfl)) rfl)
theorem lk_X12_381 : hp_LK RX12 381 yX12_isThing := Or.inl (hp_mu (tb_8 (List.mem_of_getElem? (i := 175) rfl)) rfl)
theorem lk_X12_384 : hp_LK RX12 384 yX12_fromPad := Or.inl (hp_mu (tb_8 (List.mem_of_getElem? (i := 179) rfl)) rfl)
theorem lk_L_146 : hp_LK RL 146 yX12_growth_ := Or.inl (hp_mu (tb_8 (List.mem_of_getElem? (i := 183) rfl)) rfl)
theorem lk_L_150 : hp_LK RL 150 yX12_bundled := Or.inl (hp_mu (tb_8 (List.mem_of_getElem? (i := 187) rfl)) rfl)
theorem lk_X12_196 : hp_LK RX12 196 yX12_foldsBundle := Or.inl (hp_mu (tb_8 (List.mem_of_getElem? (i := 191) rfl)) rfl)
theorem lk_L_154 : hp_LK RL 154 yX12_fold := Or.inl (hp_mu (tb_8 (List.mem_of_getElem? (i := 195) rfl)) rfl)
theorem lk_L_158 : hp_LK RL 158 yX12_steps := Or.inl (hp_mu (tb_8 (List.mem_of_getElem? (i := 199) rfl)) rfl)
theorem lk_L_162 : hp_LK RL 162 yX12_climbs := Or.inl (hp_mu (tb_8 (List.mem_of_getElem? (i := 203) rfl)) rfl)
theorem lk_L_166 : hp_LK RL 166 yX12_agree := Or.inl (hp_mu (tb_8 (List.mem_of_getElem? (i := 207) rfl)) rfl)
theorem lk_X12_390 : hp_LK RX12 390 yX12_isAgreed := Or.inl (hp_mu (tb_8 (List.mem_of_getElem? (i := 211) rfl)) rfl)
theorem lk_X12_387 : hp_LK RX12 387 yX12_isHead := Or.inl (hp_mu (tb_8 (List.mem_of_getElem? (i := 215) rfl)) rfl)
theorem lk_L_170 : hp_LK RL 170 yX12_where := Or.inl (hp_mu (tb_8 (List.mem_of_getElem? (i := 219) rfl)) rfl)
theorem lk_X12_393 : hp_LK RX12 393 yX12_isTyped := Or.inl (hp_mu (tb_8 (List.mem_of_getElem? (i := 223) rfl)) rfl)
theorem lk_L_174 : hp_LK RL 174 yX12_tree := Or.inl (hp_mu (tb_8 (List.mem_of_getElem? (i := 227) rfl)) rfl)
theorem lk_X12_405 : hp_LK RX12 405 yX12_seeks := Or.inl (hp_mu (tb_8 (List.mem_of_getElem? (i := 231) rfl)) rfl)
theorem lk_L_178 : hp_LK RL 178 yX12_proves := Or.inl (hp_mu (tb_8 (List.mem_of_getElem? (i := 235) rfl)) rfl)
theorem lk_L_182 : hp_LK RL 182 yX12_longest := Or.inl (hp_mu (tb_8 (List.mem_of_getElem? (i := 239) rfl)) rfl)
theorem lk_L_186 : hp_LK RL 186 yX12_part := Or.inl (hp_mu (tb_9 (List.mem_of_getElem? (i := 3) rfl)) rfl)
theorem lk_L_190 : hp_LK RL 190 yX12_blame := Or.inl (hp_mu (tb_9 (List.mem_of_getElem? (i := 7) rfl)) rfl)
theorem lk_L_194 : hp_LK RL 194 yX12_weak := Or.inl (hp_mu (tb_9 (List.mem_of_getElem? (i := 11) rfl)) rfl)
theorem lk_L_198 : hp_LK RL 198 yX12_clash := Or.inl (hp_mu (tb_9 (List.mem_of_getElem? (i := 15) rfl)) rfl)
theorem lk_X12_408 : hp_LK RX12 408 yX12_stepsIn := Or.inl (hp_mu (tb_9 (List.mem_of_getElem? (i := 19) rfl)) rfl)
theorem lk_L_202 : hp_LK RL 202 yX12_forge := Or.inl (hp_mu (tb_9 (List.mem_of_getElem? (i := 23) rfl)) rfl)
theorem lk_L_206 : hp_LK RL 206 yX12_trace := Or.inl (hp_mu (tb_9 (List.mem_of_getElem? (i := 27) rfl)) rfl)
theorem lk_L_210 : hp_LK RL 210 yX12_span := Or.inl (hp_mu (tb_9 (List.mem_of_getElem? (i := 31) rfl)) rfl)
theorem lk_X12_414 : hp_LK RX12 414 yX12_wayAt := Or.inl (hp_mu (tb_9 (List.mem_of_getElem? (i := 35) rfl)) rfl)
theorem lk_L_214 : hp_LK RL 214 yX12_rise := Or.inl (hp_mu (tb_9 (List.mem_of_getElem? (i := 39) rfl)) rfl)
theorem lk_L_218 : hp_LK RL 218 yX12_kept := Or.inl (hp_mu (tb_9 (List.mem_of_getElem? (i := 43) rfl)) rfl)
theorem lk_X12_423 : hp_LK RX12 423 yX12_notes := Or.inl (hp_mu (tb_9 (List.mem_of_getElem? (i := 47) rfl)) rfl)
theorem lk_X12_420 : hp_LK RX12 420 yX12_had := Or.inl (hp_mu (tb_9 (List.mem_of_getElem? (i := 51) rfl)) rfl)
theorem lk_L_222 : hp_LK RL 222 yX12_sick := Or.inl (hp_mu (tb_9 (List.mem_of_getElem? (i := 55) rfl)) rfl)
theorem lk_L_226 : hp_LK RL 226 yX12_chain := Or.inl (hp_mu (tb_9 (List.mem_of_getElem? (i := 59) rfl)) rfl)
theorem lk_X12_426 : hp_LK RX12 426 yX12_sizeAbove := Or.inl (hp_mu (tb_9 (List.mem_of_getElem? (i := 63) rfl)) rfl)
theorem lk_L_230 : hp_LK RL 230 yX12_split := Or.inl (hp_mu (tb_9 (List.mem_of_getElem? (i := 67) rfl)) rfl)
theorem lk_L_234 : hp_LK RL 234 yX12_tell := Or.inl (hp_mu (tb_9 (List.mem_of_getElem? (i := 71) rfl)) rfl)
theorem lk_X12_449 : hp_LK RX12 449 yX12_says := Or.inl (hp_mu (tb_9 (List.mem_of_getElem? (i := 76) rfl)) rfl)
theorem lk_X12_429 : hp_LK RX12 429 yX12_tells := Or.inl (hp_mu (tb_9 (List.mem_of_getElem? (i := 80) rfl)) rfl)
theorem lk_X12_435 : hp_LK RX12 435 yJ0_length_8abf5 := Or.inl (hp_mu (tb_9 (List.mem_of_getElem? (i := 84) rfl)) rfl)
theorem lk_X12_440 : hp_LK RX12 440 yJ0_charAt_5068e := Or.inl (hp_mu (tb_9 (List.mem_of_getElem? (i := 85) rfl)) rfl)
theorem lk_X12_444 : hp_LK RX12 444 yX12_tellsNumber := Or.inl (hp_mu (tb_9 (List.mem_of_getElem? (i := 86) rfl)) rfl)
theorem lk_X12_459 : hp_LK RX12 459 yX12_tellsMarks := Or.inl (hp_mu (tb_9 (List.mem_of_getElem? (i := 93) rfl)) rfl)
theorem lk_L_238 : hp_LK RL 238 yX12_tellGrowth := Or.inl (hp_mu (tb_9 (List.mem_of_getElem? (i := 97) rfl)) rfl)
theorem lk_L_242 : hp_LK RL 242 yX12_out := Or.inl (hp_mu (tb_9 (List.mem_of_getElem? (i := 103) rfl)) rfl)
theorem lk_L_246 : hp_LK RL 246 yX12_trusted := Or.inl (hp_mu (tb_9 (List.mem_of_getElem? (i := 107) rfl)) rfl)
theorem lk_L_250 : hp_LK RL 250 yX12_saves := Or.inl (hp_mu (tb_9 (List.mem_of_getElem? (i := 111) rfl)) rfl)
theorem lk_L_254 : hp_LK RL 254 yX12_who := Or.inl (hp_mu (tb_9 (List.mem_of_getElem? (i := 115) rfl)) rfl)
end JN2_2
section JN2_3
/-! ===== ints ===== -/
theorem ib_hi (x : Int32) : x.toInt ≤ 2147483647 := by
  have h := x.toBitVec.toInt_lt
  have e : x.toInt = x.toBitVec.toInt := rfl
  simp at h
  omega
theorem ib_lo (x : Int32) : -2147483648 ≤ x.toInt := by
  have h := x.toBitVec.le_toInt
  have e : x.toInt = x.toBitVec.toInt := rfl
  simp at h
  omega
theorem il_lt {x y : Int32} (h : x < y) : x.toInt < y.toInt := Int32.lt_iff_toInt_lt.mp h
theorem il_le {x y : Int32} (h : x ≤ y) : x.toInt ≤ y.toInt := Int32.le_iff_toInt_le.mp h
theorem il_nlt {x y : Int32} (h : ¬ x < y) : y.toInt ≤ x.toInt := by rw [Int32.lt_iff_toInt_lt] at h; omega
theorem il_nle {x y : Int32} (h : ¬ x ≤ y) : y.toInt < x.toInt := by rw [Int32.le_iff_toInt_le] at h; omega
theorem il_eq {x y : Int32} (h : x = y) : x.toInt = y.toInt := by rw [h]
theorem il_ne {x y : Int32} (h : ¬ x = y) : ¬ x.toInt = y.toInt := fun e => h (Int32.toInt_inj.mp e)
theorem ic_clamp {i : Int32} (h : 0 ≤ i.toInt) : (i.toNatClampNeg : Int) = i.toInt := by
  show ((i.toInt.toNat : Nat) : Int) = i.toInt
  omega
theorem vi_of {i : Int32} {n : Nat} (h0 : 0 ≤ i.toInt) (h1 : i.toInt < n) : vp_in i n := by
  have h2 := ic_clamp h0
  intro h
  rcases h with h | h
  · have := il_lt h
    have e : (0 : Int32).toInt = 0 := rfl
    omega
  · omega
theorem ii_add {x y : Int32} (h0 : -2147483648 ≤ x.toInt + y.toInt) (h1 : x.toInt + y.toInt ≤ 2147483647) : (x + y).toInt = x.toInt + y.toInt := by
  rw [Int32.toInt_add]
  rw [Int.bmod_eq_of_le] <;> omega
theorem ii_sub {x y : Int32} (h0 : -2147483648 ≤ x.toInt - y.toInt) (h1 : x.toInt - y.toInt ≤ 2147483647) : (x - y).toInt = x.toInt - y.toInt := by
  rw [Int32.toInt_sub]
  rw [Int.bmod_eq_of_le] <;> omega
theorem ii_mul {x y : Int32} (h0 : -2147483648 ≤ x.toInt * y.toInt) (h1 : x.toInt * y.toInt ≤ 2147483647) : (x * y).toInt = x.toInt * y.toInt := by
  rw [Int32.toInt_mul]
  rw [Int.bmod_eq_of_le] <;> omega
theorem ii_div {x y : Int32} (h : 0 ≤ x.toInt) (hy : 0 < y.toInt) : (x / y).toInt = x.toInt / y.toInt := by
  have e : (x / y).toInt = (x.toInt.tdiv y.toInt).bmod (2 ^ 32) := Int32.toInt_div x y
  have h1 := ib_hi x
  have h2 : x.toInt.tdiv y.toInt = x.toInt / y.toInt := Int.tdiv_eq_ediv_of_nonneg h
  have h3 : 0 ≤ x.toInt / y.toInt := Int.ediv_nonneg h (by omega)
  have h4 : x.toInt / y.toInt ≤ x.toInt := Int.ediv_le_self _ h
  rw [h2, Int.bmod_eq_of_le (by omega) (by omega)] at e
  exact e
theorem ii_rem {x y : Int32} (h : 0 ≤ x.toInt) (hy : 0 < y.toInt) : (x - x / y * y).toInt = x.toInt % y.toInt := by
  have h1 := ib_hi x
  have hd := ii_div h hy
  have h3 : 0 ≤ x.toInt / y.toInt := Int.ediv_nonneg h (by omega)
  have h5 := Int.emod_add_mul_ediv x.toInt y.toInt
  have h6 := Int.emod_nonneg x.toInt (show y.toInt ≠ 0 by omega)
  have h7 : 0 ≤ x.toInt / y.toInt * y.toInt := Int.mul_nonneg h3 (by omega)
  have h8 : x.toInt / y.toInt * y.toInt = y.toInt * (x.toInt / y.toInt) := Int.mul_comm _ _
  have hm : (x / y * y).toInt = x.toInt / y.toInt * y.toInt := by
    rw [ii_mul (by rw [hd]; omega) (by rw [hd]; omega), hd]
  rw [ii_sub (by rw [hm]; omega) (by rw [hm]; omega), hm]
  omega
/-! ===== what always holds of the picture; what a method of the class keeps ===== -/
def gc_i (φ : Nat) (v : Int32) : Prop := (φ == 453 || φ == 301) = true → 0 ≤ v.toInt ∧ v.toInt ≤ 64
def gc_rt : List (Nat × Nat) := [(51, 6), (104, 6), (150, 28), (151, 29), (200, 7), (201, 6), (202, 9), (207, 10), (250, 34), (251, 35), (253, 9), (254, 6), (300, 20), (350, 24), (450, 21), (451, 22), (452, 23), (500, 27), (551, 30), (553, 31), (555, 32), (557, 33), (558, 6), (559, 9), (601, 11), (602, 11), (603, 6), (604, 24), (606, 10), (607, 10), (608, 6), (609, 6), (610, 25), (612, 9), (613, 9), (614, 6), (615, 1), (616, 4), (617, 26), (650, 40), (651, 41), (654, 42), (655, 43), (656, 44), (662, 45), (663, 46), (666, 47), (678, 48), (680, 49), (681, 50), (686, 51), (687, 52), (688, 53), (690, 54), (691, 55), (692, 56), (693, 57), (694, 58), (696, 59)]
def gc_rk (φ : Nat) : Nat := (gc_rt.lookup φ).getD 0
def gc_qk (κ : Nat) : Nat := if κ = 28 then 10 else if κ = 30 then 3 else if κ = 31 then 2 else if κ = 32 then 8 else 0
def gc_t (φ k : Nat) : Prop := k = gc_rk φ ∨ (φ = 350 ∧ k = 36)
def GC (α : hp_T) : Prop := (∀ φ a, gc_i φ (hp_I α φ a)) ∧ (∀ φ a, hp_K α a = φ / 50 → gc_rk φ ≠ 0 → gc_t φ (hp_K α (hp_R α φ a))) ∧ (∀ a b, hp_K α a = 12 → hp_N α 618 a = some b → hp_K α b = 5) ∧ (∀ κ a j b, hp_K α a = κ → gc_qk κ ≠ 0 → hp_Q α κ a j = some b → hp_K α b = gc_qk κ)
/-- what a method may write: int fields, references, rows of ints, long fields -/
abbrev cw_W : Type := List Nat × List Nat × List Nat × List Nat
def cw (w : cw_W) (α0 α : hp_T) : Prop := GC α ∧ hp_K α = hp_K α0 ∧ hp_N α = hp_N α0 ∧ hp_Q α = hp_Q α0 ∧ hp_L α = hp_L α0 ∧ (∀ φ, φ ∉ w.1 → hp_I α φ = hp_I α0 φ) ∧ (∀ φ, φ ∉ w.2.1 → hp_R α φ = hp_R α0 φ) ∧ (∀ κ, κ ∉ w.2.2.1 → hp_E α κ = hp_E α0 κ) ∧ ∀ φ, φ ∉ w.2.2.2 → hp_J α φ = hp_J α0 φ
def cw_sub (v w : cw_W) : Bool := v.1.all (fun x => w.1.contains x) && v.2.1.all (fun x => w.2.1.contains x) && v.2.2.1.all (fun x => w.2.2.1.contains x) && v.2.2.2.all (fun x => w.2.2.2.contains x)
theorem cw_in {v w : List Nat} (h : v.all (fun x => w.contains x) = true) {x : Nat} (hx : x ∉ w) : x ∉ v := fun hv => hx (by
  have := List.all_eq_true.mp h x hv
  simpa using this)
theorem cw_rf {w : cw_W} {α : hp_T} (g : GC α) : cw w α α := ⟨g, rfl, rfl, rfl, rfl, fun _ _ => rfl, fun _ _ => rfl, fun _ _ => rfl, fun _ _ => rfl⟩
theorem cw_tr {v w : cw_W} {α0 α β : hp_T} (h : cw w α0 α) (g : cw v α β) (hs : cw_sub v w = true) : cw w α0 β := by
  simp only [cw_sub, Bool.and_eq_true] at hs
  obtain ⟨⟨⟨s1, s2⟩, s3⟩, s4⟩ := hs
  obtain ⟨h0, h1, h2, h3, h4, h5, h6, h7, h8⟩ := h
  obtain ⟨g0, g1, g2, g3, g4, g5, g6, g7, g8⟩ := g
  exact ⟨g0, g1.trans h1, g2.trans h2, g3.trans h3, g4.trans h4, fun φ hφ => (g5 φ (cw_in s1 hφ)).trans (h5 φ hφ), fun φ hφ => (g6 φ (cw_in s2 hφ)).trans (h6 φ hφ), fun φ hφ => (g7 φ (cw_in s3 hφ)).trans (h7 φ hφ), fun φ hφ => (g8 φ (cw_in s4 hφ)).trans (h8 φ hφ)⟩
theorem cw_sI {w : cw_W} {α0 α : hp_T} {φ a : Nat} {v : Int32} (h : cw w α0 α) (hφ : φ ∈ w.1) (hv : gc_i φ v) : cw w α0 (hp_sI α φ a v) := by
  obtain ⟨⟨g1, g2, g3, g4⟩, h1, h2, h3, h4, h5, h6, h7, h8⟩ := h
  have hne : ∀ ψ, ψ ≠ φ → hp_I (hp_sI α φ a v) ψ = hp_I α ψ := fun ψ hψ => by funext b; simp [hp_I, hp_sI, hp_up, hψ]
  refine ⟨⟨fun ψ b => ?_, g2, g3, g4⟩, h1, h2, h3, h4, fun ψ hψ => (hne ψ (fun e => hψ (e ▸ hφ))).trans (h5 ψ hψ), h6, h7, h8⟩
  by_cases hb : ψ = φ ∧ b = a
  · obtain ⟨rfl, rfl⟩ := hb
    have e : hp_I (hp_sI α ψ b v) ψ b = v := by simp [hp_I, hp_sI, hp_up]
    rw [e]; exact hv
  · have e : hp_I (hp_sI α φ a v) ψ b = hp_I α ψ b := by simp [hp_I, hp_sI, hp_up, hb]
    rw [e]; exact g1 ψ b
theorem cw_sE {w : cw_W} {α0 α : hp_T} {κ a j : Nat} {v : Int32} (h : cw w α0 α) (hκ : κ ∈ w.2.2.1) : cw w α0 (hp_sE α κ a j v) := by
  obtain ⟨g, h1, h2, h3, h4, h5, h6, h7, h8⟩ := h
  have hne : ∀ ψ, ψ ≠ κ → hp_E (hp_sE α κ a j v) ψ = hp_E α ψ := fun ψ hψ => by funext b i; simp [hp_E, hp_sE, hp_uq, hψ]
  exact ⟨g, h1, h2, h3, h4, h5, h6, fun ψ hψ => (hne ψ (fun e => hψ (e ▸ hκ))).trans (h7 ψ hψ), h8⟩
theorem cw_sR {w : cw_W} {α0 α : hp_T} {φ a x : Nat} (h : cw w α0 α) (hφ : φ ∈ w.2.1) (hx : gc_t φ (hp_K α0 x)) : cw w α0 (hp_sR α φ a x) := by
  obtain ⟨⟨g1, g2, g3, g4⟩, h1, h2, h3, h4, h5, h6, h7, h8⟩ := h
  have hne : ∀ ψ, ψ ≠ φ → hp_R (hp_sR α φ a x) ψ = hp_R α ψ := fun ψ hψ => by funext b; simp [hp_R, hp_sR, hp_up, hψ]
  refine ⟨⟨g1, fun ψ b hb hr => ?_, g3, g4⟩, h1, h2, h3, h4, h5, fun ψ hψ => (hne ψ (fun e => hψ (e ▸ hφ))).trans (h6 ψ hψ), h7, h8⟩
  by_cases hq : ψ = φ ∧ b = a
  · obtain ⟨rfl, rfl⟩ := hq
    have e : hp_R (hp_sR α ψ b x) ψ b = x := by simp [hp_R, hp_sR, hp_up]
    rw [e]
    show gc_t ψ (hp_K α x)
    rw [h1]; exact hx
  · have e : hp_R (hp_sR α φ a x) ψ b = hp_R α ψ b := by simp [hp_R, hp_sR, hp_up, hq]
    rw [e]; exact g2 ψ b hb hr
theorem cw_k {w : cw_W} {α0 α : hp_T} {b κ : Nat} (h : cw w α0 α) (hk : hp_K α0 b = κ) : hp_K α b = κ := by rw [h.2.1]; exact hk
theorem cw_r {w : cw_W} {α0 α : hp_T} {a κ φ κ' : Nat} (h : cw w α0 α) (hk : hp_K α0 a = κ) (hφ : φ / 50 = κ) (hr : gc_rk φ = κ') (hz : κ' ≠ 0) (h350 : φ ≠ 350) : hp_K α0 (hp_R α φ a) = κ' := by
  rcases h.1.2.1 φ a (by rw [h.2.1, hφ]; exact hk) (by rw [hr]; exact hz) with e | e
  · rw [← h.2.1, e, hr]
  · exact absurd e.1 h350
theorem cw_q {w : cw_W} {α0 α : hp_T} {a κ j b κ' : Nat} (h : cw w α0 α) (hk : hp_K α0 a = κ) (hr : gc_qk κ = κ') (hz : κ' ≠ 0) (hb : hp_Q α κ a j = some b) : hp_K α0 b = κ' := by
  have := h.1.2.2.2 κ a j b (by rw [h.2.1]; exact hk) (by rw [hr]; exact hz) hb
  rw [h.2.1, hr] at this
  exact this
theorem cw_k' {w : cw_W} {α0 α : hp_T} {b κ : Nat} (h : cw w α0 α) (hk : hp_K α b = κ) : hp_K α0 b = κ := by rw [← h.2.1]; exact hk
theorem cw_u {w : cw_W} {α0 α : hp_T} {a : Nat} (h : cw w α0 α) (hk : hp_K α0 a = 7) : hp_K α0 (hp_R α 350 a) = 24 ∨ hp_K α0 (hp_R α 350 a) = 36 := by
  rcases h.1.2.1 350 a (by rw [h.2.1, hk]) (by decide) with e | e
  · left; rw [← h.2.1, e]; rfl
  · right; rw [← h.2.1]; exact e.2
theorem hp_I_ne {α : hp_T} {φ a ψ b : Nat} {v : Int32} (h : ψ ≠ φ) : hp_I (hp_sI α φ a v) ψ b = hp_I α ψ b := by simp [hp_I, hp_sI, hp_up, h]
theorem nz_z {x : Int32} (h : x = 0 ∨ x = 1) : narrow .boolean (.int x) = .int x := by rcases h with rfl | rfl <;> decide
theorem li_nz {m : Int32} {y : Int64} (e : y = m.toInt64) (h : ¬ m.toInt = 0) : ¬ y = 0 := by
  intro hy
  rw [hy] at e
  have h2 := congrArg Int64.toInt e
  rw [Int32.toInt_toInt64] at h2
  exact h (by rw [← h2]; rfl)
section HPG
variable {p : Program} {l : Launch} {e : Env} {R : Room} {s : State} {m : MethodId} {args : Array Value} {below : List Frame} {meth : Method} {c : Code} {H : Heap} {locs : List Loc} {cells slots : Nat} {Q : State → Prop} {cc : ByteArray} {nL : Nat} {own : String} {Γ : hp_G} {α0 α α' : hp_T} {Iv : hp_T → hp_T → Prop} {pc pc' : Nat} {ls : Array Slot} {rest : List Value} {a κ k t index φ κ' : Nat} {v : Value}
/-- getfield of an int: it gets a name -/
theorem q_geti (C : hp_C Γ p m c cc nL s args own) (B : hp_B Γ Iv s α0 α H locs) (hk : hp_K α a = κ) (hF : hp_F own index (hp_b κ) k) (hc : hp_isC κ = true) (ht : (hp_tg κ)[k]? = some 0) (hφ : 50 * hp_b κ + k = φ) (hdg : decode cc pc = .ok (.getfield index, 3)) (hpc : pc + 3 = pc')
    (kk : ∀ x : Int32, x = hp_I α φ a → W p l e R s m args below meth c H locs cells slots Q (F0 m pc' ls (.int x :: rest))) : W p l e R s m args below meth c H locs cells slots Q (F0 m pc ls (.ref a :: rest)) := by
  subst hφ
  exact q_get C B hk hF hc ht rfl hdg hpc (kk _ rfl)
/-- the same int again -/
theorem q_getj {x : Int32} (C : hp_C Γ p m c cc nL s args own) (B : hp_B Γ Iv s α0 α H locs) (hk : hp_K α a = κ) (hF : hp_F own index (hp_b κ) k) (hc : hp_isC κ = true) (ht : (hp_tg κ)[k]? = some 0) (hφ : 50 * hp_b κ + k = φ) (hx : x = hp_I α φ a) (hdg : decode cc pc = .ok (.getfield index, 3)) (hpc : pc + 3 = pc')
    (kk : W p l e R s m args below meth c H locs cells slots Q (F0 m pc' ls (.int x :: rest))) : W p l e R s m args below meth c H locs cells slots Q (F0 m pc ls (.ref a :: rest)) := by
  subst hφ; subst hx
  exact q_get C B hk hF hc ht rfl hdg hpc kk
/-- getfield of a reference: it gets a name and its kind -/
theorem q_getr (C : hp_C Γ p m c cc nL s args own) (B : hp_B Γ Iv s α0 α H locs) (hk : hp_K α a = κ) (hF : hp_F own index (hp_b κ) k) (hc : hp_isC κ = true) (ht : (hp_tg κ)[k]? = some 1) (hφ : 50 * hp_b κ + k = φ) (hT : hp_K α0 (hp_R α φ a) = κ') (hdg : decode cc pc = .ok (.getfield index, 3)) (hpc : pc + 3 = pc')
    (kk : ∀ b : Nat, b = hp_R α φ a → hp_K α0 b = κ' → W p l e R s m args below meth c H locs cells slots Q (F0 m pc' ls (.ref b :: rest))) : W p l e R s m args below meth c H locs cells slots Q (F0 m pc ls (.ref a :: rest)) := by
  subst hφ
  exact q_get C B hk hF hc ht rfl hdg hpc (kk _ rfl hT)
theorem q_gets {b : Nat} (C : hp_C Γ p m c cc nL s args own) (B : hp_B Γ Iv s α0 α H locs) (hk : hp_K α a = κ) (hF : hp_F own index (hp_b κ) k) (hc : hp_isC κ = true) (ht : (hp_tg κ)[k]? = some 1) (hφ : 50 * hp_b κ + k = φ) (hx : b = hp_R α φ a) (hdg : decode cc pc = .ok (.getfield index, 3)) (hpc : pc + 3 = pc')
    (kk : W p l e R s m args below meth c H locs cells slots Q (F0 m pc' ls (.ref b :: rest))) : W p l e R s m args below meth c H locs cells slots Q (F0 m pc ls (.ref a :: rest)) := by
  subst hφ; subst hx
  exact q_get C B hk hF hc ht rfl hdg hpc kk
theorem q_getu (C : hp_C Γ p m c cc nL s args own) (B : hp_B Γ Iv s α0 α H locs) (hk : hp_K α a = κ) (hF : hp_F own index (hp_b κ) k) (hc : hp_isC κ = true) (ht : (hp_tg κ)[k]? = some 1) (hφ : 50 * hp_b κ + k = φ) (hT : hp_K α0 (hp_R α φ a) = 24 ∨ hp_K α0 (hp_R α φ a) = 36) (hdg : decode cc pc = .ok (.getfield index, 3)) (hpc : pc + 3 = pc')
    (kk : ∀ b : Nat, b = hp_R α φ a → (hp_K α0 b = 24 ∨ hp_K α0 b = 36) → W p l e R s m args below meth c H locs cells slots Q (F0 m pc' ls (.ref b :: rest))) : W p l e R s m args below meth c H locs cells slots Q (F0 m pc ls (.ref a :: rest)) := by
  subst hφ
  exact q_get C B hk hF hc ht rfl hdg hpc (kk _ rfl hT)
end HPG
end JN2_3
section JN2_4
theorem lt_m8 : (-8 : Int32).toInt = -8 := by decide
theorem mu_dn8 {x y : Int32} {n : Nat} (h : (x.toInt + 1).toNat = n) (e : y = x + (-8)) (h0 : 0 ≤ x.toInt) : (y.toInt + 1).toNat < n := by
  have h1 := ib_hi x
  have h2 : (x + (-8)).toInt = x.toInt + (-8 : Int32).toInt := ii_add (by rw [lt_m8]; omega) (by rw [lt_m8]; omega)
  rw [lt_m8] at h2
  rw [e]
  omega
/-- a method's start, of a class that has members which the machine runs by itself -/
theorem hp_startF {l : Launch} {Γ : hp_G} {α : hp_T} {bytes : ByteArray} {maxL d mc ms : Nat} {ret : Option FieldType} {y : MethodName} {Qc : Array Value → State → Outcome → State → Prop} {av : List Value} (hy : plainFor y = true)
    (body : ∀ p e s m below meth c, hp_C Γ p m c bytes maxL s av.toArray y.cls → meth.sig.returnType = ret → meth.locks = false → hp_B Γ (fun _ _ => True) s α α s.heap [] → meth.name = y.name →
      W p l e (hp_rm d mc ms) s m av.toArray below meth c s.heap [] 0 0 (MQ below Qc av.toArray s mc ms (hp_A Γ)) (entryFrame m av.toArray maxL)) : Met l y (hp_ws y bytes maxL ret) (hp_rm d mc ms) (hp_Pc Γ α av) Qc mc ms (hp_A Γ) := by
  refine va_MetF (cc := bytes) (maxL := maxL) (ret := ret) hy rfl ?_
  intro p e s m args below meth c s₁ B hml hv
  obtain ⟨rfl, hR, hK⟩ := hv
  have hts := atoms_spec (ws := hp_ws y bytes maxL ret) B.pre
  exact body p e s m below meth c ⟨⟨B.exec, B.bytes, hml, findClass_of_methodNamed B.named, fun w hw => hts w (List.mem_cons_of_mem _ hw)⟩, hK⟩ B.returns B.notSynchronized ⟨hR, va_S.rf, trivial⟩ (name_of_methodNamed B.named B.method).1
theorem hp_I_at {α : hp_T} {φ a : Nat} {v : Int32} : hp_I (hp_sI α φ a v) φ a = v := by simp [hp_I, hp_sI, hp_up]
end JN2_4
section JN2_5
abbrev w_X5_at : cw_W := ([], [], [], [])
abbrev w_X5_put : cw_W := ([301], [], [20], [])
abbrev w_X5_change : cw_W := ([], [], [20], [])
abbrev w_X5_shorten : cw_W := ([301], [], [], [])
abbrev w_X5_countOf : cw_W := ([], [], [], [])
end JN2_5
section JN2_6
abbrev w_X9_clear : cw_W := ([501], [], [], [])
abbrev w_X9_put : cw_W := ([501], [], [27], [])
abbrev w_X9_letterAt : cw_W := ([], [], [], [])
abbrev w_X9_change : cw_W := ([], [], [27], [])
abbrev w_X9_copy : cw_W := ([501], [], [27], [])
abbrev w_X9_isLike : cw_W := ([], [], [], [])
abbrev w_X7_trust : cw_W := ([400, 401], [], [], [])
abbrev w_X7_renew : cw_W := ([400, 401, 402, 403], [], [], [])
abbrev w_X7_hearWhy : cw_W := ([403], [], [], [])
abbrev w_X11_mixed : cw_W := ([], [], [], [])
abbrev w_X11_markOfTwo : cw_W := ([], [], [], [])
abbrev w_X9_markBy : cw_W := ([], [], [], [])
end JN2_6
section JN2_7
abbrev w_X5_putPeak : cw_W := ([301], [], [20], [])
abbrev w_X5_foldedPeaks : cw_W := ([], [], [], [])
end JN2_7
section JN2_8
abbrev w_J9_min_7cf53 : cw_W := ([], [], [], [])
abbrev w_J9_max_7cf53 : cw_W := ([], [], [], [])
abbrev w_J6_numberOfLeadingZeros_0f7a4 : cw_W := ([], [], [], [])
abbrev w_J6_highestOneBit_0f7a4 : cw_W := ([], [], [], [])
abbrev w_J6_bitCount_0f7a4 : cw_W := ([], [], [], [])
abbrev w_J9_floorMod_f86c9 : cw_W := ([], [], [], [])
end JN2_8
section JN2_9
abbrev w_X11_firstPartOf : cw_W := ([], [], [], [])
abbrev w_X11_hasOneOf : cw_W := ([], [], [], [])
abbrev w_X8_firstAt : cw_W := ([], [], [], [])
abbrev w_X8_manyAt : cw_W := ([], [], [], [])
abbrev w_X8_isAhead : cw_W := ([], [], [], [])
abbrev w_X8_clear : cw_W := ([453, 454], [], [], [])
abbrev w_X8_put : cw_W := ([453], [], [21, 22, 23], [])
abbrev w_X8_turnRound : cw_W := ([], [], [21, 22, 23], [])
abbrev w_X8_toThing : cw_W := ([453, 454], [], [21, 22, 23], [])
abbrev w_X8_toGrowth : cw_W := ([453, 454], [], [21, 22, 23], [])
abbrev w_X8_putGreatestWithout : cw_W := ([453], [], [21, 22, 23], [])
abbrev w_X8_toBundle : cw_W := ([453, 454], [], [21, 22, 23], [])
abbrev w_X8_toTree : cw_W := ([453, 454], [], [21, 22, 23], [])
abbrev w_X8_countShared : cw_W := ([], [], [], [])
abbrev w_X8_joined : cw_W := ([], [], [], [])
abbrev w_X8_folded : cw_W := ([], [], [], [])
abbrev w_X8_whyInclusion : cw_W := ([], [], [], [])
abbrev w_X8_whyGrowth : cw_W := ([453, 454], [], [21, 22, 23], [])
end JN2_9
section JN2_10
abbrev w_X2_wordAt : cw_W := ([], [], [], [])
abbrev w_X2_markAt : cw_W := ([], [], [], [])
abbrev w_X2_putWord : cw_W := ([152, 501], [], [27, 29], [])
abbrev w_X2_changeLetter : cw_W := ([], [], [27, 29], [])
abbrev w_X2_firstLike : cw_W := ([], [], [], [])
abbrev w_X2_countLike : cw_W := ([], [], [], [])
end JN2_10
section JN2_11
abbrev w_X10_logAt : cw_W := ([], [], [], [])
abbrev w_X10_frozenAt : cw_W := ([], [], [], [])
abbrev w_X10_watcherAt : cw_W := ([], [], [], [])
abbrev w_X10_alarmedBits : cw_W := ([], [], [], [])
abbrev w_X10_treeMark : cw_W := ([], [], [33], [])
abbrev w_X10_peaksOf : cw_W := ([301], [], [20, 33], [])
abbrev w_X10_headOf : cw_W := ([], [], [33], [])
abbrev w_X10_hasHead : cw_W := ([], [], [33], [])
abbrev w_X10_marksAlong : cw_W := ([301], [], [20, 33], [])
abbrev w_X10_addWord : cw_W := ([152, 501, 556], [], [27, 29], [])
abbrev w_X10_forkLog : cw_W := ([152, 501, 552, 556], [], [27, 29], [])
abbrev w_X10_freezeHead : cw_W := ([100, 101, 102, 103, 301, 554, 556], [], [20, 33], [])
abbrev w_X10_spoilLetter : cw_W := ([556], [], [27, 29], [])
abbrev w_X10_whyGrown : cw_W := ([301, 453, 454], [], [20, 21, 22, 23, 33], [])
abbrev w_X10_showTo : cw_W := ([301, 400, 401, 402, 403, 453, 454, 556], [], [20, 21, 22, 23, 33], [])
abbrev w_X10_meetBy : cw_W := ([301, 400, 401, 403, 453, 454, 556], [], [20, 21, 22, 23, 33], [])
abbrev w_X10_doAgree : cw_W := ([], [], [33], [])
abbrev w_X10_isSound : cw_W := ([], [], [33], [])
abbrev w_X10_sickBits : cw_W := ([301], [], [20, 33], [])
abbrev w_X10_countUnsound : cw_W := ([], [], [33], [])
abbrev w_X10_leastUnsound : cw_W := ([], [], [33], [])
abbrev w_X10_greatestSoundBelow : cw_W := ([], [], [33], [])
abbrev w_X10_leastFrozenAbove : cw_W := ([], [], [], [])
abbrev w_X10_partingTrees : cw_W := ([], [], [33], [])
abbrev w_X10_partingEntry : cw_W := ([], [], [33], [])
abbrev w_X10_partingCompared : cw_W := ([], [], [33], [])
abbrev w_X10_renew : cw_W := ([152, 400, 401, 402, 403, 550, 552, 554, 556], [], [], [])
end JN2_11
section JN2_12
abbrev w_X0_foldedTree : cw_W := ([53, 54], [], [], [])
abbrev w_X0_why : cw_W := ([50, 52, 53, 54], [51], [], [])
end JN2_12
section JN2_13
abbrev w_X4_restOf : cw_W := ([], [], [], [])
abbrev w_X4_firstOf : cw_W := ([], [], [], [])
abbrev w_X4_leastRoot : cw_W := ([], [], [], [])
abbrev w_X4_secondOf : cw_W := ([], [], [], [])
abbrev w_X4_take : cw_W := ([259, 260], [], [], [])
abbrev w_X4_goBack : cw_W := ([259, 260], [], [], [])
abbrev w_X4_seek : cw_W := ([259, 260], [], [], [])
abbrev w_X4_seekThing : cw_W := ([255, 256, 258, 259, 260], [253, 254], [], [])
abbrev w_X4_seekStep : cw_W := ([255, 256, 257, 258, 259, 260], [253, 254], [], [])
abbrev w_X4_prepare : cw_W := ([252], [], [34, 35], [])
end JN2_13
section JN2_14
theorem fo_J0_38 : Cond.fieldLink RJ0 38 "java/lang/String" "COMPACT_STRINGS" "Z" ∈ lw_u := hp_mu (tb_2 (List.mem_of_getElem? (i := 235) rfl)) rfl
theorem fo_J0_1053 : Cond.fieldLink RJ0 1053 "jdk/internal/util/Preconditions" "SIOOBE_FORMATTER" "Ljava/util/function/BiFunction;" ∈ lw_u := hp_mu (tb_3 (List.mem_of_getElem? (i := 11) rfl)) rfl
theorem fo_J0_9 : Cond.fieldLink RJ0 9 "java/lang/String" "value" "[B" ∈ lw_u := hp_mu (tb_9 (List.mem_of_getElem? (i := 119) rfl)) rfl
theorem fo_J0_15 : Cond.fieldLink RJ0 15 "java/lang/String" "coder" "B" ∈ lw_u := hp_mu (tb_9 (List.mem_of_getElem? (i := 120) rfl)) rfl
theorem sx_J0_length_8abf5 : Cond.selects yJ0_length_8abf5.cls yJ0_length_8abf5 yJ0_length_8abf5 ∈ lw_u := hp_mu (tb_2 (List.mem_of_getElem? (i := 229) rfl)) rfl
theorem sx_J0_charAt_5068e : Cond.selects yJ0_charAt_5068e.cls yJ0_charAt_5068e yJ0_charAt_5068e ∈ lw_u := hp_mu (tb_2 (List.mem_of_getElem? (i := 239) rfl)) rfl
theorem sx_J0_coder_7d493 : Cond.selects yJ0_coder_7d493.cls yJ0_coder_7d493 yJ0_coder_7d493 ∈ lw_u := hp_mu (tb_2 (List.mem_of_getElem? (i := 233) rfl)) rfl
theorem sx_J0_isLatin1_aae02 : Cond.selects yJ0_isLatin1_aae02.cls yJ0_isLatin1_aae02 yJ0_isLatin1_aae02 ∈ lw_u := hp_mu (tb_3 (List.mem_of_getElem? (i := 3) rfl)) rfl
theorem iz_X11 : Cond.initialized RX11 ∈ lw_u := hp_mu (tb_1 (List.mem_of_getElem? (i := 1) rfl)) rfl
theorem iz_X10 : Cond.initialized RX10 ∈ lw_u := hp_mu (tb_1 (List.mem_of_getElem? (i := 2) rfl)) rfl
theorem iz_X5 : Cond.initialized RX5 ∈ lw_u := hp_mu (tb_1 (List.mem_of_getElem? (i := 3) rfl)) rfl
theorem iz_X8 : Cond.initialized RX8 ∈ lw_u := hp_mu (tb_1 (List.mem_of_getElem? (i := 4) rfl)) rfl
theorem iz_X2 : Cond.initialized RX2 ∈ lw_u := hp_mu (tb_1 (List.mem_of_getElem? (i := 5) rfl)) rfl
theorem iz_X9 : Cond.initialized RX9 ∈ lw_u := hp_mu (tb_1 (List.mem_of_getElem? (i := 6) rfl)) rfl
theorem iz_X1 : Cond.initialized RX1 ∈ lw_u := hp_mu (tb_1 (List.mem_of_getElem? (i := 7) rfl)) rfl
theorem iz_X7 : Cond.initialized RX7 ∈ lw_u := hp_mu (tb_1 (List.mem_of_getElem? (i := 8) rfl)) rfl
theorem iz_X0 : Cond.initialized RX0 ∈ lw_u := hp_mu (tb_1 (List.mem_of_getElem? (i := 9) rfl)) rfl
theorem iz_X3 : Cond.initialized RX3 ∈ lw_u := hp_mu (tb_1 (List.mem_of_getElem? (i := 10) rfl)) rfl
theorem iz_X6 : Cond.initialized RX6 ∈ lw_u := hp_mu (tb_1 (List.mem_of_getElem? (i := 11) rfl)) rfl
theorem iz_X12 : Cond.initialized RX12 ∈ lw_u := hp_mu (tb_1 (List.mem_of_getElem? (i := 12) rfl)) rfl
theorem iz_X4 : Cond.initialized RX4 ∈ lw_u := hp_mu (tb_1 (List.mem_of_getElem? (i := 19) rfl)) rfl
theorem cl_L_7 : Cond.classLink RL 7 RX11 ∈ lw_u := hp_mu (tb_1 (List.mem_of_getElem? (i := 20) rfl)) rfl
theorem it_X11 : Cond.instantiable RX11 19 ∈ lw_u := hp_mu (tb_1 (List.mem_of_getElem? (i := 21) rfl)) rfl
theorem ol_X11 : Cond.methodLink RX11 1 objectInit ∈ lw_u := hp_mu (tb_1 (List.mem_of_getElem? (i := 25) rfl)) rfl
theorem oi_in : Cond.instanceMethod objectInit ∈ lw_u := hp_mu (tb_1 (List.mem_of_getElem? (i := 26) rfl)) rfl
theorem oi_cd : Cond.code objectInit ⟨#[0xb1]⟩ 1 none ∈ lw_u := hp_mu (tb_1 (List.mem_of_getElem? (i := 27) rfl)) rfl
theorem cl_X11_13 : Cond.classLink RX11 13 RX10 ∈ lw_u := hp_mu (tb_1 (List.mem_of_getElem? (i := 28) rfl)) rfl
theorem it_X10 : Cond.instantiable RX10 10 ∈ lw_u := hp_mu (tb_1 (List.mem_of_getElem? (i := 29) rfl)) rfl
theorem ol_X10 : Cond.methodLink RX10 3 objectInit ∈ lw_u := hp_mu (tb_1 (List.mem_of_getElem? (i := 33) rfl)) rfl
theorem cl_X10_16 : Cond.classLink RX10 16 RX2 ∈ lw_u := hp_mu (tb_1 (List.mem_of_getElem? (i := 35) rfl)) rfl
theorem ao_X2 : Cond.arrayOver (.object "ProvenRecord$Log") ∈ hp_nest := List.mem_filter.mpr ⟨tb_1 (List.mem_of_getElem? (i := 36) rfl), by decide +kernel⟩
theorem cl_X10_25 : Cond.classLink RX10 25 RX1 ∈ lw_u := hp_mu (tb_1 (List.mem_of_getElem? (i := 37) rfl)) rfl
theorem ao_X1 : Cond.arrayOver (.object "ProvenRecord$Frozen") ∈ hp_nest := List.mem_filter.mpr ⟨tb_1 (List.mem_of_getElem? (i := 38) rfl), by decide +kernel⟩
theorem cl_X10_34 : Cond.classLink RX10 34 RX7 ∈ lw_u := hp_mu (tb_1 (List.mem_of_getElem? (i := 39) rfl)) rfl
theorem ao_X7 : Cond.arrayOver (.object "ProvenRecord$Watcher") ∈ hp_nest := List.mem_filter.mpr ⟨tb_1 (List.mem_of_getElem? (i := 40) rfl), by decide +kernel⟩
theorem cl_X10_47 : Cond.classLink RX10 47 RX5 ∈ lw_u := hp_mu (tb_1 (List.mem_of_getElem? (i := 41) rfl)) rfl
theorem it_X5 : Cond.instantiable RX5 2 ∈ lw_u := hp_mu (tb_1 (List.mem_of_getElem? (i := 42) rfl)) rfl
theorem ol_X5 : Cond.methodLink RX5 3 objectInit ∈ lw_u := hp_mu (tb_1 (List.mem_of_getElem? (i := 46) rfl)) rfl
theorem ac_int : Cond.arrayClass .int ∈ lw_u := hp_mu (tb_1 (List.mem_of_getElem? (i := 59) rfl)) rfl
theorem cl_X10_54 : Cond.classLink RX10 54 RX8 ∈ lw_u := hp_mu (tb_1 (List.mem_of_getElem? (i := 60) rfl)) rfl
theorem it_X8 : Cond.instantiable RX8 5 ∈ lw_u := hp_mu (tb_1 (List.mem_of_getElem? (i := 61) rfl)) rfl
theorem ol_X8 : Cond.methodLink RX8 3 objectInit ∈ lw_u := hp_mu (tb_1 (List.mem_of_getElem? (i := 65) rfl)) rfl
theorem ac_boolean : Cond.arrayClass .boolean ∈ lw_u := hp_mu (tb_1 (List.mem_of_getElem? (i := 85) rfl)) rfl
theorem it_X2 : Cond.instantiable RX2 3 ∈ lw_u := hp_mu (tb_1 (List.mem_of_getElem? (i := 86) rfl)) rfl
theorem ol_X2 : Cond.methodLink RX2 3 objectInit ∈ lw_u := hp_mu (tb_1 (List.mem_of_getElem? (i := 90) rfl)) rfl
theorem cl_X2_9 : Cond.classLink RX2 9 RX9 ∈ lw_u := hp_mu (tb_1 (List.mem_of_getElem? (i := 91) rfl)) rfl
theorem ao_X9 : Cond.arrayOver (.object "ProvenRecord$Word") ∈ hp_nest := List.mem_filter.mpr ⟨tb_1 (List.mem_of_getElem? (i := 92) rfl), by decide +kernel⟩
theorem it_X9 : Cond.instantiable RX9 2 ∈ lw_u := hp_mu (tb_1 (List.mem_of_getElem? (i := 93) rfl)) rfl
theorem ol_X9 : Cond.methodLink RX9 3 objectInit ∈ lw_u := hp_mu (tb_1 (List.mem_of_getElem? (i := 97) rfl)) rfl
theorem ac_byte : Cond.arrayClass .byte ∈ lw_u := hp_mu (tb_1 (List.mem_of_getElem? (i := 106) rfl)) rfl
theorem it_X1 : Cond.instantiable RX1 5 ∈ lw_u := hp_mu (tb_1 (List.mem_of_getElem? (i := 120) rfl)) rfl
theorem ol_X1 : Cond.methodLink RX1 1 objectInit ∈ lw_u := hp_mu (tb_1 (List.mem_of_getElem? (i := 124) rfl)) rfl
theorem cl_X1_22 : Cond.classLink RX1 22 RX5 ∈ lw_u := hp_mu (tb_1 (List.mem_of_getElem? (i := 125) rfl)) rfl
theorem it_X7 : Cond.instantiable RX7 4 ∈ lw_u := hp_mu (tb_1 (List.mem_of_getElem? (i := 152) rfl)) rfl
theorem ol_X7 : Cond.methodLink RX7 3 objectInit ∈ lw_u := hp_mu (tb_1 (List.mem_of_getElem? (i := 156) rfl)) rfl
theorem cl_X11_23 : Cond.classLink RX11 23 RX5 ∈ lw_u := hp_mu (tb_1 (List.mem_of_getElem? (i := 216) rfl)) rfl
theorem cl_X11_37 : Cond.classLink RX11 37 RX9 ∈ lw_u := hp_mu (tb_1 (List.mem_of_getElem? (i := 218) rfl)) rfl
theorem cl_X11_59 : Cond.classLink RX11 59 RX8 ∈ lw_u := hp_mu (tb_1 (List.mem_of_getElem? (i := 220) rfl)) rfl
theorem cl_X11_72 : Cond.classLink RX11 72 RX0 ∈ lw_u := hp_mu (tb_1 (List.mem_of_getElem? (i := 222) rfl)) rfl
theorem it_X0 : Cond.instantiable RX0 5 ∈ lw_u := hp_mu (tb_1 (List.mem_of_getElem? (i := 223) rfl)) rfl
theorem ol_X0 : Cond.methodLink RX0 3 objectInit ∈ lw_u := hp_mu (tb_1 (List.mem_of_getElem? (i := 227) rfl)) rfl
theorem cl_X0_15 : Cond.classLink RX0 15 RX5 ∈ lw_u := hp_mu (tb_1 (List.mem_of_getElem? (i := 228) rfl)) rfl
theorem cl_X11_79 : Cond.classLink RX11 79 RX3 ∈ lw_u := hp_mu (tb_2 (List.mem_of_getElem? (i := 6) rfl)) rfl
theorem it_X3 : Cond.instantiable RX3 10 ∈ lw_u := hp_mu (tb_2 (List.mem_of_getElem? (i := 7) rfl)) rfl
theorem ol_X3 : Cond.methodLink RX3 3 objectInit ∈ lw_u := hp_mu (tb_2 (List.mem_of_getElem? (i := 11) rfl)) rfl
theorem cl_X3_9 : Cond.classLink RX3 9 RX6 ∈ lw_u := hp_mu (tb_2 (List.mem_of_getElem? (i := 12) rfl)) rfl
theorem it_X6 : Cond.instantiable RX6 7 ∈ lw_u := hp_mu (tb_2 (List.mem_of_getElem? (i := 13) rfl)) rfl
theorem ol_X6 : Cond.methodLink RX6 3 objectInit ∈ lw_u := hp_mu (tb_2 (List.mem_of_getElem? (i := 17) rfl)) rfl
theorem cl_X3_18 : Cond.classLink RX3 18 RX5 ∈ lw_u := hp_mu (tb_2 (List.mem_of_getElem? (i := 44) rfl)) rfl
theorem cl_X3_25 : Cond.classLink RX3 25 RX8 ∈ lw_u := hp_mu (tb_2 (List.mem_of_getElem? (i := 46) rfl)) rfl
theorem cl_X3_46 : Cond.classLink RX3 46 RX9 ∈ lw_u := hp_mu (tb_2 (List.mem_of_getElem? (i := 49) rfl)) rfl
theorem cl_X11_368 : Cond.classLink RX11 368 RX4 ∈ lw_u := hp_mu (tb_5 (List.mem_of_getElem? (i := 141) rfl)) rfl
theorem it_X4 : Cond.instantiable RX4 11 ∈ lw_u := hp_mu (tb_5 (List.mem_of_getElem? (i := 142) rfl)) rfl
theorem ol_X4 : Cond.methodLink RX4 3 objectInit ∈ lw_u := hp_mu (tb_5 (List.mem_of_getElem? (i := 146) rfl)) rfl
theorem cl_X4_23 : Cond.classLink RX4 23 RX8 ∈ lw_u := hp_mu (tb_5 (List.mem_of_getElem? (i := 148) rfl)) rfl
theorem cl_X4_30 : Cond.classLink RX4 30 RX5 ∈ lw_u := hp_mu (tb_5 (List.mem_of_getElem? (i := 150) rfl)) rfl
theorem cl_L_10 : Cond.classLink RL 10 RX12 ∈ lw_u := hp_mu (tb_6 (List.mem_of_getElem? (i := 119) rfl)) rfl
theorem it_X12 : Cond.instantiable RX12 48 ∈ lw_u := hp_mu (tb_6 (List.mem_of_getElem? (i := 120) rfl)) rfl
theorem ol_X12 : Cond.methodLink RX12 1 objectInit ∈ lw_u := hp_mu (tb_6 (List.mem_of_getElem? (i := 124) rfl)) rfl
theorem ac_long : Cond.arrayClass .long ∈ lw_u := hp_mu (tb_7 (List.mem_of_getElem? (i := 47) rfl)) rfl
end JN2_14
section JN2_15
/-! ===== texts: the JDK's own members over the literals ===== -/
theorem st_S {Γ : hp_G} {s : State} {α : hp_T} (hK : hp_KK Γ s) (hR : hp_Rep Γ α s.heap) : vk_S 21 hp_sn hp_sb Γ.2.2.2.2.1 Γ.2.2.2.2.2 (hp_A Γ) s s.heap := hK.2.2.2.1.kept (fun a ha _ => hR.2.1 a ha)
theorem st_Z {Γ : hp_G} {s : State} {α : hp_T} (hK : hp_KK Γ s) (hR : hp_Rep Γ α s.heap) : va_Z "java/lang/String" "COMPACT_STRINGS" "Z" (.int 1) (hp_A Γ) s s.heap := hK.2.2.2.2.1.kept (fun a ha _ => hR.2.1 a ha)
theorem st_Zq {Γ : hp_G} {s : State} {α : hp_T} (hK : hp_KK Γ s) (hR : hp_Rep Γ α s.heap) : va_Zq "jdk/internal/util/Preconditions" "SIOOBE_FORMATTER" "Ljava/util/function/BiFunction;" (hp_A Γ) s s.heap := hK.2.2.2.2.2.kept (fun a ha _ => hR.2.1 a ha)
def hp_len (i : Nat) : Int32 := Int32.ofNat (hp_sn.getD i 0)
def hp_ch (i j : Nat) : Int32 := (((hp_sb.getD i []).getD j 0 &&& 255).toUInt32 % 65536).toInt32
theorem st_sh : ∀ i, i < 21 → hp_len i >>> ((0 : Int32) &&& 31) = hp_len i := by decide +kernel
theorem st_len : ∀ i, i < 21 → (hp_len i).toInt = (hp_sn.getD i 0 : Int) ∧ hp_sn.getD i 0 ≤ 6 := by decide +kernel
theorem st_ch8 : ∀ i, i < 21 → ∀ j, j < 7 → narrow .char (.int (hp_ch i j)) = .int (hp_ch i j) := by decide +kernel
theorem st_ch {i : Nat} (hi : i < 21) {a : Int32} (h0 : 0 ≤ a.toInt) (h1 : a.toInt < (hp_len i).toInt) : narrow .char (.int (hp_ch i a.toNatClampNeg)) = .int (hp_ch i a.toNatClampNeg) := by
  have h2 := (st_len i hi).1
  have h3 := (st_len i hi).2
  have h4 := ic_clamp h0
  exact st_ch8 i hi _ (by omega)
section HPT
variable {p : Program} {l : Launch} {e : Env} {s : State} {m : MethodId} {args : Array Value} {below : List Frame} {meth : Method} {c : Code} {H : Heap} {locs : List Loc} {cells slots : Nat} {Q : State → Prop} {cc bytes : ByteArray} {nL maxL : Nat} {ret : Option FieldType} {own : String} {Γ : hp_G} {α0 α αs : hp_T} {Iv : hp_T → hp_T → Prop} {pc : Nat} {ls : Array Slot} {st rest : List Value} {i index n d d' mc ms mc' ms' : Nat} {y : MethodName} {As : List Value} {R : Room}
/-- a call of a text's own member -/
theorem hp_runT {Qc : Array Value → State → Outcome → State → Prop} (C : hp_C Γ p m c cc nL s args own) (hR0 : hp_Rep Γ αs s.heap) (B : hp_B Γ Iv s α0 α H locs) (hi : i < 21) (hM : Met l y (hp_ws y bytes maxL ret) (hp_rm d' mc ms) (hp_Pc Γ α (.ref (Γ.2.2.2.2.1 i) :: As)) Qc mc ms (hp_A Γ)) (hB : hp_LB y bytes maxL ret n) (v1 : Cond.instanceMethod y ∈ lw_u) (v2 : Cond.selects y.cls y y ∈ lw_u) (hyc : y.cls = "java/lang/String") (hL : hp_LK own index y) (hR : R = hp_rm d mc' ms') (hd : d' < d) (hlen : As.length = n) (hsz : ls.size = nL) (hst : st = As.reverse ++ .ref (Γ.2.2.2.2.1 i) :: rest) (hcat : (rest.map fun v => v.category).sum ≤ 8) (hdg : decode cc pc = .ok (.invokevirtual index, 3)) (hf : cells + mc ≤ mc' ∧ slots + ms ≤ ms') :
    va_Run p l e R s m args below meth c H locs cells slots mc ms (F0 m pc ls st) rest (Qc (Value.ref (Γ.2.2.2.2.1 i) :: As).toArray) (hp_A Γ) := by
  obtain ⟨h1, h2, h3, h4⟩ := hB
  have hts := C.1.2.2.2.2
  have hrecv : ∃ cellB : Cell, H[Γ.2.2.2.2.1 i]? = some cellB ∧ cellB.vm.isStatics = false ∧ s.vm.findClass y.cls = some cellB.cls := by
    rw [hyc]
    exact vk_recv (st_S C.2 hR0) hi B.2.1
  have hp : PreV s H y.cls (Γ.2.2.2.2.1 i) (hp_Pc Γ α (.ref (Γ.2.2.2.2.1 i) :: As)) As := ⟨hp_blind Γ α _, hrecv, fun U hU hW => ⟨rfl, by rw [hU]; exact B.1, C.2.warm hW⟩⟩
  have hRR : (hp_rm d' mc ms).frames + 1 ≤ R.frames ∧ 8 + (maxL + 11) + (hp_rm d' mc ms).locals ≤ R.locals := by
    rw [hR]; show d' + 1 ≤ d ∧ 8 + (maxL + 11) + 45 * d' ≤ 45 * d; omega
  have hff : cells + mc ≤ R.cells ∧ slots + ms ≤ R.slots := by rw [hR]; exact hf
  rcases hL with hL | ⟨host, hL⟩
  · exact va_runV (As := As) (rest := rest) (n := n) (C := y.cls) C.1 hM ⟨callB_of n hts (hp_gs h1) rfl rfl rfl (hts _ h2) (hts _ hL) h4 hRR, hts _ v1, hts _ v2⟩ hp rfl hlen hsz hst (lv_room (m := m) (pc := pc) (ls := ls) (rest := st) hcat) hdg hff
  · exact va_runVN (As := As) (rest := rest) (n := n) (C := y.cls) C.1 hM ⟨va_cnB n hts (hp_gs h1) rfl rfl rfl (C.2.2.1 _ hL) (hts _ h2) h4 hRR, hts _ v1, hts _ v2⟩ hp rfl hlen hsz hst (lv_room (m := m) (pc := pc) (ls := ls) (rest := st) hcat) hdg hff
theorem st_ldcw (hexec : p.tables.exec = Jvm.exec) (hb : c.code = cc) {tx : String} {q : Nat} (hown : s.vm.findClass own = some m.cls) (hZ : vk_R own index tx q s) (hdg : decode cc pc = .ok (.ldc_w index, 3))
    (k : W p l e R s m args below meth c H locs cells slots Q (F0 m (pc + 3) ls (.ref q :: rest))) : W p l e R s m args below meth c H locs cells slots Q (F0 m pc ls rest) := by
  intro T hT X
  obtain ⟨t, a1, b1⟩ := k T hT X
  refine ⟨t, ?_, b1⟩
  obtain ⟨k0, cf, i0, a', hk, hcf, hcp, -, hr, hev'⟩ := Cond.stringRef_spec hown hZ.1
  cases hZ.2.symm.trans hev'
  obtain ⟨k', hk', he⟩ := X.warmed.alike.2.2 _ _ hk
  have hr' : k'.resolved[index]? = some (some (.string q)) := by
    rcases X.warmed.entry hk hk' index with h | ⟨h, -⟩
    · rw [h]; exact hr
    · rw [hr] at h; cases h
  have hdg2 : decode c.code pc = .ok (.ldc_w index, 3) := by rw [hb]; exact hdg
  jvm_step X.here [hexec, hdg2, ldc_w.wp_string (e := e) (s := T) (f := F0 m pc ls rest) X.here.top hk' (by rw [he]; exact hcf) hcp hr']
  exact a1
end HPT
set_option maxRecDepth 100000 in
set_option maxHeartbeats 4000000 in
theorem t_J0_coder_7d493 (Γ : hp_G) (l : Launch) (α : hp_T) (i : Nat) (hi : i < 21) : Met l yJ0_coder_7d493 (hp_ws yJ0_coder_7d493 cJ0_coder_7d493 1 (some .byte)) (hp_rm 0 0 0) (hp_Pc Γ α [.ref (Γ.2.2.2.2.1 i)]) (hp_Qi Γ (fun r β => β = α ∧ r = 0)) 0 0 (hp_A Γ) := by
  refine hp_startF (by decide +kernel) ?_
  intro p e s m below meth c C hr hlk B hnm
  have C : hp_C Γ p m c cJ0_coder_7d493 1 s ([.ref (Γ.2.2.2.2.1 i)] : List Value).toArray RJ0 := C
  have hx := C.1.1
  have hb := C.1.2.1
  have hown := C.1.2.2.2.1
  have hts := C.1.2.2.2.2
  have hl := lv_entry ([.ref (Γ.2.2.2.2.1 i)]) (n := 1) (Nat.le_of_ble_eq_true rfl)
  rw [lg_entry_eq]
  generalize (lg_sl ([.ref (Γ.2.2.2.2.1 i)]) ++ List.replicate (1 - (lg_sl ([.ref (Γ.2.2.2.2.1 i)])).length) Slot.unset).toArray = ls at hl ⊢
  have hl : lv_has ls 1 [(0, .ref (Γ.2.2.2.2.1 i))] := hl
  refine va_gets hx hb (st_Z C.2 B.1) B.2.1 hown (hts _ fo_J0_38) (fun _ h => h) dJ0_coder_7d493_0 (hp_n (n := 3) rfl ?_)
  refine lv_if_eq (tgt := 13) hx hb dJ0_coder_7d493_3 (by decide) (fun q => absurd q (by decide)) (fun q => hp_n (n := 6) rfl ?_)
  refine lv_aload_n hx hb dJ0_coder_7d493_6 rfl (lv_at hl 0 rfl) (hp_n (n := 7) rfl ?_)
  refine vk_getf hx hb (((st_S C.2 B.1).1 i hi).2.1) B.2.1 hown (hts _ fo_J0_15) (fun _ h => h) dJ0_coder_7d493_7 (hp_n (n := 10) rfl ?_)
  refine lv_goto (tgt := 14) hx hb dJ0_coder_7d493_10 (by decide) ?_
  exact q_zret C B hr hlk rfl ⟨rfl, rfl⟩ dJ0_coder_7d493_14
set_option maxRecDepth 100000 in
set_option maxHeartbeats 4000000 in
theorem t_J0_isLatin1_aae02 (Γ : hp_G) (l : Launch) (α : hp_T) (i : Nat) (hi : i < 21) : Met l yJ0_isLatin1_aae02 (hp_ws yJ0_isLatin1_aae02 cJ0_isLatin1_aae02 1 (some .boolean)) (hp_rm 0 0 0) (hp_Pc Γ α [.ref (Γ.2.2.2.2.1 i)]) (hp_Qi Γ (fun r β => β = α ∧ r = 1)) 0 0 (hp_A Γ) := by
  refine hp_startF (by decide +kernel) ?_
  intro p e s m below meth c C hr hlk B hnm
  have C : hp_C Γ p m c cJ0_isLatin1_aae02 1 s ([.ref (Γ.2.2.2.2.1 i)] : List Value).toArray RJ0 := C
  have hx := C.1.1
  have hb := C.1.2.1
  have hown := C.1.2.2.2.1
  have hts := C.1.2.2.2.2
  have hl := lv_entry ([.ref (Γ.2.2.2.2.1 i)]) (n := 1) (Nat.le_of_ble_eq_true rfl)
  rw [lg_entry_eq]
  generalize (lg_sl ([.ref (Γ.2.2.2.2.1 i)]) ++ List.replicate (1 - (lg_sl ([.ref (Γ.2.2.2.2.1 i)])).length) Slot.unset).toArray = ls at hl ⊢
  have hl : lv_has ls 1 [(0, .ref (Γ.2.2.2.2.1 i))] := hl
  refine va_gets hx hb (st_Z C.2 B.1) B.2.1 hown (hts _ fo_J0_38) (fun _ h => h) dJ0_isLatin1_aae02_0 (hp_n (n := 3) rfl ?_)
  refine lv_if_eq (tgt := 17) hx hb dJ0_isLatin1_aae02_3 (by decide) (fun q => absurd q (by decide)) (fun q => hp_n (n := 6) rfl ?_)
  refine lv_aload_n hx hb dJ0_isLatin1_aae02_6 rfl (lv_at hl 0 rfl) (hp_n (n := 7) rfl ?_)
  refine vk_getf hx hb (((st_S C.2 B.1).1 i hi).2.1) B.2.1 hown (hts _ fo_J0_15) (fun _ h => h) dJ0_isLatin1_aae02_7 (hp_n (n := 10) rfl ?_)
  refine lv_if_ne (tgt := 17) hx hb dJ0_isLatin1_aae02_10 (by decide) (fun q => absurd rfl q) (fun q => hp_n (n := 13) rfl ?_)
  refine lv_iconst (v := 1) hx hb dJ0_isLatin1_aae02_13 (by decide) (hp_n (n := 14) rfl ?_)
  refine lv_goto (tgt := 18) hx hb dJ0_isLatin1_aae02_14 (by decide) ?_
  exact q_zret C B hr hlk rfl ⟨rfl, rfl⟩ dJ0_isLatin1_aae02_18
set_option maxRecDepth 100000 in
set_option maxHeartbeats 4000000 in
theorem t_J0_length_8abf5 (Γ : hp_G) (l : Launch) (α : hp_T) (i : Nat) (hi : i < 21) : Met l yJ0_length_8abf5 (hp_ws yJ0_length_8abf5 cJ0_length_8abf5 1 (some .int)) (hp_rm 1 0 0) (hp_Pc Γ α [.ref (Γ.2.2.2.2.1 i)]) (hp_Qi Γ (fun r β => β = α ∧ r = hp_len i)) 0 0 (hp_A Γ) := by
  refine hp_startF (by decide +kernel) ?_
  intro p e s m below meth c C hr hlk B hnm
  have C : hp_C Γ p m c cJ0_length_8abf5 1 s ([.ref (Γ.2.2.2.2.1 i)] : List Value).toArray RJ0 := C
  have hx := C.1.1
  have hb := C.1.2.1
  have hown := C.1.2.2.2.1
  have hts := C.1.2.2.2.2
  have hl := lv_entry ([.ref (Γ.2.2.2.2.1 i)]) (n := 1) (Nat.le_of_ble_eq_true rfl)
  rw [lg_entry_eq]
  generalize (lg_sl ([.ref (Γ.2.2.2.2.1 i)]) ++ List.replicate (1 - (lg_sl ([.ref (Γ.2.2.2.2.1 i)])).length) Slot.unset).toArray = ls at hl ⊢
  have hl : lv_has ls 1 [(0, .ref (Γ.2.2.2.2.1 i))] := hl
  have B0 := B
  refine lv_aload_n hx hb dJ0_length_8abf5_0 rfl (lv_at hl 0 rfl) (hp_n (n := 1) rfl ?_)
  refine vk_getf hx hb (((st_S C.2 B.1).1 i hi).2.2.1) B.2.1 hown (hts _ fo_J0_9) (fun _ h => h) dJ0_length_8abf5_1 (hp_n (n := 4) rfl ?_)
  refine va_tlen hx hb (((st_S C.2 B.1).1 i hi).2.2.2) B.2.1 (v := hp_len i) rfl dJ0_length_8abf5_4 (hp_n (n := 5) rfl ?_)
  refine lv_aload_n hx hb dJ0_length_8abf5_5 rfl (lv_at hl 0 rfl) (hp_n (n := 6) rfl ?_)
  refine q_ci (pc' := 9) B (hp_runT (i := i) (As := []) (rest := [.int (hp_len i)]) C B0.1 B hi (t_J0_coder_7d493 Γ l α i hi ) lb_J0_coder_7d493 li_J0_coder_7d493 sx_J0_coder_7d493 rfl lk_J0_335 rfl (by decide) rfl hl.1 rfl (Nat.le_of_ble_eq_true rfl) dJ0_length_8abf5_6 ⟨Nat.le_refl _, Nat.le_refl _⟩) (fun _ _ _ => trivial) rfl (fun r1 α1 H1 L1 p1 B1 => ?_)
  obtain ⟨rfl, rfl⟩ := p1
  refine lv_ishr hx hb dJ0_length_8abf5_9 (hp_n (n := 10) rfl ?_)
  rw [st_sh i hi]
  exact q_iret C B1 hr hlk ⟨rfl, rfl⟩ dJ0_length_8abf5_10
set_option maxRecDepth 100000 in
set_option maxHeartbeats 4000000 in
theorem t_J3_checkIndex_8e157 (Γ : hp_G) (l : Launch) (α : hp_T) (a0 a1 : Int32) (o : Option Nat) (h0 : 0 ≤ a0.toInt) (h1 : a0.toInt < a1.toInt) : Met l yJ3_checkIndex_8e157 (hp_ws yJ3_checkIndex_8e157 cJ3_checkIndex_8e157 3 (some .int)) (hp_rm 0 0 0) (hp_Pc Γ α [.int a0, .int a1, va_rf o]) (hp_Qi Γ (fun r β => β = α)) 0 0 (hp_A Γ) := by
  rcases o with _ | o
  ·
    refine hp_startF (by decide +kernel) ?_
    intro p e s m below meth c C hr hlk B hnm
    have C : hp_C Γ p m c cJ3_checkIndex_8e157 3 s ([.int a0, .int a1, .null] : List Value).toArray RJ3 := C
    have hx := C.1.1
    have hb := C.1.2.1
    have hown := C.1.2.2.2.1
    have hts := C.1.2.2.2.2
    have hl := lv_entry ([.int a0, .int a1, .null]) (n := 3) (Nat.le_of_ble_eq_true rfl)
    show W p l e (hp_rm 0 0 0) s m ([.int a0, .int a1, .null] : List Value).toArray below meth c s.heap [] 0 0 (MQ below (hp_Qi Γ (fun r β => β = α)) ([.int a0, .int a1, .null] : List Value).toArray s 0 0 (hp_A Γ)) (entryFrame m ([.int a0, .int a1, .null] : List Value).toArray 3)
    rw [lg_entry_eq]
    generalize (lg_sl ([.int a0, .int a1, .null]) ++ List.replicate (3 - (lg_sl ([.int a0, .int a1, .null])).length) Slot.unset).toArray = ls at hl ⊢
    have hl : lv_has ls 3 [(0, .int a0), (1, .int a1), (2, .null)] := hl
    refine lv_iload_n hx hb dJ3_checkIndex_8e157_0 rfl (lv_at hl 0 rfl) (hp_n (n := 1) rfl ?_)
    refine lv_if_lt (tgt := 9) hx hb dJ3_checkIndex_8e157_1 (by decide) (fun q => ?_) (fun q => hp_n (n := 4) rfl ?_)
    · have q := il_lt q
      have z : (0 : Int32).toInt = 0 := rfl
      omega
    refine lv_iload_n hx hb dJ3_checkIndex_8e157_4 rfl (lv_at hl 0 rfl) (hp_n (n := 5) rfl ?_)
    refine lv_iload_n hx hb dJ3_checkIndex_8e157_5 rfl (lv_at hl 1 rfl) (hp_n (n := 6) rfl ?_)
    refine lv_icmp_lt (tgt := 16) hx hb dJ3_checkIndex_8e157_6 (by decide) (fun q => ?_) (fun q => ?_)
    · refine lv_iload_n hx hb dJ3_checkIndex_8e157_16 rfl (lv_at hl 0 rfl) (hp_n (n := 17) rfl ?_)
      exact q_iret C B hr hlk rfl dJ3_checkIndex_8e157_17
    · have q := il_nlt q
      omega
  ·
    refine hp_startF (by decide +kernel) ?_
    intro p e s m below meth c C hr hlk B hnm
    have C : hp_C Γ p m c cJ3_checkIndex_8e157 3 s ([.int a0, .int a1, .ref o] : List Value).toArray RJ3 := C
    have hx := C.1.1
    have hb := C.1.2.1
    have hown := C.1.2.2.2.1
    have hts := C.1.2.2.2.2
    have hl := lv_entry ([.int a0, .int a1, .ref o]) (n := 3) (Nat.le_of_ble_eq_true rfl)
    show W p l e (hp_rm 0 0 0) s m ([.int a0, .int a1, .ref o] : List Value).toArray below meth c s.heap [] 0 0 (MQ below (hp_Qi Γ (fun r β => β = α)) ([.int a0, .int a1, .ref o] : List Value).toArray s 0 0 (hp_A Γ)) (entryFrame m ([.int a0, .int a1, .ref o] : List Value).toArray 3)
    rw [lg_entry_eq]
    generalize (lg_sl ([.int a0, .int a1, .ref o]) ++ List.replicate (3 - (lg_sl ([.int a0, .int a1, .ref o])).length) Slot.unset).toArray = ls at hl ⊢
    have hl : lv_has ls 3 [(0, .int a0), (1, .int a1), (2, .ref o)] := hl
    refine lv_iload_n hx hb dJ3_checkIndex_8e157_0 rfl (lv_at hl 0 rfl) (hp_n (n := 1) rfl ?_)
    refine lv_if_lt (tgt := 9) hx hb dJ3_checkIndex_8e157_1 (by decide) (fun q => ?_) (fun q => hp_n (n := 4) rfl ?_)
    · have q := il_lt q
      have z : (0 : Int32).toInt = 0 := rfl
      omega
    refine lv_iload_n hx hb dJ3_checkIndex_8e157_4 rfl (lv_at hl 0 rfl) (hp_n (n := 5) rfl ?_)
    refine lv_iload_n hx hb dJ3_checkIndex_8e157_5 rfl (lv_at hl 1 rfl) (hp_n (n := 6) rfl ?_)
    refine lv_icmp_lt (tgt := 16) hx hb dJ3_checkIndex_8e157_6 (by decide) (fun q => ?_) (fun q => ?_)
    · refine lv_iload_n hx hb dJ3_checkIndex_8e157_16 rfl (lv_at hl 0 rfl) (hp_n (n := 17) rfl ?_)
      exact q_iret C B hr hlk rfl dJ3_checkIndex_8e157_17
    · have q := il_nlt q
      omega
set_option maxRecDepth 100000 in
set_option maxHeartbeats 4000000 in
theorem t_J0_checkIndex_df160 (Γ : hp_G) (l : Launch) (α : hp_T) (a0 a1 : Int32) (h0 : 0 ≤ a0.toInt) (h1 : a0.toInt < a1.toInt) : Met l yJ0_checkIndex_df160 (hp_ws yJ0_checkIndex_df160 cJ0_checkIndex_df160 2 none) (hp_rm 1 0 0) (hp_Pc Γ α [.int a0, .int a1]) (hp_Qv Γ (fun β => β = α)) 0 0 (hp_A Γ) := by
  refine hp_startF (by decide +kernel) ?_
  intro p e s m below meth c C hr hlk B hnm
  have C : hp_C Γ p m c cJ0_checkIndex_df160 2 s ([.int a0, .int a1] : List Value).toArray RJ0 := C
  have hx := C.1.1
  have hb := C.1.2.1
  have hown := C.1.2.2.2.1
  have hts := C.1.2.2.2.2
  have hl := lv_entry ([.int a0, .int a1]) (n := 2) (Nat.le_of_ble_eq_true rfl)
  rw [lg_entry_eq]
  generalize (lg_sl ([.int a0, .int a1]) ++ List.replicate (2 - (lg_sl ([.int a0, .int a1])).length) Slot.unset).toArray = ls at hl ⊢
  have hl : lv_has ls 2 [(0, .int a0), (1, .int a1)] := hl
  refine lv_iload_n hx hb dJ0_checkIndex_df160_0 rfl (lv_at hl 0 rfl) (hp_n (n := 1) rfl ?_)
  refine lv_iload_n hx hb dJ0_checkIndex_df160_1 rfl (lv_at hl 1 rfl) (hp_n (n := 2) rfl ?_)
  rcases st_Zq C.2 B.1 with hz | ⟨t0, hz⟩
  · refine va_gets (v := .null) hx hb hz B.2.1 hown (hts _ fo_J0_1053) (fun _ h => h) dJ0_checkIndex_df160_2 (hp_n (n := 5) rfl ?_)
    refine q_ci (pc' := 8) B (hp_runS (As := [.int a0, .int a1, va_rf none]) (rest := []) C B (t_J3_checkIndex_8e157 Γ l α a0 a1 none h0 h1) lb_J3_checkIndex_8e157 ls_J3_checkIndex_8e157 lk_J0_1059 rfl (by decide) rfl hl.1 rfl (Nat.le_of_ble_eq_true rfl) dJ0_checkIndex_df160_5 ⟨Nat.le_refl _, Nat.le_refl _⟩) (fun _ _ _ => trivial) rfl (fun r1 α1 H1 L1 p1 B1 => ?_)
    obtain rfl := p1
    refine lv_pop hx hb dJ0_checkIndex_df160_8 rfl (hp_n (n := 9) rfl ?_)
    exact q_vret C B1 hr hlk rfl dJ0_checkIndex_df160_9
  · refine va_gets (v := .ref t0) hx hb hz B.2.1 hown (hts _ fo_J0_1053) (fun _ h => h) dJ0_checkIndex_df160_2 (hp_n (n := 5) rfl ?_)
    refine q_ci (pc' := 8) B (hp_runS (As := [.int a0, .int a1, va_rf (some t0)]) (rest := []) C B (t_J3_checkIndex_8e157 Γ l α a0 a1 (some t0) h0 h1) lb_J3_checkIndex_8e157 ls_J3_checkIndex_8e157 lk_J0_1059 rfl (by decide) rfl hl.1 rfl (Nat.le_of_ble_eq_true rfl) dJ0_checkIndex_df160_5 ⟨Nat.le_refl _, Nat.le_refl _⟩) (fun _ _ _ => trivial) rfl (fun r1 α1 H1 L1 p1 B1 => ?_)
    obtain rfl := p1
    refine lv_pop hx hb dJ0_checkIndex_df160_8 rfl (hp_n (n := 9) rfl ?_)
    exact q_vret C B1 hr hlk rfl dJ0_checkIndex_df160_9
set_option maxRecDepth 100000 in
set_option maxHeartbeats 4000000 in
theorem t_J1_charAt_3b067 (Γ : hp_G) (l : Launch) (α : hp_T) (i : Nat) (hi : i < 21) (a1 : Int32) (h0 : 0 ≤ a1.toInt) (h1 : a1.toInt < (hp_len i).toInt) : Met l yJ1_charAt_3b067 (hp_ws yJ1_charAt_3b067 cJ1_charAt_3b067 2 (some .char)) (hp_rm 2 0 0) (hp_Pc Γ α [.ref (Γ.2.2.2.2.2 i), .int a1]) (hp_Qi Γ (fun r β => β = α ∧ r = hp_ch i a1.toNatClampNeg)) 0 0 (hp_A Γ) := by
  refine hp_startF (by decide +kernel) ?_
  intro p e s m below meth c C hr hlk B hnm
  have C : hp_C Γ p m c cJ1_charAt_3b067 2 s ([.ref (Γ.2.2.2.2.2 i), .int a1] : List Value).toArray RJ1 := C
  have hx := C.1.1
  have hb := C.1.2.1
  have hown := C.1.2.2.2.1
  have hts := C.1.2.2.2.2
  have hl := lv_entry ([.ref (Γ.2.2.2.2.2 i), .int a1]) (n := 2) (Nat.le_of_ble_eq_true rfl)
  rw [lg_entry_eq]
  generalize (lg_sl ([.ref (Γ.2.2.2.2.2 i), .int a1]) ++ List.replicate (2 - (lg_sl ([.ref (Γ.2.2.2.2.2 i), .int a1])).length) Slot.unset).toArray = ls at hl ⊢
  have hl : lv_has ls 2 [(0, .ref (Γ.2.2.2.2.2 i)), (1, .int a1)] := hl
  have B0 := B
  have hlen := (st_len i hi).1
  refine lv_iload_n hx hb dJ1_charAt_3b067_0 rfl (lv_at hl 1 rfl) (hp_n (n := 1) rfl ?_)
  refine lv_aload_n hx hb dJ1_charAt_3b067_1 rfl (lv_at hl 0 rfl) (hp_n (n := 2) rfl ?_)
  refine va_tlen hx hb (((st_S C.2 B.1).1 i hi).2.2.2) B.2.1 (v := hp_len i) rfl dJ1_charAt_3b067_2 (hp_n (n := 3) rfl ?_)
  refine q_cv (pc' := 6) B (hp_runS (As := [.int a1, .int (hp_len i)]) (rest := []) C B (t_J0_checkIndex_df160 Γ l α a1 (hp_len i) h0 h1) lb_J0_checkIndex_df160 ls_J0_checkIndex_df160 lk_J1_9 rfl (by decide) rfl hl.1 rfl (Nat.le_of_ble_eq_true rfl) dJ1_charAt_3b067_3 ⟨Nat.le_refl _, Nat.le_refl _⟩) (fun _ _ => trivial) rfl (fun α1 H1 L1 p1 B1 => ?_)
  obtain rfl := p1
  refine lv_aload_n hx hb dJ1_charAt_3b067_6 rfl (lv_at hl 0 rfl) (hp_n (n := 7) rfl ?_)
  refine lv_iload_n hx hb dJ1_charAt_3b067_7 rfl (lv_at hl 1 rfl) (hp_n (n := 8) rfl ?_)
  refine va_tb hx hb (((st_S C.2 B0.1).1 i hi).2.2.2) B1.2.1 (vi_of h0 (by omega)) rfl dJ1_charAt_3b067_8 (hp_n (n := 9) rfl ?_)
  refine lv_sipush (v := 255) hx hb dJ1_charAt_3b067_9 (by decide) (hp_n (n := 12) rfl ?_)
  refine lv_iand hx hb dJ1_charAt_3b067_12 (hp_n (n := 13) rfl ?_)
  refine lv_i2c (v := hp_ch i a1.toNatClampNeg) hx hb dJ1_charAt_3b067_13 rfl (hp_n (n := 14) rfl ?_)
  exact q_zret C B1 hr hlk (st_ch hi h0 h1) ⟨rfl, rfl⟩ dJ1_charAt_3b067_14
set_option maxRecDepth 100000 in
set_option maxHeartbeats 4000000 in
theorem t_J0_charAt_5068e (Γ : hp_G) (l : Launch) (α : hp_T) (i : Nat) (hi : i < 21) (a1 : Int32) (h0 : 0 ≤ a1.toInt) (h1 : a1.toInt < (hp_len i).toInt) : Met l yJ0_charAt_5068e (hp_ws yJ0_charAt_5068e cJ0_charAt_5068e 2 (some .char)) (hp_rm 3 0 0) (hp_Pc Γ α [.ref (Γ.2.2.2.2.1 i), .int a1]) (hp_Qi Γ (fun r β => β = α ∧ r = hp_ch i a1.toNatClampNeg)) 0 0 (hp_A Γ) := by
  refine hp_startF (by decide +kernel) ?_
  intro p e s m below meth c C hr hlk B hnm
  have C : hp_C Γ p m c cJ0_charAt_5068e 2 s ([.ref (Γ.2.2.2.2.1 i), .int a1] : List Value).toArray RJ0 := C
  have hx := C.1.1
  have hb := C.1.2.1
  have hown := C.1.2.2.2.1
  have hts := C.1.2.2.2.2
  have hl := lv_entry ([.ref (Γ.2.2.2.2.1 i), .int a1]) (n := 2) (Nat.le_of_ble_eq_true rfl)
  rw [lg_entry_eq]
  generalize (lg_sl ([.ref (Γ.2.2.2.2.1 i), .int a1]) ++ List.replicate (2 - (lg_sl ([.ref (Γ.2.2.2.2.1 i), .int a1])).length) Slot.unset).toArray = ls at hl ⊢
  have hl : lv_has ls 2 [(0, .ref (Γ.2.2.2.2.1 i)), (1, .int a1)] := hl
  have B0 := B
  refine lv_aload_n hx hb dJ0_charAt_5068e_0 rfl (lv_at hl 0 rfl) (hp_n (n := 1) rfl ?_)
  refine q_ci (pc' := 4) B (hp_runT (i := i) (As := []) (rest := []) C B0.1 B hi (t_J0_isLatin1_aae02 Γ l α i hi ) lb_J0_isLatin1_aae02 li_J0_isLatin1_aae02 sx_J0_isLatin1_aae02 rfl lk_J0_492 rfl (by decide) rfl hl.1 rfl (Nat.le_of_ble_eq_true rfl) dJ0_charAt_5068e_1 ⟨Nat.le_refl _, Nat.le_refl _⟩) (fun _ _ _ => trivial) rfl (fun r1 α1 H1 L1 p1 B1 => ?_)
  obtain ⟨rfl, rfl⟩ := p1
  refine lv_if_eq (tgt := 16) hx hb dJ0_charAt_5068e_4 (by decide) (fun q => absurd q (by decide)) (fun q => hp_n (n := 7) rfl ?_)
  refine lv_aload_n hx hb dJ0_charAt_5068e_7 rfl (lv_at hl 0 rfl) (hp_n (n := 8) rfl ?_)
  refine vk_getf hx hb (((st_S C.2 B0.1).1 i hi).2.2.1) B1.2.1 hown (hts _ fo_J0_9) (fun _ h => h) dJ0_charAt_5068e_8 (hp_n (n := 11) rfl ?_)
  refine lv_iload_n hx hb dJ0_charAt_5068e_11 rfl (lv_at hl 1 rfl) (hp_n (n := 12) rfl ?_)
  refine q_ci (pc' := 15) B1 (hp_runS (As := [.ref (Γ.2.2.2.2.2 i), .int a1]) (rest := []) C B1 (t_J1_charAt_3b067 Γ l _ i hi a1 h0 h1) lb_J1_charAt_3b067 ls_J1_charAt_3b067 lk_J0_495 rfl (by decide) rfl hl.1 rfl (Nat.le_of_ble_eq_true rfl) dJ0_charAt_5068e_12 ⟨Nat.le_refl _, Nat.le_refl _⟩) (fun _ _ _ => trivial) rfl (fun r2 α2 H2 L2 p2 B2 => ?_)
  obtain ⟨rfl, rfl⟩ := p2
  exact q_zret C B2 hr hlk (st_ch hi h0 h1) ⟨rfl, rfl⟩ dJ0_charAt_5068e_15
theorem sr_X11_409 {Γ : hp_G} {s : State} (h : hp_KK Γ s) : vk_R RX11 409 "in " (Γ.2.2.2.2.1 15) s := h.2.2.1 (RX11, 409, "in ", 15) (by decide +kernel)
theorem sr_X11_418 {Γ : hp_G} {s : State} (h : hp_KK Γ s) : vk_R RX11 418 " of " (Γ.2.2.2.2.1 4) s := h.2.2.1 (RX11, 418, " of ", 4) (by decide +kernel)
theorem sr_X11_420 {Γ : hp_G} {s : State} (h : hp_KK Γ s) : vk_R RX11 420 " mark " (Γ.2.2.2.2.1 3) s := h.2.2.1 (RX11, 420, " mark ", 3) (by decide +kernel)
theorem sr_X11_422 {Γ : hp_G} {s : State} (h : hp_KK Γ s) : vk_R RX11 422 " head " (Γ.2.2.2.2.1 2) s := h.2.2.1 (RX11, 422, " head ", 2) (by decide +kernel)
theorem sr_X11_427 {Γ : hp_G} {s : State} (h : hp_KK Γ s) : vk_R RX11 427 "grow " (Γ.2.2.2.2.1 12) s := h.2.2.1 (RX11, 427, "grow ", 12) (by decide +kernel)
theorem sr_X11_429 {Γ : hp_G} {s : State} (h : hp_KK Γ s) : vk_R RX11 429 " to " (Γ.2.2.2.2.1 5) s := h.2.2.1 (RX11, 429, " to ", 5) (by decide +kernel)
theorem sr_X11_496 {Γ : hp_G} {s : State} (h : hp_KK Γ s) : vk_R RX11 496 " by" (Γ.2.2.2.2.1 1) s := h.2.2.1 (RX11, 496, " by", 1) (by decide +kernel)
theorem sr_X11_498 {Γ : hp_G} {s : State} (h : hp_KK Γ s) : vk_R RX11 498 " " (Γ.2.2.2.2.1 0) s := h.2.2.1 (RX11, 498, " ", 0) (by decide +kernel)
theorem sr_X11_500 {Γ : hp_G} {s : State} (h : hp_KK Γ s) : vk_R RX11 500 ";" (Γ.2.2.2.2.1 6) s := h.2.2.1 (RX11, 500, ";", 6) (by decide +kernel)
theorem sr_X3_107 {Γ : hp_G} {s : State} (h : hp_KK Γ s) : vk_R RX3 107 "freeze" (Γ.2.2.2.2.1 10) s := h.2.2.1 (RX3, 107, "freeze", 10) (by decide +kernel)
theorem sr_X3_112 {Γ : hp_G} {s : State} (h : hp_KK Γ s) : vk_R RX3 112 "show" (Γ.2.2.2.2.1 19) s := h.2.2.1 (RX3, 112, "show", 19) (by decide +kernel)
theorem sr_X3_127 {Γ : hp_G} {s : State} (h : hp_KK Γ s) : vk_R RX3 127 "in" (Γ.2.2.2.2.1 14) s := h.2.2.1 (RX3, 127, "in", 14) (by decide +kernel)
theorem sr_X3_129 {Γ : hp_G} {s : State} (h : hp_KK Γ s) : vk_R RX3 129 "grow" (Γ.2.2.2.2.1 11) s := h.2.2.1 (RX3, 129, "grow", 11) (by decide +kernel)
theorem sr_X3_156 {Γ : hp_G} {s : State} (h : hp_KK Γ s) : vk_R RX3 156 "of" (Γ.2.2.2.2.1 18) s := h.2.2.1 (RX3, 156, "of", 18) (by decide +kernel)
theorem sr_X3_161 {Γ : hp_G} {s : State} (h : hp_KK Γ s) : vk_R RX3 161 "mark" (Γ.2.2.2.2.1 16) s := h.2.2.1 (RX3, 161, "mark", 16) (by decide +kernel)
theorem sr_X3_166 {Γ : hp_G} {s : State} (h : hp_KK Γ s) : vk_R RX3 166 "head" (Γ.2.2.2.2.1 13) s := h.2.2.1 (RX3, 166, "head", 13) (by decide +kernel)
theorem sr_X3_186 {Γ : hp_G} {s : State} (h : hp_KK Γ s) : vk_R RX3 186 "by" (Γ.2.2.2.2.1 8) s := h.2.2.1 (RX3, 186, "by", 8) (by decide +kernel)
theorem sr_X3_69 {Γ : hp_G} {s : State} (h : hp_KK Γ s) : vk_R RX3 69 "mod" (Γ.2.2.2.2.1 17) s := h.2.2.1 (RX3, 69, "mod", 17) (by decide +kernel)
theorem sr_X3_86 {Γ : hp_G} {s : State} (h : hp_KK Γ s) : vk_R RX3 86 "add" (Γ.2.2.2.2.1 7) s := h.2.2.1 (RX3, 86, "add", 7) (by decide +kernel)
theorem sr_X3_92 {Γ : hp_G} {s : State} (h : hp_KK Γ s) : vk_R RX3 92 "to" (Γ.2.2.2.2.1 20) s := h.2.2.1 (RX3, 92, "to", 20) (by decide +kernel)
theorem sr_X3_97 {Γ : hp_G} {s : State} (h : hp_KK Γ s) : vk_R RX3 97 "fork" (Γ.2.2.2.2.1 9) s := h.2.2.1 (RX3, 97, "fork", 9) (by decide +kernel)
theorem sr_X12_447 {Γ : hp_G} {s : State} (h : hp_KK Γ s) : vk_R RX12 447 "in" (Γ.2.2.2.2.1 14) s := h.2.2.1 (RX12, 447, "in", 14) (by decide +kernel)
theorem sr_X12_453 {Γ : hp_G} {s : State} (h : hp_KK Γ s) : vk_R RX12 453 "of" (Γ.2.2.2.2.1 18) s := h.2.2.1 (RX12, 453, "of", 18) (by decide +kernel)
theorem sr_X12_455 {Γ : hp_G} {s : State} (h : hp_KK Γ s) : vk_R RX12 455 "mark" (Γ.2.2.2.2.1 16) s := h.2.2.1 (RX12, 455, "mark", 16) (by decide +kernel)
theorem sr_X12_457 {Γ : hp_G} {s : State} (h : hp_KK Γ s) : vk_R RX12 457 "head" (Γ.2.2.2.2.1 13) s := h.2.2.1 (RX12, 457, "head", 13) (by decide +kernel)
theorem sr_X12_462 {Γ : hp_G} {s : State} (h : hp_KK Γ s) : vk_R RX12 462 "grow" (Γ.2.2.2.2.1 11) s := h.2.2.1 (RX12, 462, "grow", 11) (by decide +kernel)
theorem sr_X12_464 {Γ : hp_G} {s : State} (h : hp_KK Γ s) : vk_R RX12 464 "to" (Γ.2.2.2.2.1 20) s := h.2.2.1 (RX12, 464, "to", 20) (by decide +kernel)
end JN2_15
section JN2_16
abbrev w_X6_byteAt : cw_W := ([], [], [], [])
abbrev w_X6_isBlank : cw_W := ([], [], [], [])
abbrev w_X6_kindOf : cw_W := ([], [], [], [])
abbrev w_X6_begin : cw_W := ([351, 352], [350], [], [])
abbrev w_X6_advance : cw_W := ([352, 353, 354, 355, 356], [], [], [])
abbrev w_X6_spells : cw_W := ([], [], [], [])
abbrev w_X6_copyWord : cw_W := ([501], [], [27], [])
end JN2_16
section JN2_17
abbrev w_X3_fail : cw_W := ([204, 205], [], [], [])
abbrev w_X3_stray : cw_W := ([204, 205], [], [], [])
abbrev w_X3_hasRoom : cw_W := ([204, 205], [], [], [])
abbrev w_X3_begin : cw_W := ([204, 205, 351, 352, 353, 354, 355, 356], [350], [], [])
abbrev w_X3_isAtEnd : cw_W := ([], [], [], [])
abbrev w_X3_readNumber : cw_W := ([204, 205, 209, 352, 353, 354, 355, 356], [], [], [])
abbrev w_X3_readSign : cw_W := ([204, 205, 352, 353, 354, 355, 356], [], [], [])
abbrev w_X3_readWord : cw_W := ([204, 205, 352, 353, 354, 355, 356], [], [], [])
abbrev w_X3_readMark : cw_W := ([204, 205, 209, 352, 353, 354, 355, 356], [], [], [])
abbrev w_X3_readRow : cw_W := ([204, 205, 301, 352, 353, 354, 355, 356], [], [20], [])
abbrev w_X3_readModulus : cw_W := ([204, 205, 209, 352, 353, 354, 355, 356, 550], [], [], [])
abbrev w_X3_readAdd : cw_W := ([204, 205, 206, 352, 353, 354, 355, 356, 501], [], [27], [])
abbrev w_X3_readShow : cw_W := ([204, 205, 206, 208, 209, 352, 353, 354, 355, 356], [], [], [])
abbrev w_X3_readLine : cw_W := ([204, 205, 206, 208, 209, 352, 353, 354, 355, 356, 501], [], [27], [])
abbrev w_X3_readInclusion : cw_W := ([204, 205, 209, 301, 352, 353, 354, 355, 356, 453, 454], [], [20, 21, 22, 23], [])
abbrev w_X3_readGrowth : cw_W := ([204, 205, 209, 301, 352, 353, 354, 355, 356, 453, 454], [], [20, 21, 22, 23], [])
abbrev w_X3_readProofs : cw_W := ([203, 204, 205, 209, 301, 352, 353, 354, 355, 356, 453, 454], [], [20, 21, 22, 23], [])
end JN2_17
section JN2_18
abbrev w_X11_status : cw_W := ([], [], [], [])
abbrev w_X11_answer : cw_W := ([600], [], [], [])
abbrev w_X11_refuse : cw_W := ([600], [], [], [])
abbrev w_X11_isMark : cw_W := ([], [], [], [])
abbrev w_X11_isThing : cw_W := ([], [], [], [])
abbrev w_X11_isSet : cw_W := ([], [], [], [])
abbrev w_X11_lieBelow : cw_W := ([], [], [], [])
abbrev w_X11_wrongInclusion : cw_W := ([], [], [], [])
abbrev w_X11_wrongGrowth : cw_W := ([], [], [], [])
abbrev w_X11_loadLines : cw_W := ([100, 101, 102, 103, 152, 204, 205, 206, 208, 209, 301, 351, 352, 353, 354, 355, 356, 400, 401, 402, 403, 453, 454, 501, 550, 552, 554, 556], [350], [20, 21, 22, 23, 27, 29, 33], [])
abbrev w_X11_load : cw_W := ([100, 101, 102, 103, 152, 204, 205, 206, 208, 209, 301, 351, 352, 353, 354, 355, 356, 400, 401, 402, 403, 453, 454, 501, 550, 552, 554, 556, 600, 605], [350, 601, 602], [20, 21, 22, 23, 27, 29, 33], [])
abbrev w_X11_hear : cw_W := ([203, 204, 205, 209, 301, 351, 352, 353, 354, 355, 356, 453, 454, 600, 605], [350, 608, 609], [20, 21, 22, 23], [])
abbrev w_X11_heard : cw_W := ([600], [], [], [])
abbrev w_X11_fault : cw_W := ([], [], [], [])
abbrev w_X11_type : cw_W := ([501], [606, 607], [27], [])
abbrev w_X11_many : cw_W := ([600], [], [], [])
abbrev w_X11_size : cw_W := ([600], [], [], [])
abbrev w_X11_entry : cw_W := ([600], [], [], [])
abbrev w_X11_head : cw_W := ([600], [], [33], [])
abbrev w_X11_join : cw_W := ([600], [], [], [])
abbrev w_X11_mark : cw_W := ([600], [], [], [])
abbrev w_X11_frozen : cw_W := ([600], [], [33], [])
abbrev w_X11_watcher : cw_W := ([600], [], [], [])
end JN2_18
section JN2_19
abbrev w_X11_add : cw_W := ([152, 501, 556, 600], [], [27, 29], [])
abbrev w_X11_fork : cw_W := ([152, 501, 552, 556, 600], [], [27, 29], [])
abbrev w_X11_freeze : cw_W := ([100, 101, 102, 103, 301, 554, 556, 600], [], [20, 33], [])
abbrev w_X11_show : cw_W := ([301, 400, 401, 402, 403, 453, 454, 556, 600], [], [20, 21, 22, 23, 33], [])
abbrev w_X11_meet : cw_W := ([301, 400, 401, 403, 453, 454, 556, 600], [], [20, 21, 22, 23, 33], [])
abbrev w_X11_spoil : cw_W := ([556, 600], [], [27, 29], [])
abbrev w_X11_push : cw_W := ([301, 600], [], [20], [])
abbrev w_X11_poke : cw_W := ([600], [], [20], [])
abbrev w_X11_pad : cw_W := ([600], [], [], [])
abbrev w_X11_cut : cw_W := ([301, 600], [], [], [])
abbrev w_X11_include : cw_W := ([301, 453, 454, 600], [], [20, 21, 22, 23, 33], [])
abbrev w_X11_grow : cw_W := ([301, 453, 454, 600], [], [20, 21, 22, 23, 33], [])
abbrev w_X11_bundle : cw_W := ([301, 453, 454, 600], [], [20, 21, 22, 23, 33], [])
abbrev w_X11_peaks : cw_W := ([301, 600], [], [20, 33], [])
abbrev w_X11_extend : cw_W := ([301, 600], [], [20], [])
abbrev w_X11_checks : cw_W := ([453, 454, 600], [], [21, 22, 23], [])
abbrev w_X11_growth : cw_W := ([453, 454, 600], [], [21, 22, 23], [])
abbrev w_X11_bundled : cw_W := ([50, 52, 53, 54, 453, 454, 600], [51], [21, 22, 23], [])
abbrev w_X11_fold : cw_W := ([600], [], [], [])
abbrev w_X11_steps : cw_W := ([453, 454, 600], [], [21, 22, 23], [])
abbrev w_X11_climbs : cw_W := ([453, 454, 600], [], [21, 22, 23], [])
abbrev w_X11_agree : cw_W := ([600], [], [33], [])
abbrev w_X11_where : cw_W := ([600], [], [], [])
abbrev w_X11_tree : cw_W := ([453, 454, 600], [], [21, 22, 23, 33], [])
abbrev w_X11_proves : cw_W := ([301, 453, 454, 600], [], [20, 21, 22, 23, 33], [])
abbrev w_X11_longest : cw_W := ([453, 454, 600], [], [21, 22, 23], [])
abbrev w_X11_part : cw_W := ([600], [], [33], [])
abbrev w_X11_blame : cw_W := ([600], [], [33], [])
end JN2_19
section JN2_20
abbrev w_X11_clashingStep : cw_W := ([], [], [], [])
abbrev w_X11_clash : cw_W := ([301, 453, 454, 600], [], [20, 21, 22, 23, 33], [])
abbrev w_X11_trace : cw_W := ([453, 454, 600], [], [21, 22, 23], [])
abbrev w_X11_treeOfWay : cw_W := ([600], [], [], [])
abbrev w_X11_span : cw_W := ([453, 454, 600], [], [21, 22, 23], [])
abbrev w_X11_rise : cw_W := ([453, 454, 600], [], [21, 22, 23], [])
abbrev w_X11_kept : cw_W := ([453, 454, 600], [], [21, 22, 23], [])
abbrev w_X11_sick : cw_W := ([301, 600], [], [20, 33], [])
abbrev w_X11_isLink : cw_W := ([], [], [], [])
abbrev w_X11_addLinks : cw_W := ([], [], [26], [])
abbrev w_X11_chain : cw_W := ([453, 454, 600], [], [21, 22, 23, 26], [])
abbrev w_X11_split : cw_W := ([600], [], [33], [])
abbrev w_X11_tellByte : cw_W := ([611], [], [25], [])
abbrev w_X11_tellText : cw_W := ([611], [], [25], [])
abbrev w_X11_tellNumber : cw_W := ([611], [], [25], [])
abbrev w_X11_tellProof : cw_W := ([611], [], [25], [])
abbrev w_X11_tell : cw_W := ([301, 453, 454, 600, 611], [], [20, 21, 22, 23, 25, 33], [])
abbrev w_X11_tellGrowth : cw_W := ([301, 453, 454, 600, 611], [], [20, 21, 22, 23, 25, 33], [])
abbrev w_X11_trusted : cw_W := ([600], [], [], [])
abbrev w_X11_saves : cw_W := ([453, 454, 600], [], [21, 22, 23], [])
abbrev w_X11_who : cw_W := ([600], [], [33], [])
end JN2_20
section JN2_21
/-! ===== the reference as pure functions: its state, rows over it ===== -/
abbrev ms_T : Type := (Nat → Int32) × (Nat → Nat → Int32) × Int64
def ms_I (σ : ms_T) (φ : Nat) : Int32 := σ.1 φ
def ms_E (σ : ms_T) (κ j : Nat) : Int32 := σ.2.1 κ j
def ms_J (σ : ms_T) : Int64 := σ.2.2
def ms_sI (σ : ms_T) (φ : Nat) (v : Int32) : ms_T := (fun ψ => if ψ = φ then v else σ.1 ψ, σ.2)
def ms_sE (σ : ms_T) (κ j : Nat) (v : Int32) : ms_T := (σ.1, fun ψ i => if ψ = κ ∧ i = j then v else σ.2.1 ψ i, σ.2.2)
def ms_sJ (σ : ms_T) (v : Int64) : ms_T := (σ.1, σ.2.1, v)
def ms_w (j : Nat) : Int64 := ([9886, 841, 555, 129530, 95762147, 380237, 257, 151331, 411, 257105, 161140, 79] : List Int64).getD j 0
def ms_mf : List (Nat × Nat) := [(40, 650), (41, 651), (42, 654), (43, 655), (44, 656), (45, 662), (46, 663), (47, 666), (48, 678), (49, 680), (50, 681), (51, 686), (52, 687), (53, 688), (54, 690), (55, 691), (56, 692), (57, 693), (58, 694), (59, 696)]
/-- a guard, a name, what comes behind a part -/
def ms_g {R : Type} (i : Int32) (n : Nat) (k : Option R) : Option R := if 0 ≤ i.toInt ∧ i.toInt < (n : Int) then k else none
def ms_n {R : Type} (i : Int32) (k : Option R) : Option R := if i = 0 then none else k
def ms_nl {R : Type} (i : Int64) (k : Option R) : Option R := if i = 0 then none else k
def ms_z {R : Type} (i : Int32) (k : Option R) : Option R := if i = 0 ∨ i = 1 then k else none
def ms_q {R : Type} (i k : Int32) (o : Option R) : Option R := if 0 ≤ i.toInt ∧ i.toInt < k.toInt then o else none
def ms_l {A R : Type} (v : A) (k : A → Option R) : Option R := k v
def ms_b {A R : Type} (x : Option A) (k : A → Option R) : Option R := match x with
  | some a => k a
  | none => none
def ms_c {A R : Type} (x : Option (A × ms_T)) (k : A → ms_T → Option R) : Option R := match x with
  | some q => k q.1 q.2
  | none => none
theorem ms_gE {R : Type} {i : Int32} {n : Nat} {k : Option R} {r : R} (h : ms_g i n k = some r) : (0 ≤ i.toInt ∧ i.toInt < (n : Int)) ∧ k = some r := by
  unfold ms_g at h
  split at h
  · exact ⟨by assumption, h⟩
  · cases h
theorem ms_nE {R : Type} {i : Int32} {k : Option R} {r : R} (h : ms_n i k = some r) : ¬ i = 0 ∧ k = some r := by
  unfold ms_n at h
  split at h
  · cases h
  · exact ⟨by assumption, h⟩
theorem ms_nlE {R : Type} {i : Int64} {k : Option R} {r : R} (h : ms_nl i k = some r) : ¬ i = 0 ∧ k = some r := by
  unfold ms_nl at h
  split at h
  · cases h
  · exact ⟨by assumption, h⟩
theorem ms_zE {R : Type} {i : Int32} {k : Option R} {r : R} (h : ms_z i k = some r) : (i = 0 ∨ i = 1) ∧ k = some r := by
  unfold ms_z at h
  split at h
  · exact ⟨by assumption, h⟩
  · cases h
theorem ms_qE {R : Type} {i k : Int32} {o : Option R} {r : R} (h : ms_q i k o = some r) : (0 ≤ i.toInt ∧ i.toInt < k.toInt) ∧ o = some r := by
  unfold ms_q at h
  split at h
  · exact ⟨by assumption, h⟩
  · cases h
theorem ms_lE {A R : Type} {v x : A} {k : A → Option R} {r : R} (e : x = v) (h : ms_l v k = some r) : k x = some r := by
  rw [e]; exact h
theorem ms_bE {A R : Type} {x : Option A} {k : A → Option R} {r : R} (h : ms_b x k = some r) : ∃ a, x = some a ∧ k a = some r := by
  cases x with
  | none => cases h
  | some a => exact ⟨a, rfl, h⟩
theorem ms_cE {A R : Type} {x : Option (A × ms_T)} {k : A → ms_T → Option R} {r : R} (h : ms_c x k = some r) : ∃ a σ, x = some (a, σ) ∧ k a σ = some r := by
  cases x with
  | none => cases h
  | some q => exact ⟨q.1, q.2, rfl, h⟩
theorem ms_iT {R : Type} {c : Prop} [Decidable c] {a b r : R} (h : c) (e : (if c then a else b) = r) : a = r := by
  rw [if_pos h] at e; exact e
theorem ms_iF {R : Type} {c : Prop} [Decidable c] {a b r : R} (h : ¬ c) (e : (if c then a else b) = r) : b = r := by
  rw [if_neg h] at e; exact e
/-- the reference's object in the picture -/
def hm_M (α : hp_T) (a : Nat) (ρ : Nat → Nat) (σ : ms_T) : Prop := hp_K α a = 13 ∧ (∀ q ∈ ms_mf, hp_R α q.2 a = ρ q.1 ∧ hp_K α (ρ q.1) = q.1) ∧ (∀ φ, 650 ≤ φ → hp_I α φ a = ms_I σ φ) ∧ (∀ κ j, 40 ≤ κ → κ < 60 → hp_E α κ (ρ κ) j = ms_E σ κ j) ∧ hp_J α 677 a = ms_J σ ∧ (∀ j, j < 12 → hp_L α 48 (ρ 48) j = ms_w j)
/-- all else stays -/
def mo (α0 α : hp_T) : Prop := hp_K α = hp_K α0 ∧ hp_R α = hp_R α0 ∧ hp_N α = hp_N α0 ∧ hp_Q α = hp_Q α0 ∧ hp_L α = hp_L α0 ∧ (∀ φ, φ < 650 → hp_I α φ = hp_I α0 φ) ∧ (∀ κ, κ < 40 → hp_E α κ = hp_E α0 κ)
theorem mo_rf {α : hp_T} : mo α α := ⟨rfl, rfl, rfl, rfl, rfl, fun _ _ => rfl, fun _ _ => rfl⟩
theorem mo_tr {α β γ : hp_T} (h : mo α β) (g : mo β γ) : mo α γ := by
  obtain ⟨h1, h2, h3, h4, h5, h6, h7⟩ := h
  obtain ⟨g1, g2, g3, g4, g5, g6, g7⟩ := g
  exact ⟨g1.trans h1, g2.trans h2, g3.trans h3, g4.trans h4, g5.trans h5, fun φ hφ => (g6 φ hφ).trans (h6 φ hφ), fun κ hκ => (g7 κ hκ).trans (h7 κ hκ)⟩
theorem mo_sI {α0 α : hp_T} {φ a : Nat} {v : Int32} (h : mo α0 α) (hφ : 650 ≤ φ) : mo α0 (hp_sI α φ a v) := by
  refine mo_tr h ⟨rfl, rfl, rfl, rfl, rfl, fun ψ hψ => ?_, fun _ _ => rfl⟩
  funext b
  simp [hp_I, hp_sI, hp_up, show ψ ≠ φ by omega]
theorem mo_sJ {α0 α : hp_T} {φ a : Nat} {v : Int64} (h : mo α0 α) : mo α0 (hp_sJ α φ a v) := mo_tr h ⟨rfl, rfl, rfl, rfl, rfl, fun _ _ => rfl, fun _ _ => rfl⟩
theorem mo_sE {α0 α : hp_T} {κ a j : Nat} {v : Int32} (h : mo α0 α) (hκ : 40 ≤ κ) : mo α0 (hp_sE α κ a j v) := by
  refine mo_tr h ⟨rfl, rfl, rfl, rfl, rfl, fun _ _ => rfl, fun ψ hψ => ?_⟩
  funext b i
  simp [hp_E, hp_sE, hp_uq, show ψ ≠ κ by omega]
theorem hm_sI {α : hp_T} {a : Nat} {ρ : Nat → Nat} {σ : ms_T} {φ : Nat} {v : Int32} (h : hm_M α a ρ σ) : hm_M (hp_sI α φ a v) a ρ (ms_sI σ φ v) := by
  obtain ⟨h1, h2, h3, h4, h5, h6⟩ := h
  refine ⟨h1, h2, fun ψ hψ => ?_, h4, h5, h6⟩
  have := h3 ψ hψ
  by_cases e : ψ = φ
  · subst e; simp [hp_I, hp_sI, hp_up, ms_I, ms_sI]
  · simp only [hp_I, ms_I] at this
    simp [hp_I, hp_sI, hp_up, ms_I, ms_sI, e, this]
theorem hm_sJ {α : hp_T} {a : Nat} {ρ : Nat → Nat} {σ : ms_T} {v : Int64} (h : hm_M α a ρ σ) : hm_M (hp_sJ α 677 a v) a ρ (ms_sJ σ v) := by
  obtain ⟨h1, h2, h3, h4, h5, h6⟩ := h
  refine ⟨h1, h2, h3, h4, ?_, h6⟩
  simp [hp_J, hp_sJ, hp_up, ms_J, ms_sJ]
theorem hm_sE {α : hp_T} {a : Nat} {ρ : Nat → Nat} {σ : ms_T} {κ j : Nat} {v : Int32} (h : hm_M α a ρ σ) : hm_M (hp_sE α κ (ρ κ) j v) a ρ (ms_sE σ κ j v) := by
  obtain ⟨h1, h2, h3, h4, h5, h6⟩ := h
  refine ⟨h1, h2, h3, fun ψ i hψ hψ2 => ?_, h5, h6⟩
  have := h4 ψ i hψ hψ2
  by_cases e : ψ = κ ∧ i = j
  · obtain ⟨rfl, rfl⟩ := e; simp [hp_E, hp_sE, hp_uq, ms_E, ms_sE]
  · have e2 : ¬ (ψ = κ ∧ ρ ψ = ρ κ ∧ i = j) := fun q => e ⟨q.1, q.2.2⟩
    simp only [hp_E, ms_E] at this
    simp only [hp_E, hp_sE, hp_uq, ms_E, ms_sE, if_neg e, if_neg e2]
    exact this
section HPM
variable {p : Program} {l : Launch} {e : Env} {R : Room} {s : State} {m : MethodId} {args : Array Value} {below : List Frame} {meth : Method} {c : Code} {H : Heap} {locs : List Loc} {cells slots : Nat} {Q : State → Prop} {cc : ByteArray} {nL : Nat} {own : String} {Γ : hp_G} {α0 α : hp_T} {Iv : hp_T → hp_T → Prop} {pc pc' : Nat} {ls : Array Slot} {rest : List Value} {a κ k index φ n : Nat} {ρ : Nat → Nat} {σ : ms_T} {i x : Int32}
theorem ms_mf40 : ∀ q ∈ ms_mf, 40 ≤ q.1 := by decide
theorem ms_mf60 : ∀ q ∈ ms_mf, q.1 < 60 := by decide
theorem m_geti (C : hp_C Γ p m c cc nL s args own) (B : hp_B Γ Iv s α0 α H locs) (hM : hm_M α a ρ σ) (hF : hp_F own index 13 k) (ht : (hp_tg 13)[k]? = some 0) (hφ : 650 + k = φ) (hdg : decode cc pc = .ok (.getfield index, 3)) (hpc : pc + 3 = pc')
    (kk : W p l e R s m args below meth c H locs cells slots Q (F0 m pc' ls (.int (ms_I σ φ) :: rest))) : W p l e R s m args below meth c H locs cells slots Q (F0 m pc ls (.ref a :: rest)) := by
  subst hφ
  exact q_get (κ := 13) C B hM.1 hF rfl ht (show Value.int (hp_I α (650 + k) a) = Value.int (ms_I σ (650 + k)) by rw [hM.2.2.1 _ (by omega)]) hdg hpc kk
theorem m_getl (C : hp_C Γ p m c cc nL s args own) (B : hp_B Γ Iv s α0 α H locs) (hM : hm_M α a ρ σ) (hF : hp_F own index 13 27) (hdg : decode cc pc = .ok (.getfield index, 3)) (hpc : pc + 3 = pc')
    (kk : W p l e R s m args below meth c H locs cells slots Q (F0 m pc' ls (.long (ms_J σ) :: rest))) : W p l e R s m args below meth c H locs cells slots Q (F0 m pc ls (.ref a :: rest)) := by
  exact q_get (κ := 13) (k := 27) (t := 2) C B hM.1 hF rfl rfl (show Value.long (hp_J α 677 a) = Value.long (ms_J σ) by rw [hM.2.2.2.2.1]) hdg hpc kk
theorem m_getr (C : hp_C Γ p m c cc nL s args own) (B : hp_B Γ Iv s α0 α H locs) (hM : hm_M α a ρ σ) (hF : hp_F own index 13 k) (ht : (hp_tg 13)[k]? = some 1) (hm : (κ, 650 + k) ∈ ms_mf) (hdg : decode cc pc = .ok (.getfield index, 3)) (hpc : pc + 3 = pc')
    (kk : W p l e R s m args below meth c H locs cells slots Q (F0 m pc' ls (.ref (ρ κ) :: rest))) : W p l e R s m args below meth c H locs cells slots Q (F0 m pc ls (.ref a :: rest)) :=
  q_get (κ := 13) C B hM.1 hF rfl ht (show Value.ref (hp_R α (650 + k) a) = Value.ref (ρ κ) by rw [(hM.2.1 _ hm).1]) hdg hpc kk
theorem m_puti (C : hp_C Γ p m c cc nL s args own) (B : hp_B Γ mo s α0 α H locs) (hM : hm_M α a ρ σ) (hF : hp_F own index 13 k) (ht : (hp_tg 13)[k]? = some 0) (hφ : 650 + k = φ) (hfin : ((hp_q 13).2.1 k).2.2.2 = false) (hn : narrow (hp_ty 13 k) (.int x) = .int x) (hfit : fits (hp_ty 13 k) (.int x) = true) (hdg : decode cc pc = .ok (.putfield index, 3)) (hpc : pc + 3 = pc')
    (kk : ∀ (β : hp_T) (H1 : Heap) (locs1 : List Loc) (τ : ms_T), τ = ms_sI σ φ x → hp_B Γ mo s α0 β H1 locs1 → hm_M β a ρ τ → W p l e R s m args below meth c H1 locs1 cells slots Q (F0 m pc' ls rest)) : W p l e R s m args below meth c H locs cells slots Q (F0 m pc ls (.int x :: .ref a :: rest)) := by
  subst hφ
  exact q_puti (κ := 13) (φ := 650 + k) C B hM.1 hF rfl ht hfin hn hfit rfl (mo_sI B.2.2 (by omega)) hdg hpc (fun β H1 L1 eb B1 => kk β H1 L1 _ rfl B1 (by rw [eb]; exact hm_sI hM))
theorem m_putl {x : Int64} (C : hp_C Γ p m c cc nL s args own) (B : hp_B Γ mo s α0 α H locs) (hM : hm_M α a ρ σ) (hF : hp_F own index 13 27) (hdg : decode cc pc = .ok (.putfield index, 3)) (hpc : pc + 3 = pc')
    (kk : ∀ (β : hp_T) (H1 : Heap) (locs1 : List Loc) (τ : ms_T), τ = ms_sJ σ x → hp_B Γ mo s α0 β H1 locs1 → hm_M β a ρ τ → W p l e R s m args below meth c H1 locs1 cells slots Q (F0 m pc' ls rest)) : W p l e R s m args below meth c H locs cells slots Q (F0 m pc ls (.long x :: .ref a :: rest)) := by
  exact q_putl (κ := 13) (k := 27) (φ := 677) C B hM.1 hF rfl rfl rfl rfl rfl rfl (mo_sJ B.2.2) hdg hpc (fun β H1 L1 eb B1 => kk β H1 L1 _ rfl B1 (by rw [eb]; exact hm_sJ hM))
theorem m_ial (C : hp_C Γ p m c cc nL s args own) (B : hp_B Γ Iv s α0 α H locs) (hM : hm_M α a ρ σ) (hm : (κ, φ) ∈ ms_mf) (hc : 20 ≤ κ ∧ κ < 60) (hn : hp_ar κ = (0, n)) (hin : 0 ≤ i.toInt ∧ i.toInt < (n : Int)) (hdg : decode cc pc = .ok (.iaload, 1)) (hpc : pc + 1 = pc')
    (kk : W p l e R s m args below meth c H locs cells slots Q (F0 m pc' ls (.int (ms_E σ κ i.toNatClampNeg) :: rest))) : W p l e R s m args below meth c H locs cells slots Q (F0 m pc ls (.int i :: .ref (ρ κ) :: rest)) :=
  q_ial (κ := κ) C B (hM.2.1 _ hm).2 hc hn (vi_of hin.1 hin.2) hdg hpc (by rw [hM.2.2.2.1 _ _ (ms_mf40 _ hm) (ms_mf60 _ hm)]; exact kk)
theorem m_bal (C : hp_C Γ p m c cc nL s args own) (B : hp_B Γ Iv s α0 α H locs) (hM : hm_M α a ρ σ) (hm : (κ, φ) ∈ ms_mf) (hc : 20 ≤ κ ∧ κ < 60) (hn : hp_ar κ = (1, n)) (hin : 0 ≤ i.toInt ∧ i.toInt < (n : Int)) (hdg : decode cc pc = .ok (.baload, 1)) (hpc : pc + 1 = pc')
    (kk : W p l e R s m args below meth c H locs cells slots Q (F0 m pc' ls (.int (ms_E σ κ i.toNatClampNeg) :: rest))) : W p l e R s m args below meth c H locs cells slots Q (F0 m pc ls (.int i :: .ref (ρ κ) :: rest)) :=
  q_bal (κ := κ) C B (hM.2.1 _ hm).2 hc hn (vi_of hin.1 hin.2) hdg hpc (by rw [hM.2.2.2.1 _ _ (ms_mf40 _ hm) (ms_mf60 _ hm)]; exact kk)
theorem m_lal (C : hp_C Γ p m c cc nL s args own) (B : hp_B Γ Iv s α0 α H locs) (hM : hm_M α a ρ σ) (hin : 0 ≤ i.toInt ∧ i.toInt < ((12 : Nat) : Int)) (hdg : decode cc pc = .ok (.laload, 1)) (hpc : pc + 1 = pc')
    (kk : W p l e R s m args below meth c H locs cells slots Q (F0 m pc' ls (.long (ms_w i.toNatClampNeg) :: rest))) : W p l e R s m args below meth c H locs cells slots Q (F0 m pc ls (.int i :: .ref (ρ 48) :: rest)) :=
  q_lal (κ := 48) (n := 12) C B (hM.2.1 (48, 678) (by decide)).2 (by decide) rfl (vi_of hin.1 hin.2) hdg hpc (by
    have h1 := ic_clamp hin.1
    rw [hM.2.2.2.2.2 _ (by omega)]; exact kk)
theorem m_ias (C : hp_C Γ p m c cc nL s args own) (B : hp_B Γ mo s α0 α H locs) (hM : hm_M α a ρ σ) (hm : (κ, φ) ∈ ms_mf) (hc : 40 ≤ κ ∧ κ < 60) (hn : hp_ar κ = (0, n)) (hin : 0 ≤ i.toInt ∧ i.toInt < (n : Int)) (hdg : decode cc pc = .ok (.iastore, 1)) (hpc : pc + 1 = pc')
    (kk : ∀ (β : hp_T) (H1 : Heap) (locs1 : List Loc) (τ : ms_T), τ = ms_sE σ κ i.toNatClampNeg x → hp_B Γ mo s α0 β H1 locs1 → hm_M β a ρ τ → W p l e R s m args below meth c H1 locs1 cells slots Q (F0 m pc' ls rest)) : W p l e R s m args below meth c H locs cells slots Q (F0 m pc ls (.int x :: .int i :: .ref (ρ κ) :: rest)) :=
  q_ias (κ := κ) C B (hM.2.1 _ hm).2 ⟨by omega, hc.2⟩ hn (vi_of hin.1 hin.2) rfl (mo_sE B.2.2 hc.1) hdg hpc (fun β H1 L1 eb B1 => kk β H1 L1 _ rfl B1 (by rw [eb]; exact hm_sE hM))
theorem m_bas (C : hp_C Γ p m c cc nL s args own) (B : hp_B Γ mo s α0 α H locs) (hM : hm_M α a ρ σ) (hm : (κ, φ) ∈ ms_mf) (hc : 40 ≤ κ ∧ κ < 60) (hn : hp_ar κ = (1, n)) (hin : 0 ≤ i.toInt ∧ i.toInt < (n : Int)) (hdg : decode cc pc = .ok (.bastore, 1)) (hpc : pc + 1 = pc')
    (kk : ∀ (β : hp_T) (H1 : Heap) (locs1 : List Loc) (τ : ms_T), τ = ms_sE σ κ i.toNatClampNeg x.toInt8.toInt32 → hp_B Γ mo s α0 β H1 locs1 → hm_M β a ρ τ → W p l e R s m args below meth c H1 locs1 cells slots Q (F0 m pc' ls rest)) : W p l e R s m args below meth c H locs cells slots Q (F0 m pc ls (.int x :: .int i :: .ref (ρ κ) :: rest)) :=
  q_bas (κ := κ) (y := x.toInt8.toInt32) C B (hM.2.1 _ hm).2 ⟨by omega, hc.2⟩ hn (vi_of hin.1 hin.2) rfl rfl (mo_sE B.2.2 hc.1) hdg hpc (fun β H1 L1 eb B1 => kk β H1 L1 _ rfl B1 (by rw [eb]; exact hm_sE hM))
variable {st : List Value} {mc ms : Nat} {aa : Array Value}
/-- calls: of what changes the state, of what does not -/
theorem m_ci {r : Int32} {τ : ms_T} (B : hp_B Γ mo s α0 α H locs) (hr : va_Run p l e R s m args below meth c H locs cells slots mc ms (F0 m pc ls st) rest (hp_Qi Γ (fun r' β => r' = r ∧ mo α β ∧ hm_M β a ρ τ) aa) (hp_A Γ)) (hpc : pc + 3 = pc')
    (kk : ∀ (β : hp_T) (H1 : Heap) (locs1 : List Loc), hp_B Γ mo s α0 β H1 locs1 → hm_M β a ρ τ → W p l e R s m args below meth c H1 locs1 (cells + mc) (slots + ms) Q (F0 m pc' ls (.int r :: rest))) : W p l e R s m args below meth c H locs cells slots Q (F0 m pc ls st) :=
  q_ci B hr (fun _ _ h => mo_tr B.2.2 h.2.1) hpc (fun r' β H1 L1 h B1 => by rw [h.1]; exact kk β H1 L1 B1 h.2.2)
theorem m_cv {τ : ms_T} (B : hp_B Γ mo s α0 α H locs) (hr : va_Run p l e R s m args below meth c H locs cells slots mc ms (F0 m pc ls st) rest (hp_Qv Γ (fun β => mo α β ∧ hm_M β a ρ τ) aa) (hp_A Γ)) (hpc : pc + 3 = pc')
    (kk : ∀ (β : hp_T) (H1 : Heap) (locs1 : List Loc), hp_B Γ mo s α0 β H1 locs1 → hm_M β a ρ τ → W p l e R s m args below meth c H1 locs1 (cells + mc) (slots + ms) Q (F0 m pc' ls rest)) : W p l e R s m args below meth c H locs cells slots Q (F0 m pc ls st) :=
  q_cv B hr (fun _ h => mo_tr B.2.2 h.1) hpc (fun β H1 L1 h B1 => kk β H1 L1 B1 h.2)
theorem m_cp {r : Int32} (B : hp_B Γ Iv s α0 α H locs) (hr : va_Run p l e R s m args below meth c H locs cells slots mc ms (F0 m pc ls st) rest (hp_Qi Γ (fun r' β => β = α ∧ r' = r) aa) (hp_A Γ)) (hpc : pc + 3 = pc')
    (kk : ∀ (H1 : Heap) (locs1 : List Loc), hp_B Γ Iv s α0 α H1 locs1 → W p l e R s m args below meth c H1 locs1 (cells + mc) (slots + ms) Q (F0 m pc' ls (.int r :: rest))) : W p l e R s m args below meth c H locs cells slots Q (F0 m pc ls st) :=
  q_ci B hr (fun _ β h => by rw [h.1]; exact B.2.2) hpc (fun r' β H1 L1 h B1 => by rw [h.2]; rw [h.1] at B1; exact kk H1 L1 B1)
end HPM
end JN2_21
section JN2_22
def f_X12_status (n : Nat) (σ : ms_T) : Option (Int32 × ms_T) :=
  ms_l (ms_sI σ 653 (0 : Int32)) fun σh1 =>
  some ((ms_I σh1 652), σh1)
set_option maxRecDepth 100000 in
set_option maxHeartbeats 4000000 in
theorem m_X12_status (n : Nat) (Γ : hp_G) (l : Launch) (α : hp_T) (a0 : Nat) (ρ : Nat → Nat) (σ : ms_T) (hM : hm_M α a0 ρ σ)  (res : (Int32 × ms_T)) (hf : f_X12_status n σ = some res) : Met l yX12_status (hp_ws yX12_status cX12_status 1 (some .int)) (hp_rm 0 0 0) (hp_Pc Γ α [.ref a0]) (hp_Qi Γ (fun r β => r = res.1 ∧ mo α β ∧ hm_M β a0 ρ res.2)) 0 0 (hp_A Γ) := by
  unfold f_X12_status at hf
  refine hp_start (by decide) ?_
  intro p e s m below meth c C hr hlk B0 hnm
  have C : hp_C Γ p m c cX12_status 1 s ([.ref a0] : List Value).toArray RX12 := C
  have hx := C.1.1
  have hb := C.1.2.1
  have hown := C.1.2.2.2.1
  have hts := C.1.2.2.2.2
  have B : hp_B Γ mo s α α s.heap [] := ⟨B0.1, B0.2.1, mo_rf⟩
  have hl := lv_entry ([.ref a0]) (n := 1) (Nat.le_of_ble_eq_true rfl)
  show W p l e (hp_rm 0 0 0) s m ([.ref a0] : List Value).toArray below meth c s.heap [] 0 0 (MQ below (hp_Qi Γ (fun r β => r = res.1 ∧ mo α β ∧ hm_M β a0 ρ res.2)) ([.ref a0] : List Value).toArray s 0 0 (hp_A Γ)) (entryFrame m ([.ref a0] : List Value).toArray 1)
  rw [lg_entry_eq]
  generalize (lg_sl ([.ref a0]) ++ List.replicate (1 - (lg_sl ([.ref a0])).length) Slot.unset).toArray = ls at hl ⊢
  have hl : lv_has ls 1 [(0, .ref a0)] := hl
  refine lv_aload_n hx hb dX12_status_0 rfl (lv_at hl 0 rfl) (hp_n (n := 1) rfl ?_)
  refine lv_iconst (v := 0) hx hb dX12_status_1 (by decide) (hp_n (n := 2) rfl ?_)
  refine m_puti (k := 3) (φ := 653) (pc' := 5) C B hM fl_X12_106 rfl rfl rfl rfl rfl dX12_status_2 rfl (fun αh1 Hh1 Lh1 σh1 eh1 Bh1 Mh1 => ?_)
  replace hf := ms_lE eh1 hf
  refine lv_aload_n hx hb dX12_status_5 rfl (lv_at hl 0 rfl) (hp_n (n := 6) rfl ?_)
  refine m_geti (k := 2) (φ := 652) (pc' := 9) C Bh1 Mh1 fl_X12_109 rfl rfl dX12_status_6 rfl ?_
  cases hf
  exact q_iret C Bh1 hr hlk ⟨rfl, Bh1.2.2, Mh1⟩ dX12_status_9
def f_X12_refuse (n : Nat) (σ : ms_T) (a1 : Int32) : Option (Int32 × ms_T) :=
  ms_l (ms_sI σ 652 a1) fun σh1 =>
  some ((-1 : Int32), σh1)
set_option maxRecDepth 100000 in
set_option maxHeartbeats 4000000 in
theorem m_X12_refuse (n : Nat) (Γ : hp_G) (l : Launch) (α : hp_T) (a0 : Nat) (ρ : Nat → Nat) (σ : ms_T) (hM : hm_M α a0 ρ σ) (a1 : Int32) (res : (Int32 × ms_T)) (hf : f_X12_refuse n σ a1 = some res) : Met l yX12_refuse (hp_ws yX12_refuse cX12_refuse 2 (some .int)) (hp_rm 0 0 0) (hp_Pc Γ α [.ref a0, .int a1]) (hp_Qi Γ (fun r β => r = res.1 ∧ mo α β ∧ hm_M β a0 ρ res.2)) 0 0 (hp_A Γ) := by
  unfold f_X12_refuse at hf
  refine hp_start (by decide) ?_
  intro p e s m below meth c C hr hlk B0 hnm
  have C : hp_C Γ p m c cX12_refuse 2 s ([.ref a0, .int a1] : List Value).toArray RX12 := C
  have hx := C.1.1
  have hb := C.1.2.1
  have hown := C.1.2.2.2.1
  have hts := C.1.2.2.2.2
  have B : hp_B Γ mo s α α s.heap [] := ⟨B0.1, B0.2.1, mo_rf⟩
  have hl := lv_entry ([.ref a0, .int a1]) (n := 2) (Nat.le_of_ble_eq_true rfl)
  show W p l e (hp_rm 0 0 0) s m ([.ref a0, .int a1] : List Value).toArray below meth c s.heap [] 0 0 (MQ below (hp_Qi Γ (fun r β => r = res.1 ∧ mo α β ∧ hm_M β a0 ρ res.2)) ([.ref a0, .int a1] : List Value).toArray s 0 0 (hp_A Γ)) (entryFrame m ([.ref a0, .int a1] : List Value).toArray 2)
  rw [lg_entry_eq]
  generalize (lg_sl ([.ref a0, .int a1]) ++ List.replicate (2 - (lg_sl ([.ref a0, .int a1])).length) Slot.unset).toArray = ls at hl ⊢
  have hl : lv_has ls 2 [(0, .ref a0), (1, .int a1)] := hl
  refine lv_aload_n hx hb dX12_refuse_0 rfl (lv_at hl 0 rfl) (hp_n (n := 1) rfl ?_)
  refine lv_iload_n hx hb dX12_refuse_1 rfl (lv_at hl 1 rfl) (hp_n (n := 2) rfl ?_)
  refine m_puti (k := 2) (φ := 652) (pc' := 5) C B hM fl_X12_109 rfl rfl rfl rfl rfl dX12_refuse_2 rfl (fun αh1 Hh1 Lh1 σh1 eh1 Bh1 Mh1 => ?_)
  replace hf := ms_lE eh1 hf
  refine lv_iconst (v := (-1)) hx hb dX12_refuse_5 (by decide) (hp_n (n := 6) rfl ?_)
  cases hf
  exact q_iret C Bh1 hr hlk ⟨rfl, Bh1.2.2, Mh1⟩ dX12_refuse_6
def f_X12_is (n : Nat) (σ : ms_T) (a1 : Int32) : Option (Int32 × ms_T) :=
  ms_l (ms_sI σ 653 (0 : Int32)) fun σh1 =>
  ms_l (ms_sI σh1 652 a1) fun σh2 =>
  if a1 = 0 then
    some ((1 : Int32), σh2)
  else
    some ((0 : Int32), σh2)
set_option maxRecDepth 100000 in
set_option maxHeartbeats 4000000 in
theorem m_X12_is (n : Nat) (Γ : hp_G) (l : Launch) (α : hp_T) (a0 : Nat) (ρ : Nat → Nat) (σ : ms_T) (hM : hm_M α a0 ρ σ) (a1 : Int32) (res : (Int32 × ms_T)) (hf : f_X12_is n σ a1 = some res) : Met l yX12_is (hp_ws yX12_is cX12_is 2 (some .boolean)) (hp_rm 0 0 0) (hp_Pc Γ α [.ref a0, .int a1]) (hp_Qi Γ (fun r β => r = res.1 ∧ mo α β ∧ hm_M β a0 ρ res.2)) 0 0 (hp_A Γ) := by
  unfold f_X12_is at hf
  refine hp_start (by decide) ?_
  intro p e s m below meth c C hr hlk B0 hnm
  have C : hp_C Γ p m c cX12_is 2 s ([.ref a0, .int a1] : List Value).toArray RX12 := C
  have hx := C.1.1
  have hb := C.1.2.1
  have hown := C.1.2.2.2.1
  have hts := C.1.2.2.2.2
  have B : hp_B Γ mo s α α s.heap [] := ⟨B0.1, B0.2.1, mo_rf⟩
  have hl := lv_entry ([.ref a0, .int a1]) (n := 2) (Nat.le_of_ble_eq_true rfl)
  show W p l e (hp_rm 0 0 0) s m ([.ref a0, .int a1] : List Value).toArray below meth c s.heap [] 0 0 (MQ below (hp_Qi Γ (fun r β => r = res.1 ∧ mo α β ∧ hm_M β a0 ρ res.2)) ([.ref a0, .int a1] : List Value).toArray s 0 0 (hp_A Γ)) (entryFrame m ([.ref a0, .int a1] : List Value).toArray 2)
  rw [lg_entry_eq]
  generalize (lg_sl ([.ref a0, .int a1]) ++ List.replicate (2 - (lg_sl ([.ref a0, .int a1])).length) Slot.unset).toArray = ls at hl ⊢
  have hl : lv_has ls 2 [(0, .ref a0), (1, .int a1)] := hl
  refine lv_aload_n hx hb dX12_is_0 rfl (lv_at hl 0 rfl) (hp_n (n := 1) rfl ?_)
  refine lv_iconst (v := 0) hx hb dX12_is_1 (by decide) (hp_n (n := 2) rfl ?_)
  refine m_puti (k := 3) (φ := 653) (pc' := 5) C B hM fl_X12_106 rfl rfl rfl rfl rfl dX12_is_2 rfl (fun αh1 Hh1 Lh1 σh1 eh1 Bh1 Mh1 => ?_)
  replace hf := ms_lE eh1 hf
  refine lv_aload_n hx hb dX12_is_5 rfl (lv_at hl 0 rfl) (hp_n (n := 6) rfl ?_)
  refine lv_iload_n hx hb dX12_is_6 rfl (lv_at hl 1 rfl) (hp_n (n := 7) rfl ?_)
  refine m_puti (k := 2) (φ := 652) (pc' := 10) C Bh1 Mh1 fl_X12_109 rfl rfl rfl rfl rfl dX12_is_7 rfl (fun αh2 Hh2 Lh2 σh2 eh2 Bh2 Mh2 => ?_)
  replace hf := ms_lE eh2 hf
  refine lv_iload_n hx hb dX12_is_10 rfl (lv_at hl 1 rfl) (hp_n (n := 11) rfl ?_)
  refine lv_if_ne (tgt := 18) hx hb dX12_is_11 (by decide) (fun c3 => ?_) (fun c3 => hp_n (n := 14) rfl ?_)
  ·
    replace hf := ms_iF c3 hf
    refine lv_iconst (v := 0) hx hb dX12_is_18 (by decide) (hp_n (n := 19) rfl ?_)
    cases hf
    exact q_zret C Bh2 hr hlk (by decide) ⟨rfl, Bh2.2.2, Mh2⟩ dX12_is_19
  ·
    replace hf := ms_iT c3 hf
    refine lv_iconst (v := 1) hx hb dX12_is_14 (by decide) (hp_n (n := 15) rfl ?_)
    refine lv_goto (tgt := 19) hx hb dX12_is_15 (by decide) ?_
    cases hf
    exact q_zret C Bh2 hr hlk (by decide) ⟨rfl, Bh2.2.2, Mh2⟩ dX12_is_19
def f_X12_isIn (n : Nat) (a0 : Int32) (a1 : Int32) (a2 : Int32) : Option Int32 :=
  if a0 < a1 then
    some (0 : Int32)
  else
    if a2 < a0 then
      some (0 : Int32)
    else
      some (1 : Int32)
set_option maxRecDepth 100000 in
set_option maxHeartbeats 4000000 in
theorem m_X12_isIn (n : Nat) (Γ : hp_G) (l : Launch) (α : hp_T) (a0 : Int32) (a1 : Int32) (a2 : Int32) (res : Int32) (hf : f_X12_isIn n a0 a1 a2 = some res) : Met l yX12_isIn (hp_ws yX12_isIn cX12_isIn 3 (some .boolean)) (hp_rm 0 0 0) (hp_Pc Γ α [.int a0, .int a1, .int a2]) (hp_Qi Γ (fun r β => β = α ∧ r = res)) 0 0 (hp_A Γ) := by
  unfold f_X12_isIn at hf
  refine hp_start (by decide) ?_
  intro p e s m below meth c C hr hlk B0 hnm
  have C : hp_C Γ p m c cX12_isIn 3 s ([.int a0, .int a1, .int a2] : List Value).toArray RX12 := C
  have hx := C.1.1
  have hb := C.1.2.1
  have hown := C.1.2.2.2.1
  have hts := C.1.2.2.2.2
  have B : hp_B Γ (fun _ _ => True) s α α s.heap [] := ⟨B0.1, B0.2.1, trivial⟩
  have hl := lv_entry ([.int a0, .int a1, .int a2]) (n := 3) (Nat.le_of_ble_eq_true rfl)
  show W p l e (hp_rm 0 0 0) s m ([.int a0, .int a1, .int a2] : List Value).toArray below meth c s.heap [] 0 0 (MQ below (hp_Qi Γ (fun r β => β = α ∧ r = res)) ([.int a0, .int a1, .int a2] : List Value).toArray s 0 0 (hp_A Γ)) (entryFrame m ([.int a0, .int a1, .int a2] : List Value).toArray 3)
  rw [lg_entry_eq]
  generalize (lg_sl ([.int a0, .int a1, .int a2]) ++ List.replicate (3 - (lg_sl ([.int a0, .int a1, .int a2])).length) Slot.unset).toArray = ls at hl ⊢
  have hl : lv_has ls 3 [(0, .int a0), (1, .int a1), (2, .int a2)] := hl
  refine lv_iload_n hx hb dX12_isIn_0 rfl (lv_at hl 0 rfl) (hp_n (n := 1) rfl ?_)
  refine lv_iload_n hx hb dX12_isIn_1 rfl (lv_at hl 1 rfl) (hp_n (n := 2) rfl ?_)
  refine lv_icmp_lt (tgt := 14) hx hb dX12_isIn_2 (by decide) (fun c1 => ?_) (fun c1 => hp_n (n := 5) rfl ?_)
  ·
    replace hf := ms_iT c1 hf
    refine lv_iconst (v := 0) hx hb dX12_isIn_14 (by decide) (hp_n (n := 15) rfl ?_)
    cases hf
    exact q_zret C B hr hlk (by decide) ⟨rfl, rfl⟩ dX12_isIn_15
  ·
    replace hf := ms_iF c1 hf
    refine lv_iload_n hx hb dX12_isIn_5 rfl (lv_at hl 0 rfl) (hp_n (n := 6) rfl ?_)
    refine lv_iload_n hx hb dX12_isIn_6 rfl (lv_at hl 2 rfl) (hp_n (n := 7) rfl ?_)
    refine lv_icmp_gt (tgt := 14) hx hb dX12_isIn_7 (by decide) (fun c2 => ?_) (fun c2 => hp_n (n := 10) rfl ?_)
    ·
      replace hf := ms_iT c2 hf
      refine lv_iconst (v := 0) hx hb dX12_isIn_14 (by decide) (hp_n (n := 15) rfl ?_)
      cases hf
      exact q_zret C B hr hlk (by decide) ⟨rfl, rfl⟩ dX12_isIn_15
    ·
      replace hf := ms_iF c2 hf
      refine lv_iconst (v := 1) hx hb dX12_isIn_10 (by decide) (hp_n (n := 11) rfl ?_)
      refine lv_goto (tgt := 15) hx hb dX12_isIn_11 (by decide) ?_
      cases hf
      exact q_zret C B hr hlk (by decide) ⟨rfl, rfl⟩ dX12_isIn_15
def f_X12_clears_L2 (n : Nat) : Nat → ms_T → Int32 → Option ms_T
  | 0, _, _ => none
  | k2 + 1, σh1, v1_h1 =>
    if (1980 : Int32) ≤ v1_h1 then
      ms_g (0 : Int32) 1980 <|
      ms_l (ms_sE σh1 40 ((0 : Int32)).toNatClampNeg (1 : Int32)) fun σh4 =>
      ms_g (1 : Int32) 1980 <|
      ms_l (ms_sE σh4 40 ((1 : Int32)).toNatClampNeg (65521 : Int32)) fun σh6 =>
      some σh6
    else
      ms_g v1_h1 1980 <|
      ms_l (ms_sE σh1 40 (v1_h1).toNatClampNeg (0 : Int32)) fun σh8 =>
      ms_l (v1_h1 + 1) fun x9 =>
      (f_X12_clears_L2 n k2) σh8 x9
def f_X12_clears (n : Nat) (σ : ms_T) : Option ms_T :=
  f_X12_clears_L2 n n σ (0 : Int32)
set_option maxRecDepth 100000 in
set_option maxHeartbeats 4000000 in
theorem m_X12_clears (n : Nat) (Γ : hp_G) (l : Launch) (α : hp_T) (a0 : Nat) (ρ : Nat → Nat) (σ : ms_T) (hM : hm_M α a0 ρ σ)  (res : ms_T) (hf : f_X12_clears n σ = some res) : Met l yX12_clears (hp_ws yX12_clears cX12_clears 2 none) (hp_rm 0 0 0) (hp_Pc Γ α [.ref a0]) (hp_Qv Γ (fun β => mo α β ∧ hm_M β a0 ρ res)) 0 0 (hp_A Γ) := by
  unfold f_X12_clears at hf
  refine hp_start (by decide) ?_
  intro p e s m below meth c C hr hlk B0 hnm
  have C : hp_C Γ p m c cX12_clears 2 s ([.ref a0] : List Value).toArray RX12 := C
  have hx := C.1.1
  have hb := C.1.2.1
  have hown := C.1.2.2.2.1
  have hts := C.1.2.2.2.2
  have B : hp_B Γ mo s α α s.heap [] := ⟨B0.1, B0.2.1, mo_rf⟩
  have hl := lv_entry ([.ref a0]) (n := 2) (Nat.le_of_ble_eq_true rfl)
  show W p l e (hp_rm 0 0 0) s m ([.ref a0] : List Value).toArray below meth c s.heap [] 0 0 (MQ below (hp_Qv Γ (fun β => mo α β ∧ hm_M β a0 ρ res)) ([.ref a0] : List Value).toArray s 0 0 (hp_A Γ)) (entryFrame m ([.ref a0] : List Value).toArray 2)
  rw [lg_entry_eq]
  generalize (lg_sl ([.ref a0]) ++ List.replicate (2 - (lg_sl ([.ref a0])).length) Slot.unset).toArray = ls at hl ⊢
  have hl : lv_has ls 2 [(0, .ref a0)] := hl
  refine lv_iconst (v := 0) hx hb dX12_clears_0 (by decide) (hp_n (n := 1) rfl ?_)
  have J2 : ∀ (k2 : Nat) (αh1 : hp_T) (Hh1 : Heap) (Lh1 : List Loc) (Bh1 : hp_B Γ mo s α αh1 Hh1 Lh1) (σh1 : ms_T) (Mh1 : hm_M αh1 a0 ρ σh1) (v1_h1 : Int32) (ls : Array Slot) (hl : lv_has ls 2 [(0, .ref a0), (1, .int v1_h1)]) (hf : f_X12_clears_L2 n k2 σh1 v1_h1 = some res), W p l e (hp_rm 0 0 0) s m ([.ref a0] : List Value).toArray below meth c Hh1 Lh1 0 0 (MQ below (hp_Qv Γ (fun β => mo α β ∧ hm_M β a0 ρ res)) ([.ref a0] : List Value).toArray s 0 0 (hp_A Γ)) (F0 m 2 ls []) := by
    intro k2
    induction k2 with
    | zero => intro αh1 Hh1 Lh1 Bh1 σh1 Mh1 v1_h1 ls hl hf; rw [f_X12_clears_L2.eq_1] at hf; cases hf
    | succ k2 ih2 =>
      intro αh1 Hh1 Lh1 Bh1 σh1 Mh1 v1_h1 ls hl hf
      rw [f_X12_clears_L2.eq_2] at hf
      refine lv_iload_n hx hb dX12_clears_2 rfl (lv_at hl 1 rfl) (hp_n (n := 3) rfl ?_)
      refine lv_sipush (v := 1980) hx hb dX12_clears_3 (by decide) (hp_n (n := 6) rfl ?_)
      refine lv_icmp_ge (tgt := 22) hx hb dX12_clears_6 (by decide) (fun c2 => ?_) (fun c2 => hp_n (n := 9) rfl ?_)
      ·
        replace hf := ms_iT c2 hf
        refine lv_aload_n hx hb dX12_clears_22 rfl (lv_at hl 0 rfl) (hp_n (n := 23) rfl ?_)
        refine m_getr (κ := 40) (k := 0) (pc' := 26) C Bh1 Mh1 fl_X12_7 rfl (by decide) dX12_clears_23 rfl ?_
        refine lv_iconst (v := 0) hx hb dX12_clears_26 (by decide) (hp_n (n := 27) rfl ?_)
        refine lv_iconst (v := 1) hx hb dX12_clears_27 (by decide) (hp_n (n := 28) rfl ?_)
        obtain ⟨g3, hf⟩ := ms_gE hf
        refine m_ias (κ := 40) (φ := 650) (n := 1980) (pc' := 29) C Bh1 Mh1 (by decide) (by decide) rfl g3 dX12_clears_28 rfl (fun αh4 Hh4 Lh4 σh4 eh4 Bh4 Mh4 => ?_)
        replace hf := ms_lE eh4 hf
        refine lv_aload_n hx hb dX12_clears_29 rfl (lv_at hl 0 rfl) (hp_n (n := 30) rfl ?_)
        refine m_getr (κ := 40) (k := 0) (pc' := 33) C Bh4 Mh4 fl_X12_7 rfl (by decide) dX12_clears_30 rfl ?_
        refine lv_iconst (v := 1) hx hb dX12_clears_33 (by decide) (hp_n (n := 34) rfl ?_)
        refine lv_ldc hx hb hown (hts _ kc_X12_112) dX12_clears_34 (hp_n (n := 36) rfl ?_)
        obtain ⟨g5, hf⟩ := ms_gE hf
        refine m_ias (κ := 40) (φ := 650) (n := 1980) (pc' := 37) C Bh4 Mh4 (by decide) (by decide) rfl g5 dX12_clears_36 rfl (fun αh6 Hh6 Lh6 σh6 eh6 Bh6 Mh6 => ?_)
        replace hf := ms_lE eh6 hf
        cases hf
        exact q_vret C Bh6 hr hlk ⟨Bh6.2.2, Mh6⟩ dX12_clears_37
      ·
        replace hf := ms_iF c2 hf
        refine lv_aload_n hx hb dX12_clears_9 rfl (lv_at hl 0 rfl) (hp_n (n := 10) rfl ?_)
        refine m_getr (κ := 40) (k := 0) (pc' := 13) C Bh1 Mh1 fl_X12_7 rfl (by decide) dX12_clears_10 rfl ?_
        refine lv_iload_n hx hb dX12_clears_13 rfl (lv_at hl 1 rfl) (hp_n (n := 14) rfl ?_)
        refine lv_iconst (v := 0) hx hb dX12_clears_14 (by decide) (hp_n (n := 15) rfl ?_)
        obtain ⟨g7, hf⟩ := ms_gE hf
        refine m_ias (κ := 40) (φ := 650) (n := 1980) (pc' := 16) C Bh1 Mh1 (by decide) (by decide) rfl g7 dX12_clears_15 rfl (fun αh8 Hh8 Lh8 σh8 eh8 Bh8 Mh8 => ?_)
        replace hf := ms_lE eh8 hf
        obtain ⟨x9, ex9⟩ : ∃ y : Int32, y = v1_h1 + 1 := ⟨_, rfl⟩
        replace hf := ms_lE ex9 hf
        refine lv_iinc (v := x9) (lv' := [(1, .int x9), (0, .ref a0)]) hx hb dX12_clears_16 hl (k := 1) rfl (by rw [ex9]; rfl) (by decide) rfl (fun ls hl => hp_n (n := 19) rfl ?_)
        refine lv_goto (tgt := 2) hx hb dX12_clears_19 (by decide) ?_
        exact ih2 αh8 Hh8 Lh8 Bh8 σh8 Mh8 x9 ls (lv_sub hl [1, 0] rfl) hf
  refine lv_istore_n (lv' := [(1, .int (0 : Int32)), (0, .ref a0)]) hx hb dX12_clears_1 rfl hl (by decide) rfl (fun ls hl => hp_n (n := 2) rfl ?_)
  exact J2 n α s.heap [] B σ hM (0 : Int32) ls (lv_sub hl [1, 0] rfl) hf
def f_X12_isRecord (n : Nat) (σ : ms_T) (a1 : Int32) : Option Int32 :=
  ms_g (0 : Int32) 1980 <|
  ms_b (f_X12_isIn n a1 (0 : Int32) ((ms_E σ 40 ((0 : Int32)).toNatClampNeg) - (1 : Int32))) fun rh2 =>
  ms_z rh2 <|
  some rh2
set_option maxRecDepth 100000 in
set_option maxHeartbeats 4000000 in
theorem m_X12_isRecord (n : Nat) (Γ : hp_G) (l : Launch) (α : hp_T) (a0 : Nat) (ρ : Nat → Nat) (σ : ms_T) (hM : hm_M α a0 ρ σ) (a1 : Int32) (res : Int32) (hf : f_X12_isRecord n σ a1 = some res) : Met l yX12_isRecord (hp_ws yX12_isRecord cX12_isRecord 2 (some .boolean)) (hp_rm 1 0 0) (hp_Pc Γ α [.ref a0, .int a1]) (hp_Qi Γ (fun r β => β = α ∧ r = res)) 0 0 (hp_A Γ) := by
  unfold f_X12_isRecord at hf
  refine hp_start (by decide) ?_
  intro p e s m below meth c C hr hlk B0 hnm
  have C : hp_C Γ p m c cX12_isRecord 2 s ([.ref a0, .int a1] : List Value).toArray RX12 := C
  have hx := C.1.1
  have hb := C.1.2.1
  have hown := C.1.2.2.2.1
  have hts := C.1.2.2.2.2
  have B : hp_B Γ (fun _ _ => True) s α α s.heap [] := ⟨B0.1, B0.2.1, trivial⟩
  have hl := lv_entry ([.ref a0, .int a1]) (n := 2) (Nat.le_of_ble_eq_true rfl)
  show W p l e (hp_rm 1 0 0) s m ([.ref a0, .int a1] : List Value).toArray below meth c s.heap [] 0 0 (MQ below (hp_Qi Γ (fun r β => β = α ∧ r = res)) ([.ref a0, .int a1] : List Value).toArray s 0 0 (hp_A Γ)) (entryFrame m ([.ref a0, .int a1] : List Value).toArray 2)
  rw [lg_entry_eq]
  generalize (lg_sl ([.ref a0, .int a1]) ++ List.replicate (2 - (lg_sl ([.ref a0, .int a1])).length) Slot.unset).toArray = ls at hl ⊢
  have hl : lv_has ls 2 [(0, .ref a0), (1, .int a1)] := hl
  refine lv_iload_n hx hb dX12_isRecord_0 rfl (lv_at hl 1 rfl) (hp_n (n := 1) rfl ?_)
  refine lv_iconst (v := 0) hx hb dX12_isRecord_1 (by decide) (hp_n (n := 2) rfl ?_)
  refine lv_aload_n hx hb dX12_isRecord_2 rfl (lv_at hl 0 rfl) (hp_n (n := 3) rfl ?_)
  refine m_getr (κ := 40) (k := 0) (pc' := 6) C B hM fl_X12_7 rfl (by decide) dX12_isRecord_3 rfl ?_
  refine lv_iconst (v := 0) hx hb dX12_isRecord_6 (by decide) (hp_n (n := 7) rfl ?_)
  obtain ⟨g1, hf⟩ := ms_gE hf
  refine m_ial (κ := 40) (φ := 650) (n := 1980) (pc' := 8) C B hM (by decide) (by decide) rfl g1 dX12_isRecord_7 rfl ?_
  refine lv_iconst (v := 1) hx hb dX12_isRecord_8 (by decide) (hp_n (n := 9) rfl ?_)
  refine lv_isub hx hb dX12_isRecord_9 (hp_n (n := 10) rfl ?_)
  obtain ⟨rh2, qh2, hf⟩ := ms_bE hf
  refine m_cp (pc' := 13) B (hp_runS (As := [.int a1, .int (0 : Int32), .int ((ms_E σ 40 ((0 : Int32)).toNatClampNeg) - (1 : Int32))]) (rest := []) C B (m_X12_isIn n Γ l α a1 (0 : Int32) ((ms_E σ 40 ((0 : Int32)).toNatClampNeg) - (1 : Int32)) rh2 qh2) lb_X12_isIn ls_X12_isIn lk_X12_113 rfl (by decide) rfl hl.1 rfl (Nat.le_of_ble_eq_true rfl) dX12_isRecord_10 ⟨Nat.le_refl _, Nat.le_refl _⟩) rfl (fun Hh2 Lh2 Bh2 => ?_)
  obtain ⟨g3, hf⟩ := ms_zE hf
  cases hf
  exact q_zret C Bh2 hr hlk (nz_z g3) ⟨rfl, rfl⟩ dX12_isRecord_13
def f_X12_sizeOf (n : Nat) (σ : ms_T) (a1 : Int32) : Option Int32 :=
  ms_g ((72 : Int32) + a1) 1980 <|
  some (ms_E σ 40 (((72 : Int32) + a1)).toNatClampNeg)
set_option maxRecDepth 100000 in
set_option maxHeartbeats 4000000 in
theorem m_X12_sizeOf (n : Nat) (Γ : hp_G) (l : Launch) (α : hp_T) (a0 : Nat) (ρ : Nat → Nat) (σ : ms_T) (hM : hm_M α a0 ρ σ) (a1 : Int32) (res : Int32) (hf : f_X12_sizeOf n σ a1 = some res) : Met l yX12_sizeOf (hp_ws yX12_sizeOf cX12_sizeOf 2 (some .int)) (hp_rm 0 0 0) (hp_Pc Γ α [.ref a0, .int a1]) (hp_Qi Γ (fun r β => β = α ∧ r = res)) 0 0 (hp_A Γ) := by
  unfold f_X12_sizeOf at hf
  refine hp_start (by decide) ?_
  intro p e s m below meth c C hr hlk B0 hnm
  have C : hp_C Γ p m c cX12_sizeOf 2 s ([.ref a0, .int a1] : List Value).toArray RX12 := C
  have hx := C.1.1
  have hb := C.1.2.1
  have hown := C.1.2.2.2.1
  have hts := C.1.2.2.2.2
  have B : hp_B Γ (fun _ _ => True) s α α s.heap [] := ⟨B0.1, B0.2.1, trivial⟩
  have hl := lv_entry ([.ref a0, .int a1]) (n := 2) (Nat.le_of_ble_eq_true rfl)
  show W p l e (hp_rm 0 0 0) s m ([.ref a0, .int a1] : List Value).toArray below meth c s.heap [] 0 0 (MQ below (hp_Qi Γ (fun r β => β = α ∧ r = res)) ([.ref a0, .int a1] : List Value).toArray s 0 0 (hp_A Γ)) (entryFrame m ([.ref a0, .int a1] : List Value).toArray 2)
  rw [lg_entry_eq]
  generalize (lg_sl ([.ref a0, .int a1]) ++ List.replicate (2 - (lg_sl ([.ref a0, .int a1])).length) Slot.unset).toArray = ls at hl ⊢
  have hl : lv_has ls 2 [(0, .ref a0), (1, .int a1)] := hl
  refine lv_aload_n hx hb dX12_sizeOf_0 rfl (lv_at hl 0 rfl) (hp_n (n := 1) rfl ?_)
  refine m_getr (κ := 40) (k := 0) (pc' := 4) C B hM fl_X12_7 rfl (by decide) dX12_sizeOf_1 rfl ?_
  refine lv_bipush (v := 72) hx hb dX12_sizeOf_4 (by decide) (hp_n (n := 6) rfl ?_)
  refine lv_iload_n hx hb dX12_sizeOf_6 rfl (lv_at hl 1 rfl) (hp_n (n := 7) rfl ?_)
  refine lv_iadd hx hb dX12_sizeOf_7 (hp_n (n := 8) rfl ?_)
  obtain ⟨g1, hf⟩ := ms_gE hf
  refine m_ial (κ := 40) (φ := 650) (n := 1980) (pc' := 9) C B hM (by decide) (by decide) rfl g1 dX12_sizeOf_8 rfl ?_
  cases hf
  exact q_iret C B hr hlk ⟨rfl, rfl⟩ dX12_sizeOf_9
def f_X12_isMark (n : Nat) (σ : ms_T) (a1 : Int32) : Option Int32 :=
  ms_g (1 : Int32) 1980 <|
  ms_b (f_X12_isIn n a1 (0 : Int32) ((ms_E σ 40 ((1 : Int32)).toNatClampNeg) - (1 : Int32))) fun rh2 =>
  ms_z rh2 <|
  some rh2
set_option maxRecDepth 100000 in
set_option maxHeartbeats 4000000 in
theorem m_X12_isMark (n : Nat) (Γ : hp_G) (l : Launch) (α : hp_T) (a0 : Nat) (ρ : Nat → Nat) (σ : ms_T) (hM : hm_M α a0 ρ σ) (a1 : Int32) (res : Int32) (hf : f_X12_isMark n σ a1 = some res) : Met l yX12_isMark (hp_ws yX12_isMark cX12_isMark 2 (some .boolean)) (hp_rm 1 0 0) (hp_Pc Γ α [.ref a0, .int a1]) (hp_Qi Γ (fun r β => β = α ∧ r = res)) 0 0 (hp_A Γ) := by
  unfold f_X12_isMark at hf
  refine hp_start (by decide) ?_
  intro p e s m below meth c C hr hlk B0 hnm
  have C : hp_C Γ p m c cX12_isMark 2 s ([.ref a0, .int a1] : List Value).toArray RX12 := C
  have hx := C.1.1
  have hb := C.1.2.1
  have hown := C.1.2.2.2.1
  have hts := C.1.2.2.2.2
  have B : hp_B Γ (fun _ _ => True) s α α s.heap [] := ⟨B0.1, B0.2.1, trivial⟩
  have hl := lv_entry ([.ref a0, .int a1]) (n := 2) (Nat.le_of_ble_eq_true rfl)
  show W p l e (hp_rm 1 0 0) s m ([.ref a0, .int a1] : List Value).toArray below meth c s.heap [] 0 0 (MQ below (hp_Qi Γ (fun r β => β = α ∧ r = res)) ([.ref a0, .int a1] : List Value).toArray s 0 0 (hp_A Γ)) (entryFrame m ([.ref a0, .int a1] : List Value).toArray 2)
  rw [lg_entry_eq]
  generalize (lg_sl ([.ref a0, .int a1]) ++ List.replicate (2 - (lg_sl ([.ref a0, .int a1])).length) Slot.unset).toArray = ls at hl ⊢
  have hl : lv_has ls 2 [(0, .ref a0), (1, .int a1)] := hl
  refine lv_iload_n hx hb dX12_isMark_0 rfl (lv_at hl 1 rfl) (hp_n (n := 1) rfl ?_)
  refine lv_iconst (v := 0) hx hb dX12_isMark_1 (by decide) (hp_n (n := 2) rfl ?_)
  refine lv_aload_n hx hb dX12_isMark_2 rfl (lv_at hl 0 rfl) (hp_n (n := 3) rfl ?_)
  refine m_getr (κ := 40) (k := 0) (pc' := 6) C B hM fl_X12_7 rfl (by decide) dX12_isMark_3 rfl ?_
  refine lv_iconst (v := 1) hx hb dX12_isMark_6 (by decide) (hp_n (n := 7) rfl ?_)
  obtain ⟨g1, hf⟩ := ms_gE hf
  refine m_ial (κ := 40) (φ := 650) (n := 1980) (pc' := 8) C B hM (by decide) (by decide) rfl g1 dX12_isMark_7 rfl ?_
  refine lv_iconst (v := 1) hx hb dX12_isMark_8 (by decide) (hp_n (n := 9) rfl ?_)
  refine lv_isub hx hb dX12_isMark_9 (hp_n (n := 10) rfl ?_)
  obtain ⟨rh2, qh2, hf⟩ := ms_bE hf
  refine m_cp (pc' := 13) B (hp_runS (As := [.int a1, .int (0 : Int32), .int ((ms_E σ 40 ((1 : Int32)).toNatClampNeg) - (1 : Int32))]) (rest := []) C B (m_X12_isIn n Γ l α a1 (0 : Int32) ((ms_E σ 40 ((1 : Int32)).toNatClampNeg) - (1 : Int32)) rh2 qh2) lb_X12_isIn ls_X12_isIn lk_X12_113 rfl (by decide) rfl hl.1 rfl (Nat.le_of_ble_eq_true rfl) dX12_isMark_10 ⟨Nat.le_refl _, Nat.le_refl _⟩) rfl (fun Hh2 Lh2 Bh2 => ?_)
  obtain ⟨g3, hf⟩ := ms_zE hf
  cases hf
  exact q_zret C Bh2 hr hlk (nz_z g3) ⟨rfl, rfl⟩ dX12_isMark_13
def f_X12_mixed (n : Nat) (σ : ms_T) (a1 : Int32) (a2 : Int32) : Option Int32 :=
  ms_g (1 : Int32) 1980 <|
  ms_nl ((ms_E σ 40 ((1 : Int32)).toNatClampNeg)).toInt64 <|
  some (((((((a1).toInt64 * (a1).toInt64) + ((3 : Int64) * (a1).toInt64)) + (a2).toInt64) + (7 : Int64)) - (((((a1).toInt64 * (a1).toInt64) + ((3 : Int64) * (a1).toInt64)) + (a2).toInt64) + (7 : Int64)) / ((ms_E σ 40 ((1 : Int32)).toNatClampNeg)).toInt64 * ((ms_E σ 40 ((1 : Int32)).toNatClampNeg)).toInt64)).toInt32
set_option maxRecDepth 100000 in
set_option maxHeartbeats 4000000 in
theorem m_X12_mixed (n : Nat) (Γ : hp_G) (l : Launch) (α : hp_T) (a0 : Nat) (ρ : Nat → Nat) (σ : ms_T) (hM : hm_M α a0 ρ σ) (a1 : Int32) (a2 : Int32) (res : Int32) (hf : f_X12_mixed n σ a1 a2 = some res) : Met l yX12_mixed (hp_ws yX12_mixed cX12_mixed 3 (some .int)) (hp_rm 0 0 0) (hp_Pc Γ α [.ref a0, .int a1, .int a2]) (hp_Qi Γ (fun r β => β = α ∧ r = res)) 0 0 (hp_A Γ) := by
  unfold f_X12_mixed at hf
  refine hp_start (by decide) ?_
  intro p e s m below meth c C hr hlk B0 hnm
  have C : hp_C Γ p m c cX12_mixed 3 s ([.ref a0, .int a1, .int a2] : List Value).toArray RX12 := C
  have hx := C.1.1
  have hb := C.1.2.1
  have hown := C.1.2.2.2.1
  have hts := C.1.2.2.2.2
  have B : hp_B Γ (fun _ _ => True) s α α s.heap [] := ⟨B0.1, B0.2.1, trivial⟩
  have hl := lv_entry ([.ref a0, .int a1, .int a2]) (n := 3) (Nat.le_of_ble_eq_true rfl)
  show W p l e (hp_rm 0 0 0) s m ([.ref a0, .int a1, .int a2] : List Value).toArray below meth c s.heap [] 0 0 (MQ below (hp_Qi Γ (fun r β => β = α ∧ r = res)) ([.ref a0, .int a1, .int a2] : List Value).toArray s 0 0 (hp_A Γ)) (entryFrame m ([.ref a0, .int a1, .int a2] : List Value).toArray 3)
  rw [lg_entry_eq]
  generalize (lg_sl ([.ref a0, .int a1, .int a2]) ++ List.replicate (3 - (lg_sl ([.ref a0, .int a1, .int a2])).length) Slot.unset).toArray = ls at hl ⊢
  have hl : lv_has ls 3 [(0, .ref a0), (1, .int a1), (2, .int a2)] := hl
  refine lv_iload_n hx hb dX12_mixed_0 rfl (lv_at hl 1 rfl) (hp_n (n := 1) rfl ?_)
  refine lv_i2l hx hb dX12_mixed_1 rfl (hp_n (n := 2) rfl ?_)
  refine lv_iload_n hx hb dX12_mixed_2 rfl (lv_at hl 1 rfl) (hp_n (n := 3) rfl ?_)
  refine lv_i2l hx hb dX12_mixed_3 rfl (hp_n (n := 4) rfl ?_)
  refine lv_lmul hx hb dX12_mixed_4 (hp_n (n := 5) rfl ?_)
  refine lv_ldc2 hx hb hown (hts _ kc_X12_117) dX12_mixed_5 (hp_n (n := 8) rfl ?_)
  refine lv_iload_n hx hb dX12_mixed_8 rfl (lv_at hl 1 rfl) (hp_n (n := 9) rfl ?_)
  refine lv_i2l hx hb dX12_mixed_9 rfl (hp_n (n := 10) rfl ?_)
  refine lv_lmul hx hb dX12_mixed_10 (hp_n (n := 11) rfl ?_)
  refine lv_ladd hx hb dX12_mixed_11 (hp_n (n := 12) rfl ?_)
  refine lv_iload_n hx hb dX12_mixed_12 rfl (lv_at hl 2 rfl) (hp_n (n := 13) rfl ?_)
  refine lv_i2l hx hb dX12_mixed_13 rfl (hp_n (n := 14) rfl ?_)
  refine lv_ladd hx hb dX12_mixed_14 (hp_n (n := 15) rfl ?_)
  refine lv_ldc2 hx hb hown (hts _ kc_X12_119) dX12_mixed_15 (hp_n (n := 18) rfl ?_)
  refine lv_ladd hx hb dX12_mixed_18 (hp_n (n := 19) rfl ?_)
  refine lv_aload_n hx hb dX12_mixed_19 rfl (lv_at hl 0 rfl) (hp_n (n := 20) rfl ?_)
  refine m_getr (κ := 40) (k := 0) (pc' := 23) C B hM fl_X12_7 rfl (by decide) dX12_mixed_20 rfl ?_
  refine lv_iconst (v := 1) hx hb dX12_mixed_23 (by decide) (hp_n (n := 24) rfl ?_)
  obtain ⟨g1, hf⟩ := ms_gE hf
  refine m_ial (κ := 40) (φ := 650) (n := 1980) (pc' := 25) C B hM (by decide) (by decide) rfl g1 dX12_mixed_24 rfl ?_
  refine lv_i2l hx hb dX12_mixed_25 rfl (hp_n (n := 26) rfl ?_)
  obtain ⟨g2, hf⟩ := ms_nlE hf
  refine lv_lrem hx hb dX12_mixed_26 g2 (hp_n (n := 27) rfl ?_)
  refine lv_l2i hx hb dX12_mixed_27 rfl (hp_n (n := 28) rfl ?_)
  cases hf
  exact q_iret C B hr hlk ⟨rfl, rfl⟩ dX12_mixed_28
def f_X12_both (n : Nat) (σ : ms_T) (a1 : Int32) (a2 : Int32) : Option Int32 :=
  ms_b (f_X12_mixed n σ (2 : Int32) a1) fun rh1 =>
  ms_b (f_X12_mixed n σ rh1 a2) fun rh2 =>
  some rh2
set_option maxRecDepth 100000 in
set_option maxHeartbeats 4000000 in
theorem m_X12_both (n : Nat) (Γ : hp_G) (l : Launch) (α : hp_T) (a0 : Nat) (ρ : Nat → Nat) (σ : ms_T) (hM : hm_M α a0 ρ σ) (a1 : Int32) (a2 : Int32) (res : Int32) (hf : f_X12_both n σ a1 a2 = some res) : Met l yX12_both (hp_ws yX12_both cX12_both 3 (some .int)) (hp_rm 1 0 0) (hp_Pc Γ α [.ref a0, .int a1, .int a2]) (hp_Qi Γ (fun r β => β = α ∧ r = res)) 0 0 (hp_A Γ) := by
  unfold f_X12_both at hf
  refine hp_start (by decide) ?_
  intro p e s m below meth c C hr hlk B0 hnm
  have C : hp_C Γ p m c cX12_both 3 s ([.ref a0, .int a1, .int a2] : List Value).toArray RX12 := C
  have hx := C.1.1
  have hb := C.1.2.1
  have hown := C.1.2.2.2.1
  have hts := C.1.2.2.2.2
  have B : hp_B Γ (fun _ _ => True) s α α s.heap [] := ⟨B0.1, B0.2.1, trivial⟩
  have hl := lv_entry ([.ref a0, .int a1, .int a2]) (n := 3) (Nat.le_of_ble_eq_true rfl)
  show W p l e (hp_rm 1 0 0) s m ([.ref a0, .int a1, .int a2] : List Value).toArray below meth c s.heap [] 0 0 (MQ below (hp_Qi Γ (fun r β => β = α ∧ r = res)) ([.ref a0, .int a1, .int a2] : List Value).toArray s 0 0 (hp_A Γ)) (entryFrame m ([.ref a0, .int a1, .int a2] : List Value).toArray 3)
  rw [lg_entry_eq]
  generalize (lg_sl ([.ref a0, .int a1, .int a2]) ++ List.replicate (3 - (lg_sl ([.ref a0, .int a1, .int a2])).length) Slot.unset).toArray = ls at hl ⊢
  have hl : lv_has ls 3 [(0, .ref a0), (1, .int a1), (2, .int a2)] := hl
  refine lv_aload_n hx hb dX12_both_0 rfl (lv_at hl 0 rfl) (hp_n (n := 1) rfl ?_)
  refine lv_aload_n hx hb dX12_both_1 rfl (lv_at hl 0 rfl) (hp_n (n := 2) rfl ?_)
  refine lv_iconst (v := 2) hx hb dX12_both_2 (by decide) (hp_n (n := 3) rfl ?_)
  refine lv_iload_n hx hb dX12_both_3 rfl (lv_at hl 1 rfl) (hp_n (n := 4) rfl ?_)
  obtain ⟨rh1, qh1, hf⟩ := ms_bE hf
  refine m_cp (pc' := 7) B (hp_runV (As := [.int (2 : Int32), .int a1]) (rest := [.ref a0]) C B (m_X12_mixed n Γ l α a0 ρ σ hM (2 : Int32) a1 rh1 qh1) lb_X12_mixed lv_X12_mixed lk_X12_121 hM.1 rfl (by decide) rfl hl.1 rfl (Nat.le_of_ble_eq_true rfl) dX12_both_4 ⟨Nat.le_refl _, Nat.le_refl _⟩) rfl (fun Hh1 Lh1 Bh1 => ?_)
  refine lv_iload_n hx hb dX12_both_7 rfl (lv_at hl 2 rfl) (hp_n (n := 8) rfl ?_)
  obtain ⟨rh2, qh2, hf⟩ := ms_bE hf
  refine m_cp (pc' := 11) Bh1 (hp_runV (As := [.int rh1, .int a2]) (rest := []) C Bh1 (m_X12_mixed n Γ l α a0 ρ σ hM rh1 a2 rh2 qh2) lb_X12_mixed lv_X12_mixed lk_X12_121 hM.1 rfl (by decide) rfl hl.1 rfl (Nat.le_of_ble_eq_true rfl) dX12_both_8 ⟨Nat.le_refl _, Nat.le_refl _⟩) rfl (fun Hh2 Lh2 Bh2 => ?_)
  cases hf
  exact q_iret C Bh2 hr hlk ⟨rfl, rfl⟩ dX12_both_11
def f_X12_entryMark_L13 (n : Nat) (σ : ms_T) : Nat → Int32 → Int32 → Int32 → Option Int32
  | 0, _, _, _ => none
  | k13 + 1, v3_h2, v4_h2, v5_h2 =>
    ms_g ((252 : Int32) + v4_h2) 1980 <|
    if (ms_E σ 40 (((252 : Int32) + v4_h2)).toNatClampNeg) ≤ v5_h2 then
      some v3_h2
    else
      ms_g (((444 : Int32) + ((8 : Int32) * v4_h2)) + v5_h2) 1980 <|
      ms_b (f_X12_mixed n σ v3_h2 (ms_E σ 40 ((((444 : Int32) + ((8 : Int32) * v4_h2)) + v5_h2)).toNatClampNeg)) fun rh6 =>
      ms_l (v5_h2 + 1) fun x7 =>
      (f_X12_entryMark_L13 n σ k13) rh6 v4_h2 x7
def f_X12_entryMark (n : Nat) (σ : ms_T) (a1 : Int32) (a2 : Int32) : Option Int32 :=
  ms_l ((((48 : Int32) * a1) + a2)) fun x1 =>
  f_X12_entryMark_L13 n σ n (1 : Int32) x1 (0 : Int32)
set_option maxRecDepth 100000 in
set_option maxHeartbeats 4000000 in
theorem m_X12_entryMark (n : Nat) (Γ : hp_G) (l : Launch) (α : hp_T) (a0 : Nat) (ρ : Nat → Nat) (σ : ms_T) (hM : hm_M α a0 ρ σ) (a1 : Int32) (a2 : Int32) (res : Int32) (hf : f_X12_entryMark n σ a1 a2 = some res) : Met l yX12_entryMark (hp_ws yX12_entryMark cX12_entryMark 6 (some .int)) (hp_rm 1 0 0) (hp_Pc Γ α [.ref a0, .int a1, .int a2]) (hp_Qi Γ (fun r β => β = α ∧ r = res)) 0 0 (hp_A Γ) := by
  unfold f_X12_entryMark at hf
  refine hp_start (by decide) ?_
  intro p e s m below meth c C hr hlk B0 hnm
  have C : hp_C Γ p m c cX12_entryMark 6 s ([.ref a0, .int a1, .int a2] : List Value).toArray RX12 := C
  have hx := C.1.1
  have hb := C.1.2.1
  have hown := C.1.2.2.2.1
  have hts := C.1.2.2.2.2
  have B : hp_B Γ (fun _ _ => True) s α α s.heap [] := ⟨B0.1, B0.2.1, trivial⟩
  have hl := lv_entry ([.ref a0, .int a1, .int a2]) (n := 6) (Nat.le_of_ble_eq_true rfl)
  show W p l e (hp_rm 1 0 0) s m ([.ref a0, .int a1, .int a2] : List Value).toArray below meth c s.heap [] 0 0 (MQ below (hp_Qi Γ (fun r β => β = α ∧ r = res)) ([.ref a0, .int a1, .int a2] : List Value).toArray s 0 0 (hp_A Γ)) (entryFrame m ([.ref a0, .int a1, .int a2] : List Value).toArray 6)
  rw [lg_entry_eq]
  generalize (lg_sl ([.ref a0, .int a1, .int a2]) ++ List.replicate (6 - (lg_sl ([.ref a0, .int a1, .int a2])).length) Slot.unset).toArray = ls at hl ⊢
  have hl : lv_has ls 6 [(0, .ref a0), (1, .int a1), (2, .int a2)] := hl
  refine lv_iconst (v := 1) hx hb dX12_entryMark_0 (by decide) (hp_n (n := 1) rfl ?_)
  refine lv_istore_n (lv' := [(3, .int (1 : Int32)), (0, .ref a0), (1, .int a1), (2, .int a2)]) hx hb dX12_entryMark_1 rfl hl (by decide) rfl (fun ls hl => hp_n (n := 2) rfl ?_)
  refine lv_bipush (v := 48) hx hb dX12_entryMark_2 (by decide) (hp_n (n := 4) rfl ?_)
  refine lv_iload_n hx hb dX12_entryMark_4 rfl (lv_at hl 2 rfl) (hp_n (n := 5) rfl ?_)
  refine lv_imul hx hb dX12_entryMark_5 (hp_n (n := 6) rfl ?_)
  refine lv_iload_n hx hb dX12_entryMark_6 rfl (lv_at hl 3 rfl) (hp_n (n := 7) rfl ?_)
  refine lv_iadd hx hb dX12_entryMark_7 (hp_n (n := 8) rfl ?_)
  refine lv_topi (fun x1 ex1 => ?_)
  replace hf := ms_lE ex1 hf
  refine lv_istore (lv' := [(4, .int x1), (3, .int (1 : Int32)), (0, .ref a0), (1, .int a1), (2, .int a2)]) hx hb dX12_entryMark_8 hl (by decide) rfl (fun ls hl => hp_n (n := 10) rfl ?_)
  refine lv_iconst (v := 0) hx hb dX12_entryMark_10 (by decide) (hp_n (n := 11) rfl ?_)
  have J13 : ∀ (k13 : Nat) (Hh2 : Heap) (Lh2 : List Loc) (Bh2 : hp_B Γ (fun _ _ => True) s α α Hh2 Lh2) (v3_h2 : Int32) (v4_h2 : Int32) (v5_h2 : Int32) (ls : Array Slot) (hl : lv_has ls 6 [(0, .ref a0), (3, .int v3_h2), (4, .int v4_h2), (5, .int v5_h2)]) (hf : f_X12_entryMark_L13 n σ k13 v3_h2 v4_h2 v5_h2 = some res), W p l e (hp_rm 1 0 0) s m ([.ref a0, .int a1, .int a2] : List Value).toArray below meth c Hh2 Lh2 0 0 (MQ below (hp_Qi Γ (fun r β => β = α ∧ r = res)) ([.ref a0, .int a1, .int a2] : List Value).toArray s 0 0 (hp_A Γ)) (F0 m 13 ls []) := by
    intro k13
    induction k13 with
    | zero => intro Hh2 Lh2 Bh2 v3_h2 v4_h2 v5_h2 ls hl hf; rw [f_X12_entryMark_L13.eq_1] at hf; cases hf
    | succ k13 ih13 =>
      intro Hh2 Lh2 Bh2 v3_h2 v4_h2 v5_h2 ls hl hf
      rw [f_X12_entryMark_L13.eq_2] at hf
      refine lv_iload hx hb dX12_entryMark_13 (lv_at hl 3 rfl) (hp_n (n := 15) rfl ?_)
      refine lv_aload_n hx hb dX12_entryMark_15 rfl (lv_at hl 0 rfl) (hp_n (n := 16) rfl ?_)
      refine m_getr (κ := 40) (k := 0) (pc' := 19) C Bh2 hM fl_X12_7 rfl (by decide) dX12_entryMark_16 rfl ?_
      refine lv_sipush (v := 252) hx hb dX12_entryMark_19 (by decide) (hp_n (n := 22) rfl ?_)
      refine lv_iload hx hb dX12_entryMark_22 (lv_at hl 2 rfl) (hp_n (n := 24) rfl ?_)
      refine lv_iadd hx hb dX12_entryMark_24 (hp_n (n := 25) rfl ?_)
      obtain ⟨g3, hf⟩ := ms_gE hf
      refine m_ial (κ := 40) (φ := 650) (n := 1980) (pc' := 26) C Bh2 hM (by decide) (by decide) rfl g3 dX12_entryMark_25 rfl ?_
      refine lv_icmp_ge (tgt := 58) hx hb dX12_entryMark_26 (by decide) (fun c4 => ?_) (fun c4 => hp_n (n := 29) rfl ?_)
      ·
        replace hf := ms_iT c4 hf
        refine lv_iload_n hx hb dX12_entryMark_58 rfl (lv_at hl 1 rfl) (hp_n (n := 59) rfl ?_)
        cases hf
        exact q_iret C Bh2 hr hlk ⟨rfl, rfl⟩ dX12_entryMark_59
      ·
        replace hf := ms_iF c4 hf
        refine lv_aload_n hx hb dX12_entryMark_29 rfl (lv_at hl 0 rfl) (hp_n (n := 30) rfl ?_)
        refine lv_iload_n hx hb dX12_entryMark_30 rfl (lv_at hl 1 rfl) (hp_n (n := 31) rfl ?_)
        refine lv_aload_n hx hb dX12_entryMark_31 rfl (lv_at hl 0 rfl) (hp_n (n := 32) rfl ?_)
        refine m_getr (κ := 40) (k := 0) (pc' := 35) C Bh2 hM fl_X12_7 rfl (by decide) dX12_entryMark_32 rfl ?_
        refine lv_sipush (v := 444) hx hb dX12_entryMark_35 (by decide) (hp_n (n := 38) rfl ?_)
        refine lv_bipush (v := 8) hx hb dX12_entryMark_38 (by decide) (hp_n (n := 40) rfl ?_)
        refine lv_iload hx hb dX12_entryMark_40 (lv_at hl 2 rfl) (hp_n (n := 42) rfl ?_)
        refine lv_imul hx hb dX12_entryMark_42 (hp_n (n := 43) rfl ?_)
        refine lv_iadd hx hb dX12_entryMark_43 (hp_n (n := 44) rfl ?_)
        refine lv_iload hx hb dX12_entryMark_44 (lv_at hl 3 rfl) (hp_n (n := 46) rfl ?_)
        refine lv_iadd hx hb dX12_entryMark_46 (hp_n (n := 47) rfl ?_)
        obtain ⟨g5, hf⟩ := ms_gE hf
        refine m_ial (κ := 40) (φ := 650) (n := 1980) (pc' := 48) C Bh2 hM (by decide) (by decide) rfl g5 dX12_entryMark_47 rfl ?_
        obtain ⟨rh6, qh6, hf⟩ := ms_bE hf
        refine m_cp (pc' := 51) Bh2 (hp_runV (As := [.int v3_h2, .int (ms_E σ 40 ((((444 : Int32) + ((8 : Int32) * v4_h2)) + v5_h2)).toNatClampNeg)]) (rest := []) C Bh2 (m_X12_mixed n Γ l α a0 ρ σ hM v3_h2 (ms_E σ 40 ((((444 : Int32) + ((8 : Int32) * v4_h2)) + v5_h2)).toNatClampNeg) rh6 qh6) lb_X12_mixed lv_X12_mixed lk_X12_121 hM.1 rfl (by decide) rfl hl.1 rfl (Nat.le_of_ble_eq_true rfl) dX12_entryMark_48 ⟨Nat.le_refl _, Nat.le_refl _⟩) rfl (fun Hh6 Lh6 Bh6 => ?_)
        refine lv_istore_n (lv' := [(3, .int rh6), (0, .ref a0), (4, .int v4_h2), (5, .int v5_h2)]) hx hb dX12_entryMark_51 rfl hl (by decide) rfl (fun ls hl => hp_n (n := 52) rfl ?_)
        obtain ⟨x7, ex7⟩ : ∃ y : Int32, y = v5_h2 + 1 := ⟨_, rfl⟩
        replace hf := ms_lE ex7 hf
        refine lv_iinc (v := x7) (lv' := [(5, .int x7), (3, .int rh6), (0, .ref a0), (4, .int v4_h2)]) hx hb dX12_entryMark_52 hl (k := 3) rfl (by rw [ex7]; rfl) (by decide) rfl (fun ls hl => hp_n (n := 55) rfl ?_)
        refine lv_goto (tgt := 13) hx hb dX12_entryMark_55 (by decide) ?_
        exact ih13 Hh6 Lh6 Bh6 rh6 v4_h2 x7 ls (lv_sub hl [2, 1, 3, 0] rfl) hf
  refine lv_istore (lv' := [(5, .int (0 : Int32)), (4, .int x1), (3, .int (1 : Int32)), (0, .ref a0), (1, .int a1), (2, .int a2)]) hx hb dX12_entryMark_11 hl (by decide) rfl (fun ls hl => hp_n (n := 13) rfl ?_)
  exact J13 n s.heap [] B (1 : Int32) x1 (0 : Int32) ls (lv_sub hl [3, 2, 1, 0] rfl) hf
def f_X12_part0_L2 (n : Nat) : Nat → Int32 → Int32 → Option Int32
  | 0, _, _ => none
  | k2 + 1, v0_h1, v1_h1 =>
    if (v0_h1 - v1_h1) ≤ v1_h1 then
      some v1_h1
    else
      ms_l ((v1_h1 + v1_h1)) fun x3 =>
      (f_X12_part0_L2 n k2) v0_h1 x3
def f_X12_part0 (n : Nat) (a0 : Int32) : Option Int32 :=
  f_X12_part0_L2 n n a0 (1 : Int32)
set_option maxRecDepth 100000 in
set_option maxHeartbeats 4000000 in
theorem m_X12_part0 (n : Nat) (Γ : hp_G) (l : Launch) (α : hp_T) (a0 : Int32) (res : Int32) (hf : f_X12_part0 n a0 = some res) : Met l yX12_part0 (hp_ws yX12_part0 cX12_part0 2 (some .int)) (hp_rm 0 0 0) (hp_Pc Γ α [.int a0]) (hp_Qi Γ (fun r β => β = α ∧ r = res)) 0 0 (hp_A Γ) := by
  unfold f_X12_part0 at hf
  refine hp_start (by decide) ?_
  intro p e s m below meth c C hr hlk B0 hnm
  have C : hp_C Γ p m c cX12_part0 2 s ([.int a0] : List Value).toArray RX12 := C
  have hx := C.1.1
  have hb := C.1.2.1
  have hown := C.1.2.2.2.1
  have hts := C.1.2.2.2.2
  have B : hp_B Γ (fun _ _ => True) s α α s.heap [] := ⟨B0.1, B0.2.1, trivial⟩
  have hl := lv_entry ([.int a0]) (n := 2) (Nat.le_of_ble_eq_true rfl)
  show W p l e (hp_rm 0 0 0) s m ([.int a0] : List Value).toArray below meth c s.heap [] 0 0 (MQ below (hp_Qi Γ (fun r β => β = α ∧ r = res)) ([.int a0] : List Value).toArray s 0 0 (hp_A Γ)) (entryFrame m ([.int a0] : List Value).toArray 2)
  rw [lg_entry_eq]
  generalize (lg_sl ([.int a0]) ++ List.replicate (2 - (lg_sl ([.int a0])).length) Slot.unset).toArray = ls at hl ⊢
  have hl : lv_has ls 2 [(0, .int a0)] := hl
  refine lv_iconst (v := 1) hx hb dX12_part0_0 (by decide) (hp_n (n := 1) rfl ?_)
  have J2 : ∀ (k2 : Nat) (Hh1 : Heap) (Lh1 : List Loc) (Bh1 : hp_B Γ (fun _ _ => True) s α α Hh1 Lh1) (v0_h1 : Int32) (v1_h1 : Int32) (ls : Array Slot) (hl : lv_has ls 2 [(0, .int v0_h1), (1, .int v1_h1)]) (hf : f_X12_part0_L2 n k2 v0_h1 v1_h1 = some res), W p l e (hp_rm 0 0 0) s m ([.int a0] : List Value).toArray below meth c Hh1 Lh1 0 0 (MQ below (hp_Qi Γ (fun r β => β = α ∧ r = res)) ([.int a0] : List Value).toArray s 0 0 (hp_A Γ)) (F0 m 2 ls []) := by
    intro k2
    induction k2 with
    | zero => intro Hh1 Lh1 Bh1 v0_h1 v1_h1 ls hl hf; rw [f_X12_part0_L2.eq_1] at hf; cases hf
    | succ k2 ih2 =>
      intro Hh1 Lh1 Bh1 v0_h1 v1_h1 ls hl hf
      rw [f_X12_part0_L2.eq_2] at hf
      refine lv_iload_n hx hb dX12_part0_2 rfl (lv_at hl 1 rfl) (hp_n (n := 3) rfl ?_)
      refine lv_iload_n hx hb dX12_part0_3 rfl (lv_at hl 0 rfl) (hp_n (n := 4) rfl ?_)
      refine lv_iload_n hx hb dX12_part0_4 rfl (lv_at hl 1 rfl) (hp_n (n := 5) rfl ?_)
      refine lv_isub hx hb dX12_part0_5 (hp_n (n := 6) rfl ?_)
      refine lv_icmp_ge (tgt := 16) hx hb dX12_part0_6 (by decide) (fun c2 => ?_) (fun c2 => hp_n (n := 9) rfl ?_)
      ·
        replace hf := ms_iT c2 hf
        refine lv_iload_n hx hb dX12_part0_16 rfl (lv_at hl 1 rfl) (hp_n (n := 17) rfl ?_)
        cases hf
        exact q_iret C Bh1 hr hlk ⟨rfl, rfl⟩ dX12_part0_17
      ·
        replace hf := ms_iF c2 hf
        refine lv_iload_n hx hb dX12_part0_9 rfl (lv_at hl 1 rfl) (hp_n (n := 10) rfl ?_)
        refine lv_iload_n hx hb dX12_part0_10 rfl (lv_at hl 1 rfl) (hp_n (n := 11) rfl ?_)
        refine lv_iadd hx hb dX12_part0_11 (hp_n (n := 12) rfl ?_)
        refine lv_topi (fun x3 ex3 => ?_)
        replace hf := ms_lE ex3 hf
        refine lv_istore_n (lv' := [(1, .int x3), (0, .int v0_h1)]) hx hb dX12_part0_12 rfl hl (by decide) rfl (fun ls hl => hp_n (n := 13) rfl ?_)
        refine lv_goto (tgt := 2) hx hb dX12_part0_13 (by decide) ?_
        exact ih2 Hh1 Lh1 Bh1 v0_h1 x3 ls (lv_sub hl [1, 0] rfl) hf
  refine lv_istore_n (lv' := [(1, .int (1 : Int32)), (0, .int a0)]) hx hb dX12_part0_1 rfl hl (by decide) rfl (fun ls hl => hp_n (n := 2) rfl ?_)
  exact J2 n s.heap [] B a0 (1 : Int32) ls (lv_sub hl [1, 0] rfl) hf
def f_X12_treeMark (n : Nat) : Nat → ms_T → Int32 → Int32 → Int32 → Option Int32
  | 0, _, _, _, _ => none
  | d + 1, σ, a1, a2, a3 =>
    if a3 = 0 then
      some (0 : Int32)
    else
      if a3 = (1 : Int32) then
        ms_b (f_X12_entryMark n σ a1 a2) fun rh7 =>
        some rh7
      else
        ms_b (f_X12_part0 n a3) fun rh3 =>
        ms_b ((f_X12_treeMark n d σ) a1 a2 rh3) fun rh4 =>
        ms_b ((f_X12_treeMark n d σ) a1 (a2 + rh3) (a3 - rh3)) fun rh5 =>
        ms_b (f_X12_both n σ rh4 rh5) fun rh6 =>
        some rh6
set_option maxRecDepth 100000 in
set_option maxHeartbeats 4000000 in
theorem m_X12_treeMark (n : Nat) : ∀ (d : Nat) (Γ : hp_G) (l : Launch) (α : hp_T) (a0 : Nat) (ρ : Nat → Nat) (σ : ms_T) (hM : hm_M α a0 ρ σ) (a1 : Int32) (a2 : Int32) (a3 : Int32) (res : Int32) (hf : f_X12_treeMark n d σ a1 a2 a3 = some res), Met l yX12_treeMark (hp_ws yX12_treeMark cX12_treeMark 5 (some .int)) (hp_rm (d + 1) 0 0) (hp_Pc Γ α [.ref a0, .int a1, .int a2, .int a3]) (hp_Qi Γ (fun r β => β = α ∧ r = res)) 0 0 (hp_A Γ) := by
  intro d
  induction d with
  | zero => intro Γ l α a0 ρ σ hM a1 a2 a3 res hf; rw [f_X12_treeMark.eq_1] at hf; cases hf
  | succ d ihM =>
    intro Γ l α a0 ρ σ hM a1 a2 a3 res hf
    rw [f_X12_treeMark.eq_2] at hf
    refine hp_start (by decide) ?_
    intro p e s m below meth c C hr hlk B0 hnm
    have C : hp_C Γ p m c cX12_treeMark 5 s ([.ref a0, .int a1, .int a2, .int a3] : List Value).toArray RX12 := C
    have hx := C.1.1
    have hb := C.1.2.1
    have hown := C.1.2.2.2.1
    have hts := C.1.2.2.2.2
    have B : hp_B Γ (fun _ _ => True) s α α s.heap [] := ⟨B0.1, B0.2.1, trivial⟩
    have hl := lv_entry ([.ref a0, .int a1, .int a2, .int a3]) (n := 5) (Nat.le_of_ble_eq_true rfl)
    show W p l e (hp_rm (d + 1 + 1) 0 0) s m ([.ref a0, .int a1, .int a2, .int a3] : List Value).toArray below meth c s.heap [] 0 0 (MQ below (hp_Qi Γ (fun r β => β = α ∧ r = res)) ([.ref a0, .int a1, .int a2, .int a3] : List Value).toArray s 0 0 (hp_A Γ)) (entryFrame m ([.ref a0, .int a1, .int a2, .int a3] : List Value).toArray 5)
    rw [lg_entry_eq]
    generalize (lg_sl ([.ref a0, .int a1, .int a2, .int a3]) ++ List.replicate (5 - (lg_sl ([.ref a0, .int a1, .int a2, .int a3])).length) Slot.unset).toArray = ls at hl ⊢
    have hl : lv_has ls 5 [(0, .ref a0), (1, .int a1), (2, .int a2), (3, .int a3)] := hl
    refine lv_iload_n hx hb dX12_treeMark_0 rfl (lv_at hl 3 rfl) (hp_n (n := 1) rfl ?_)
    refine lv_if_ne (tgt := 6) hx hb dX12_treeMark_1 (by decide) (fun c1 => ?_) (fun c1 => hp_n (n := 4) rfl ?_)
    ·
      replace hf := ms_iF c1 hf
      refine lv_iload_n hx hb dX12_treeMark_6 rfl (lv_at hl 3 rfl) (hp_n (n := 7) rfl ?_)
      refine lv_iconst (v := 1) hx hb dX12_treeMark_7 (by decide) (hp_n (n := 8) rfl ?_)
      refine lv_icmp_ne (tgt := 18) hx hb dX12_treeMark_8 (by decide) (fun c2 => ?_) (fun c2 => hp_n (n := 11) rfl ?_)
      ·
        replace hf := ms_iF c2 hf
        refine lv_iload_n hx hb dX12_treeMark_18 rfl (lv_at hl 3 rfl) (hp_n (n := 19) rfl ?_)
        obtain ⟨rh3, qh3, hf⟩ := ms_bE hf
        refine m_cp (pc' := 22) B (hp_runS (As := [.int a3]) (rest := []) C B (m_X12_part0 n Γ l α a3 rh3 qh3) lb_X12_part0 ls_X12_part0 lk_X12_128 rfl (by omega) rfl hl.1 rfl (Nat.le_of_ble_eq_true rfl) dX12_treeMark_19 ⟨Nat.le_refl _, Nat.le_refl _⟩) rfl (fun Hh3 Lh3 Bh3 => ?_)
        refine lv_istore (lv' := [(4, .int rh3), (0, .ref a0), (1, .int a1), (2, .int a2), (3, .int a3)]) hx hb dX12_treeMark_22 hl (by decide) rfl (fun ls hl => hp_n (n := 24) rfl ?_)
        refine lv_aload_n hx hb dX12_treeMark_24 rfl (lv_at hl 1 rfl) (hp_n (n := 25) rfl ?_)
        refine lv_aload_n hx hb dX12_treeMark_25 rfl (lv_at hl 1 rfl) (hp_n (n := 26) rfl ?_)
        refine lv_iload_n hx hb dX12_treeMark_26 rfl (lv_at hl 2 rfl) (hp_n (n := 27) rfl ?_)
        refine lv_iload_n hx hb dX12_treeMark_27 rfl (lv_at hl 3 rfl) (hp_n (n := 28) rfl ?_)
        refine lv_iload hx hb dX12_treeMark_28 (lv_at hl 0 rfl) (hp_n (n := 30) rfl ?_)
        obtain ⟨rh4, qh4, hf⟩ := ms_bE hf
        refine m_cp (pc' := 33) Bh3 (hp_runV (As := [.int a1, .int a2, .int rh3]) (rest := [.ref a0]) C Bh3 (ihM Γ l α a0 ρ σ hM a1 a2 rh3 rh4 qh4) lb_X12_treeMark lv_X12_treeMark lk_X12_132 hM.1 rfl (by omega) rfl hl.1 rfl (Nat.le_of_ble_eq_true rfl) dX12_treeMark_30 ⟨Nat.le_refl _, Nat.le_refl _⟩) rfl (fun Hh4 Lh4 Bh4 => ?_)
        refine lv_aload_n hx hb dX12_treeMark_33 rfl (lv_at hl 1 rfl) (hp_n (n := 34) rfl ?_)
        refine lv_iload_n hx hb dX12_treeMark_34 rfl (lv_at hl 2 rfl) (hp_n (n := 35) rfl ?_)
        refine lv_iload_n hx hb dX12_treeMark_35 rfl (lv_at hl 3 rfl) (hp_n (n := 36) rfl ?_)
        refine lv_iload hx hb dX12_treeMark_36 (lv_at hl 0 rfl) (hp_n (n := 38) rfl ?_)
        refine lv_iadd hx hb dX12_treeMark_38 (hp_n (n := 39) rfl ?_)
        refine lv_iload_n hx hb dX12_treeMark_39 rfl (lv_at hl 4 rfl) (hp_n (n := 40) rfl ?_)
        refine lv_iload hx hb dX12_treeMark_40 (lv_at hl 0 rfl) (hp_n (n := 42) rfl ?_)
        refine lv_isub hx hb dX12_treeMark_42 (hp_n (n := 43) rfl ?_)
        obtain ⟨rh5, qh5, hf⟩ := ms_bE hf
        refine m_cp (pc' := 46) Bh4 (hp_runV (As := [.int a1, .int (a2 + rh3), .int (a3 - rh3)]) (rest := [.int rh4, .ref a0]) C Bh4 (ihM Γ l α a0 ρ σ hM a1 (a2 + rh3) (a3 - rh3) rh5 qh5) lb_X12_treeMark lv_X12_treeMark lk_X12_132 hM.1 rfl (by omega) rfl hl.1 rfl (Nat.le_of_ble_eq_true rfl) dX12_treeMark_43 ⟨Nat.le_refl _, Nat.le_refl _⟩) rfl (fun Hh5 Lh5 Bh5 => ?_)
        obtain ⟨rh6, qh6, hf⟩ := ms_bE hf
        refine m_cp (pc' := 49) Bh5 (hp_runV (As := [.int rh4, .int rh5]) (rest := []) C Bh5 (m_X12_both n Γ l α a0 ρ σ hM rh4 rh5 rh6 qh6) lb_X12_both lv_X12_both lk_X12_136 hM.1 rfl (by omega) rfl hl.1 rfl (Nat.le_of_ble_eq_true rfl) dX12_treeMark_46 ⟨Nat.le_refl _, Nat.le_refl _⟩) rfl (fun Hh6 Lh6 Bh6 => ?_)
        cases hf
        exact q_iret C Bh6 hr hlk ⟨rfl, rfl⟩ dX12_treeMark_49
      ·
        replace hf := ms_iT c2 hf
        refine lv_aload_n hx hb dX12_treeMark_11 rfl (lv_at hl 0 rfl) (hp_n (n := 12) rfl ?_)
        refine lv_iload_n hx hb dX12_treeMark_12 rfl (lv_at hl 1 rfl) (hp_n (n := 13) rfl ?_)
        refine lv_iload_n hx hb dX12_treeMark_13 rfl (lv_at hl 2 rfl) (hp_n (n := 14) rfl ?_)
        obtain ⟨rh7, qh7, hf⟩ := ms_bE hf
        refine m_cp (pc' := 17) B (hp_runV (As := [.int a1, .int a2]) (rest := []) C B (m_X12_entryMark n Γ l α a0 ρ σ hM a1 a2 rh7 qh7) lb_X12_entryMark lv_X12_entryMark lk_X12_125 hM.1 rfl (by omega) rfl hl.1 rfl (Nat.le_of_ble_eq_true rfl) dX12_treeMark_14 ⟨Nat.le_refl _, Nat.le_refl _⟩) rfl (fun Hh7 Lh7 Bh7 => ?_)
        cases hf
        exact q_iret C Bh7 hr hlk ⟨rfl, rfl⟩ dX12_treeMark_17
    ·
      replace hf := ms_iT c1 hf
      refine lv_iconst (v := 0) hx hb dX12_treeMark_4 (by decide) (hp_n (n := 5) rfl ?_)
      cases hf
      exact q_iret C B hr hlk ⟨rfl, rfl⟩ dX12_treeMark_5
def f_X12_headOf (n : Nat) (σ : ms_T) (a1 : Int32) (a2 : Int32) : Option Int32 :=
  ms_b (f_X12_treeMark n 40 σ a1 (0 : Int32) a2) fun rh1 =>
  some rh1
set_option maxRecDepth 100000 in
set_option maxHeartbeats 4000000 in
theorem m_X12_headOf (n : Nat) (Γ : hp_G) (l : Launch) (α : hp_T) (a0 : Nat) (ρ : Nat → Nat) (σ : ms_T) (hM : hm_M α a0 ρ σ) (a1 : Int32) (a2 : Int32) (res : Int32) (hf : f_X12_headOf n σ a1 a2 = some res) : Met l yX12_headOf (hp_ws yX12_headOf cX12_headOf 3 (some .int)) (hp_rm 42 0 0) (hp_Pc Γ α [.ref a0, .int a1, .int a2]) (hp_Qi Γ (fun r β => β = α ∧ r = res)) 0 0 (hp_A Γ) := by
  unfold f_X12_headOf at hf
  refine hp_start (by decide) ?_
  intro p e s m below meth c C hr hlk B0 hnm
  have C : hp_C Γ p m c cX12_headOf 3 s ([.ref a0, .int a1, .int a2] : List Value).toArray RX12 := C
  have hx := C.1.1
  have hb := C.1.2.1
  have hown := C.1.2.2.2.1
  have hts := C.1.2.2.2.2
  have B : hp_B Γ (fun _ _ => True) s α α s.heap [] := ⟨B0.1, B0.2.1, trivial⟩
  have hl := lv_entry ([.ref a0, .int a1, .int a2]) (n := 3) (Nat.le_of_ble_eq_true rfl)
  show W p l e (hp_rm 42 0 0) s m ([.ref a0, .int a1, .int a2] : List Value).toArray below meth c s.heap [] 0 0 (MQ below (hp_Qi Γ (fun r β => β = α ∧ r = res)) ([.ref a0, .int a1, .int a2] : List Value).toArray s 0 0 (hp_A Γ)) (entryFrame m ([.ref a0, .int a1, .int a2] : List Value).toArray 3)
  rw [lg_entry_eq]
  generalize (lg_sl ([.ref a0, .int a1, .int a2]) ++ List.replicate (3 - (lg_sl ([.ref a0, .int a1, .int a2])).length) Slot.unset).toArray = ls at hl ⊢
  have hl : lv_has ls 3 [(0, .ref a0), (1, .int a1), (2, .int a2)] := hl
  refine lv_aload_n hx hb dX12_headOf_0 rfl (lv_at hl 0 rfl) (hp_n (n := 1) rfl ?_)
  refine lv_iload_n hx hb dX12_headOf_1 rfl (lv_at hl 1 rfl) (hp_n (n := 2) rfl ?_)
  refine lv_iconst (v := 0) hx hb dX12_headOf_2 (by decide) (hp_n (n := 3) rfl ?_)
  refine lv_iload_n hx hb dX12_headOf_3 rfl (lv_at hl 2 rfl) (hp_n (n := 4) rfl ?_)
  obtain ⟨rh1, qh1, hf⟩ := ms_bE hf
  refine m_cp (pc' := 7) B (hp_runV (As := [.int a1, .int (0 : Int32), .int a2]) (rest := []) C B (m_X12_treeMark n 40 Γ l α a0 ρ σ hM a1 (0 : Int32) a2 rh1 qh1) lb_X12_treeMark lv_X12_treeMark lk_X12_132 hM.1 rfl (by decide) rfl hl.1 rfl (Nat.le_of_ble_eq_true rfl) dX12_headOf_4 ⟨Nat.le_refl _, Nat.le_refl _⟩) rfl (fun Hh1 Lh1 Bh1 => ?_)
  cases hf
  exact q_iret C Bh1 hr hlk ⟨rfl, rfl⟩ dX12_headOf_7
def f_X12_asks (n : Nat) (σ : ms_T) (a1 : Int32) (a2 : Int32) : Option ms_T :=
  ms_g (ms_I σ 657) 128 <|
  ms_l (ms_sE σ 42 ((ms_I σ 657)).toNatClampNeg a1) fun σh2 =>
  ms_g (ms_I σh2 657) 128 <|
  ms_l (ms_sE σh2 43 ((ms_I σh2 657)).toNatClampNeg a2) fun σh4 =>
  ms_l (ms_sI σh4 657 ((ms_I σh4 657) + (1 : Int32))) fun σh5 =>
  some σh5
set_option maxRecDepth 100000 in
set_option maxHeartbeats 4000000 in
theorem m_X12_asks (n : Nat) (Γ : hp_G) (l : Launch) (α : hp_T) (a0 : Nat) (ρ : Nat → Nat) (σ : ms_T) (hM : hm_M α a0 ρ σ) (a1 : Int32) (a2 : Int32) (res : ms_T) (hf : f_X12_asks n σ a1 a2 = some res) : Met l yX12_asks (hp_ws yX12_asks cX12_asks 3 none) (hp_rm 0 0 0) (hp_Pc Γ α [.ref a0, .int a1, .int a2]) (hp_Qv Γ (fun β => mo α β ∧ hm_M β a0 ρ res)) 0 0 (hp_A Γ) := by
  unfold f_X12_asks at hf
  refine hp_start (by decide) ?_
  intro p e s m below meth c C hr hlk B0 hnm
  have C : hp_C Γ p m c cX12_asks 3 s ([.ref a0, .int a1, .int a2] : List Value).toArray RX12 := C
  have hx := C.1.1
  have hb := C.1.2.1
  have hown := C.1.2.2.2.1
  have hts := C.1.2.2.2.2
  have B : hp_B Γ mo s α α s.heap [] := ⟨B0.1, B0.2.1, mo_rf⟩
  have hl := lv_entry ([.ref a0, .int a1, .int a2]) (n := 3) (Nat.le_of_ble_eq_true rfl)
  show W p l e (hp_rm 0 0 0) s m ([.ref a0, .int a1, .int a2] : List Value).toArray below meth c s.heap [] 0 0 (MQ below (hp_Qv Γ (fun β => mo α β ∧ hm_M β a0 ρ res)) ([.ref a0, .int a1, .int a2] : List Value).toArray s 0 0 (hp_A Γ)) (entryFrame m ([.ref a0, .int a1, .int a2] : List Value).toArray 3)
  rw [lg_entry_eq]
  generalize (lg_sl ([.ref a0, .int a1, .int a2]) ++ List.replicate (3 - (lg_sl ([.ref a0, .int a1, .int a2])).length) Slot.unset).toArray = ls at hl ⊢
  have hl : lv_has ls 3 [(0, .ref a0), (1, .int a1), (2, .int a2)] := hl
  refine lv_aload_n hx hb dX12_asks_0 rfl (lv_at hl 0 rfl) (hp_n (n := 1) rfl ?_)
  refine m_getr (κ := 42) (k := 4) (pc' := 4) C B hM fl_X12_16 rfl (by decide) dX12_asks_1 rfl ?_
  refine lv_aload_n hx hb dX12_asks_4 rfl (lv_at hl 0 rfl) (hp_n (n := 5) rfl ?_)
  refine m_geti (k := 7) (φ := 657) (pc' := 8) C B hM fl_X12_139 rfl rfl dX12_asks_5 rfl ?_
  refine lv_iload_n hx hb dX12_asks_8 rfl (lv_at hl 1 rfl) (hp_n (n := 9) rfl ?_)
  obtain ⟨g1, hf⟩ := ms_gE hf
  refine m_ias (κ := 42) (φ := 654) (n := 128) (pc' := 10) C B hM (by decide) (by decide) rfl g1 dX12_asks_9 rfl (fun αh2 Hh2 Lh2 σh2 eh2 Bh2 Mh2 => ?_)
  replace hf := ms_lE eh2 hf
  refine lv_aload_n hx hb dX12_asks_10 rfl (lv_at hl 0 rfl) (hp_n (n := 11) rfl ?_)
  refine m_getr (κ := 43) (k := 5) (pc' := 14) C Bh2 Mh2 fl_X12_19 rfl (by decide) dX12_asks_11 rfl ?_
  refine lv_aload_n hx hb dX12_asks_14 rfl (lv_at hl 0 rfl) (hp_n (n := 15) rfl ?_)
  refine m_geti (k := 7) (φ := 657) (pc' := 18) C Bh2 Mh2 fl_X12_139 rfl rfl dX12_asks_15 rfl ?_
  refine lv_iload_n hx hb dX12_asks_18 rfl (lv_at hl 2 rfl) (hp_n (n := 19) rfl ?_)
  obtain ⟨g3, hf⟩ := ms_gE hf
  refine m_ias (κ := 43) (φ := 655) (n := 128) (pc' := 20) C Bh2 Mh2 (by decide) (by decide) rfl g3 dX12_asks_19 rfl (fun αh4 Hh4 Lh4 σh4 eh4 Bh4 Mh4 => ?_)
  replace hf := ms_lE eh4 hf
  refine lv_aload_n hx hb dX12_asks_20 rfl (lv_at hl 0 rfl) (hp_n (n := 21) rfl ?_)
  refine lv_dup hx hb dX12_asks_21 rfl (hp_n (n := 22) rfl ?_)
  refine m_geti (k := 7) (φ := 657) (pc' := 25) C Bh4 Mh4 fl_X12_139 rfl rfl dX12_asks_22 rfl ?_
  refine lv_iconst (v := 1) hx hb dX12_asks_25 (by decide) (hp_n (n := 26) rfl ?_)
  refine lv_iadd hx hb dX12_asks_26 (hp_n (n := 27) rfl ?_)
  refine m_puti (k := 7) (φ := 657) (pc' := 30) C Bh4 Mh4 fl_X12_139 rfl rfl rfl rfl rfl dX12_asks_27 rfl (fun αh5 Hh5 Lh5 σh5 eh5 Bh5 Mh5 => ?_)
  replace hf := ms_lE eh5 hf
  cases hf
  exact q_vret C Bh5 hr hlk ⟨Bh5.2.2, Mh5⟩ dX12_asks_30
def f_X12_waysIn (n : Nat) : Nat → ms_T → Int32 → Int32 → Int32 → Option ms_T
  | 0, _, _, _, _ => none
  | d + 1, σ, a1, a2, a3 =>
    if a3 = (1 : Int32) then
      some σ
    else
      ms_b (f_X12_part0 n a3) fun rh2 =>
      if rh2 ≤ a2 then
        ms_b ((f_X12_waysIn n d) σ (a1 + rh2) (a2 - rh2) (a3 - rh2)) fun σh4 =>
        ms_b (f_X12_asks n σh4 a1 rh2) fun σh5 =>
        some σh5
      else
        ms_b ((f_X12_waysIn n d) σ a1 a2 rh2) fun σh6 =>
        ms_b (f_X12_asks n σh6 (a1 + rh2) (a3 - rh2)) fun σh7 =>
        some σh7
set_option maxRecDepth 100000 in
set_option maxHeartbeats 4000000 in
theorem m_X12_waysIn (n : Nat) : ∀ (d : Nat) (Γ : hp_G) (l : Launch) (α : hp_T) (a0 : Nat) (ρ : Nat → Nat) (σ : ms_T) (hM : hm_M α a0 ρ σ) (a1 : Int32) (a2 : Int32) (a3 : Int32) (res : ms_T) (hf : f_X12_waysIn n d σ a1 a2 a3 = some res), Met l yX12_waysIn (hp_ws yX12_waysIn cX12_waysIn 5 none) (hp_rm (d + 0) 0 0) (hp_Pc Γ α [.ref a0, .int a1, .int a2, .int a3]) (hp_Qv Γ (fun β => mo α β ∧ hm_M β a0 ρ res)) 0 0 (hp_A Γ) := by
  intro d
  induction d with
  | zero => intro Γ l α a0 ρ σ hM a1 a2 a3 res hf; rw [f_X12_waysIn.eq_1] at hf; cases hf
  | succ d ihM =>
    intro Γ l α a0 ρ σ hM a1 a2 a3 res hf
    rw [f_X12_waysIn.eq_2] at hf
    refine hp_start (by decide) ?_
    intro p e s m below meth c C hr hlk B0 hnm
    have C : hp_C Γ p m c cX12_waysIn 5 s ([.ref a0, .int a1, .int a2, .int a3] : List Value).toArray RX12 := C
    have hx := C.1.1
    have hb := C.1.2.1
    have hown := C.1.2.2.2.1
    have hts := C.1.2.2.2.2
    have B : hp_B Γ mo s α α s.heap [] := ⟨B0.1, B0.2.1, mo_rf⟩
    have hl := lv_entry ([.ref a0, .int a1, .int a2, .int a3]) (n := 5) (Nat.le_of_ble_eq_true rfl)
    show W p l e (hp_rm (d + 1 + 0) 0 0) s m ([.ref a0, .int a1, .int a2, .int a3] : List Value).toArray below meth c s.heap [] 0 0 (MQ below (hp_Qv Γ (fun β => mo α β ∧ hm_M β a0 ρ res)) ([.ref a0, .int a1, .int a2, .int a3] : List Value).toArray s 0 0 (hp_A Γ)) (entryFrame m ([.ref a0, .int a1, .int a2, .int a3] : List Value).toArray 5)
    rw [lg_entry_eq]
    generalize (lg_sl ([.ref a0, .int a1, .int a2, .int a3]) ++ List.replicate (5 - (lg_sl ([.ref a0, .int a1, .int a2, .int a3])).length) Slot.unset).toArray = ls at hl ⊢
    have hl : lv_has ls 5 [(0, .ref a0), (1, .int a1), (2, .int a2), (3, .int a3)] := hl
    refine lv_iload_n hx hb dX12_waysIn_0 rfl (lv_at hl 3 rfl) (hp_n (n := 1) rfl ?_)
    refine lv_iconst (v := 1) hx hb dX12_waysIn_1 (by decide) (hp_n (n := 2) rfl ?_)
    refine lv_icmp_ne (tgt := 6) hx hb dX12_waysIn_2 (by decide) (fun c1 => ?_) (fun c1 => hp_n (n := 5) rfl ?_)
    ·
      replace hf := ms_iF c1 hf
      refine lv_iload_n hx hb dX12_waysIn_6 rfl (lv_at hl 3 rfl) (hp_n (n := 7) rfl ?_)
      obtain ⟨rh2, qh2, hf⟩ := ms_bE hf
      refine m_cp (pc' := 10) B (hp_runS (As := [.int a3]) (rest := []) C B (m_X12_part0 n Γ l α a3 rh2 qh2) lb_X12_part0 ls_X12_part0 lk_X12_128 rfl (by omega) rfl hl.1 rfl (Nat.le_of_ble_eq_true rfl) dX12_waysIn_7 ⟨Nat.le_refl _, Nat.le_refl _⟩) rfl (fun Hh2 Lh2 Bh2 => ?_)
      refine lv_istore (lv' := [(4, .int rh2), (0, .ref a0), (1, .int a1), (2, .int a2), (3, .int a3)]) hx hb dX12_waysIn_10 hl (by decide) rfl (fun ls hl => hp_n (n := 12) rfl ?_)
      refine lv_iload_n hx hb dX12_waysIn_12 rfl (lv_at hl 3 rfl) (hp_n (n := 13) rfl ?_)
      refine lv_iload hx hb dX12_waysIn_13 (lv_at hl 0 rfl) (hp_n (n := 15) rfl ?_)
      refine lv_icmp_ge (tgt := 41) hx hb dX12_waysIn_15 (by decide) (fun c3 => ?_) (fun c3 => hp_n (n := 18) rfl ?_)
      ·
        replace hf := ms_iT c3 hf
        refine lv_aload_n hx hb dX12_waysIn_41 rfl (lv_at hl 1 rfl) (hp_n (n := 42) rfl ?_)
        refine lv_iload_n hx hb dX12_waysIn_42 rfl (lv_at hl 2 rfl) (hp_n (n := 43) rfl ?_)
        refine lv_iload hx hb dX12_waysIn_43 (lv_at hl 0 rfl) (hp_n (n := 45) rfl ?_)
        refine lv_iadd hx hb dX12_waysIn_45 (hp_n (n := 46) rfl ?_)
        refine lv_iload_n hx hb dX12_waysIn_46 rfl (lv_at hl 3 rfl) (hp_n (n := 47) rfl ?_)
        refine lv_iload hx hb dX12_waysIn_47 (lv_at hl 0 rfl) (hp_n (n := 49) rfl ?_)
        refine lv_isub hx hb dX12_waysIn_49 (hp_n (n := 50) rfl ?_)
        refine lv_iload_n hx hb dX12_waysIn_50 rfl (lv_at hl 4 rfl) (hp_n (n := 51) rfl ?_)
        refine lv_iload hx hb dX12_waysIn_51 (lv_at hl 0 rfl) (hp_n (n := 53) rfl ?_)
        refine lv_isub hx hb dX12_waysIn_53 (hp_n (n := 54) rfl ?_)
        obtain ⟨σh4, qh4, hf⟩ := ms_bE hf
        refine m_cv (pc' := 57) (a := a0) (ρ := ρ) Bh2 (hp_runV (As := [.int (a1 + rh2), .int (a2 - rh2), .int (a3 - rh2)]) (rest := []) C Bh2 (ihM Γ l α a0 ρ σ hM (a1 + rh2) (a2 - rh2) (a3 - rh2) σh4 qh4) lb_X12_waysIn lv_X12_waysIn lk_X12_142 hM.1 rfl (by omega) rfl hl.1 rfl (Nat.le_of_ble_eq_true rfl) dX12_waysIn_54 ⟨Nat.le_refl _, Nat.le_refl _⟩) rfl (fun αh4 Hh4 Lh4 Bh4 Mh4 => ?_)
        refine lv_aload_n hx hb dX12_waysIn_57 rfl (lv_at hl 1 rfl) (hp_n (n := 58) rfl ?_)
        refine lv_iload_n hx hb dX12_waysIn_58 rfl (lv_at hl 2 rfl) (hp_n (n := 59) rfl ?_)
        refine lv_iload hx hb dX12_waysIn_59 (lv_at hl 0 rfl) (hp_n (n := 61) rfl ?_)
        obtain ⟨σh5, qh5, hf⟩ := ms_bE hf
        refine m_cv (pc' := 64) (a := a0) (ρ := ρ) Bh4 (hp_runV (As := [.int a1, .int rh2]) (rest := []) C Bh4 (m_X12_asks n Γ l αh4 a0 ρ σh4 Mh4 a1 rh2 σh5 qh5) lb_X12_asks lv_X12_asks lk_X12_146 Mh4.1 rfl (by omega) rfl hl.1 rfl (Nat.le_of_ble_eq_true rfl) dX12_waysIn_61 ⟨Nat.le_refl _, Nat.le_refl _⟩) rfl (fun αh5 Hh5 Lh5 Bh5 Mh5 => ?_)
        cases hf
        exact q_vret C Bh5 hr hlk ⟨Bh5.2.2, Mh5⟩ dX12_waysIn_64
      ·
        replace hf := ms_iF c3 hf
        refine lv_aload_n hx hb dX12_waysIn_18 rfl (lv_at hl 1 rfl) (hp_n (n := 19) rfl ?_)
        refine lv_iload_n hx hb dX12_waysIn_19 rfl (lv_at hl 2 rfl) (hp_n (n := 20) rfl ?_)
        refine lv_iload_n hx hb dX12_waysIn_20 rfl (lv_at hl 3 rfl) (hp_n (n := 21) rfl ?_)
        refine lv_iload hx hb dX12_waysIn_21 (lv_at hl 0 rfl) (hp_n (n := 23) rfl ?_)
        obtain ⟨σh6, qh6, hf⟩ := ms_bE hf
        refine m_cv (pc' := 26) (a := a0) (ρ := ρ) Bh2 (hp_runV (As := [.int a1, .int a2, .int rh2]) (rest := []) C Bh2 (ihM Γ l α a0 ρ σ hM a1 a2 rh2 σh6 qh6) lb_X12_waysIn lv_X12_waysIn lk_X12_142 hM.1 rfl (by omega) rfl hl.1 rfl (Nat.le_of_ble_eq_true rfl) dX12_waysIn_23 ⟨Nat.le_refl _, Nat.le_refl _⟩) rfl (fun αh6 Hh6 Lh6 Bh6 Mh6 => ?_)
        refine lv_aload_n hx hb dX12_waysIn_26 rfl (lv_at hl 1 rfl) (hp_n (n := 27) rfl ?_)
        refine lv_iload_n hx hb dX12_waysIn_27 rfl (lv_at hl 2 rfl) (hp_n (n := 28) rfl ?_)
        refine lv_iload hx hb dX12_waysIn_28 (lv_at hl 0 rfl) (hp_n (n := 30) rfl ?_)
        refine lv_iadd hx hb dX12_waysIn_30 (hp_n (n := 31) rfl ?_)
        refine lv_iload_n hx hb dX12_waysIn_31 rfl (lv_at hl 4 rfl) (hp_n (n := 32) rfl ?_)
        refine lv_iload hx hb dX12_waysIn_32 (lv_at hl 0 rfl) (hp_n (n := 34) rfl ?_)
        refine lv_isub hx hb dX12_waysIn_34 (hp_n (n := 35) rfl ?_)
        obtain ⟨σh7, qh7, hf⟩ := ms_bE hf
        refine m_cv (pc' := 38) (a := a0) (ρ := ρ) Bh6 (hp_runV (As := [.int (a1 + rh2), .int (a3 - rh2)]) (rest := []) C Bh6 (m_X12_asks n Γ l αh6 a0 ρ σh6 Mh6 (a1 + rh2) (a3 - rh2) σh7 qh7) lb_X12_asks lv_X12_asks lk_X12_146 Mh6.1 rfl (by omega) rfl hl.1 rfl (Nat.le_of_ble_eq_true rfl) dX12_waysIn_35 ⟨Nat.le_refl _, Nat.le_refl _⟩) rfl (fun αh7 Hh7 Lh7 Bh7 Mh7 => ?_)
        refine lv_goto (tgt := 64) hx hb dX12_waysIn_38 (by decide) ?_
        cases hf
        exact q_vret C Bh7 hr hlk ⟨Bh7.2.2, Mh7⟩ dX12_waysIn_64
    ·
      replace hf := ms_iT c1 hf
      cases hf
      exact q_vret C B hr hlk ⟨B.2.2, hM⟩ dX12_waysIn_5
def f_X12_inclusion (n : Nat) (σ : ms_T) (a1 : Int32) (a2 : Int32) : Option ms_T :=
  ms_l (ms_sI σ 657 (0 : Int32)) fun σh1 =>
  ms_b (f_X12_waysIn n 40 σh1 (0 : Int32) a1 a2) fun σh2 =>
  some σh2
set_option maxRecDepth 100000 in
set_option maxHeartbeats 4000000 in
theorem m_X12_inclusion (n : Nat) (Γ : hp_G) (l : Launch) (α : hp_T) (a0 : Nat) (ρ : Nat → Nat) (σ : ms_T) (hM : hm_M α a0 ρ σ) (a1 : Int32) (a2 : Int32) (res : ms_T) (hf : f_X12_inclusion n σ a1 a2 = some res) : Met l yX12_inclusion (hp_ws yX12_inclusion cX12_inclusion 3 none) (hp_rm 41 0 0) (hp_Pc Γ α [.ref a0, .int a1, .int a2]) (hp_Qv Γ (fun β => mo α β ∧ hm_M β a0 ρ res)) 0 0 (hp_A Γ) := by
  unfold f_X12_inclusion at hf
  refine hp_start (by decide) ?_
  intro p e s m below meth c C hr hlk B0 hnm
  have C : hp_C Γ p m c cX12_inclusion 3 s ([.ref a0, .int a1, .int a2] : List Value).toArray RX12 := C
  have hx := C.1.1
  have hb := C.1.2.1
  have hown := C.1.2.2.2.1
  have hts := C.1.2.2.2.2
  have B : hp_B Γ mo s α α s.heap [] := ⟨B0.1, B0.2.1, mo_rf⟩
  have hl := lv_entry ([.ref a0, .int a1, .int a2]) (n := 3) (Nat.le_of_ble_eq_true rfl)
  show W p l e (hp_rm 41 0 0) s m ([.ref a0, .int a1, .int a2] : List Value).toArray below meth c s.heap [] 0 0 (MQ below (hp_Qv Γ (fun β => mo α β ∧ hm_M β a0 ρ res)) ([.ref a0, .int a1, .int a2] : List Value).toArray s 0 0 (hp_A Γ)) (entryFrame m ([.ref a0, .int a1, .int a2] : List Value).toArray 3)
  rw [lg_entry_eq]
  generalize (lg_sl ([.ref a0, .int a1, .int a2]) ++ List.replicate (3 - (lg_sl ([.ref a0, .int a1, .int a2])).length) Slot.unset).toArray = ls at hl ⊢
  have hl : lv_has ls 3 [(0, .ref a0), (1, .int a1), (2, .int a2)] := hl
  refine lv_aload_n hx hb dX12_inclusion_0 rfl (lv_at hl 0 rfl) (hp_n (n := 1) rfl ?_)
  refine lv_iconst (v := 0) hx hb dX12_inclusion_1 (by decide) (hp_n (n := 2) rfl ?_)
  refine m_puti (k := 7) (φ := 657) (pc' := 5) C B hM fl_X12_139 rfl rfl rfl rfl rfl dX12_inclusion_2 rfl (fun αh1 Hh1 Lh1 σh1 eh1 Bh1 Mh1 => ?_)
  replace hf := ms_lE eh1 hf
  refine lv_aload_n hx hb dX12_inclusion_5 rfl (lv_at hl 0 rfl) (hp_n (n := 6) rfl ?_)
  refine lv_iconst (v := 0) hx hb dX12_inclusion_6 (by decide) (hp_n (n := 7) rfl ?_)
  refine lv_iload_n hx hb dX12_inclusion_7 rfl (lv_at hl 1 rfl) (hp_n (n := 8) rfl ?_)
  refine lv_iload_n hx hb dX12_inclusion_8 rfl (lv_at hl 2 rfl) (hp_n (n := 9) rfl ?_)
  obtain ⟨σh2, qh2, hf⟩ := ms_bE hf
  refine m_cv (pc' := 12) (a := a0) (ρ := ρ) Bh1 (hp_runV (As := [.int (0 : Int32), .int a1, .int a2]) (rest := []) C Bh1 (m_X12_waysIn n 40 Γ l αh1 a0 ρ σh1 Mh1 (0 : Int32) a1 a2 σh2 qh2) lb_X12_waysIn lv_X12_waysIn lk_X12_142 Mh1.1 rfl (by decide) rfl hl.1 rfl (Nat.le_of_ble_eq_true rfl) dX12_inclusion_9 ⟨Nat.le_refl _, Nat.le_refl _⟩) rfl (fun αh2 Hh2 Lh2 Bh2 Mh2 => ?_)
  cases hf
  exact q_vret C Bh2 hr hlk ⟨Bh2.2.2, Mh2⟩ dX12_inclusion_12
def f_X12_growsIn (n : Nat) : Nat → ms_T → Int32 → Int32 → Int32 → Int32 → Option ms_T
  | 0, _, _, _, _, _ => none
  | d + 1, σ, a1, a2, a3, a4 =>
    if a2 = a3 then
      if a4 = 0 then
        ms_b (f_X12_asks n σ a1 a3) fun σh9 =>
        some σh9
      else
        some σ
    else
      ms_b (f_X12_part0 n a3) fun rh2 =>
      if rh2 < a2 then
        ms_b ((f_X12_growsIn n d) σ (a1 + rh2) (a2 - rh2) (a3 - rh2) (0 : Int32)) fun σh4 =>
        ms_b (f_X12_asks n σh4 a1 rh2) fun σh5 =>
        some σh5
      else
        ms_b ((f_X12_growsIn n d) σ a1 a2 rh2 a4) fun σh6 =>
        ms_b (f_X12_asks n σh6 (a1 + rh2) (a3 - rh2)) fun σh7 =>
        some σh7
set_option maxRecDepth 100000 in
set_option maxHeartbeats 4000000 in
theorem m_X12_growsIn (n : Nat) : ∀ (d : Nat) (Γ : hp_G) (l : Launch) (α : hp_T) (a0 : Nat) (ρ : Nat → Nat) (σ : ms_T) (hM : hm_M α a0 ρ σ) (a1 : Int32) (a2 : Int32) (a3 : Int32) (a4 : Int32) (res : ms_T) (hf : f_X12_growsIn n d σ a1 a2 a3 a4 = some res), Met l yX12_growsIn (hp_ws yX12_growsIn cX12_growsIn 6 none) (hp_rm (d + 0) 0 0) (hp_Pc Γ α [.ref a0, .int a1, .int a2, .int a3, .int a4]) (hp_Qv Γ (fun β => mo α β ∧ hm_M β a0 ρ res)) 0 0 (hp_A Γ) := by
  intro d
  induction d with
  | zero => intro Γ l α a0 ρ σ hM a1 a2 a3 a4 res hf; rw [f_X12_growsIn.eq_1] at hf; cases hf
  | succ d ihM =>
    intro Γ l α a0 ρ σ hM a1 a2 a3 a4 res hf
    rw [f_X12_growsIn.eq_2] at hf
    refine hp_start (by decide) ?_
    intro p e s m below meth c C hr hlk B0 hnm
    have C : hp_C Γ p m c cX12_growsIn 6 s ([.ref a0, .int a1, .int a2, .int a3, .int a4] : List Value).toArray RX12 := C
    have hx := C.1.1
    have hb := C.1.2.1
    have hown := C.1.2.2.2.1
    have hts := C.1.2.2.2.2
    have B : hp_B Γ mo s α α s.heap [] := ⟨B0.1, B0.2.1, mo_rf⟩
    have hl := lv_entry ([.ref a0, .int a1, .int a2, .int a3, .int a4]) (n := 6) (Nat.le_of_ble_eq_true rfl)
    show W p l e (hp_rm (d + 1 + 0) 0 0) s m ([.ref a0, .int a1, .int a2, .int a3, .int a4] : List Value).toArray below meth c s.heap [] 0 0 (MQ below (hp_Qv Γ (fun β => mo α β ∧ hm_M β a0 ρ res)) ([.ref a0, .int a1, .int a2, .int a3, .int a4] : List Value).toArray s 0 0 (hp_A Γ)) (entryFrame m ([.ref a0, .int a1, .int a2, .int a3, .int a4] : List Value).toArray 6)
    rw [lg_entry_eq]
    generalize (lg_sl ([.ref a0, .int a1, .int a2, .int a3, .int a4]) ++ List.replicate (6 - (lg_sl ([.ref a0, .int a1, .int a2, .int a3, .int a4])).length) Slot.unset).toArray = ls at hl ⊢
    have hl : lv_has ls 6 [(0, .ref a0), (1, .int a1), (2, .int a2), (3, .int a3), (4, .int a4)] := hl
    refine lv_iload_n hx hb dX12_growsIn_0 rfl (lv_at hl 2 rfl) (hp_n (n := 1) rfl ?_)
    refine lv_iload_n hx hb dX12_growsIn_1 rfl (lv_at hl 3 rfl) (hp_n (n := 2) rfl ?_)
    refine lv_icmp_ne (tgt := 17) hx hb dX12_growsIn_2 (by decide) (fun c1 => ?_) (fun c1 => hp_n (n := 5) rfl ?_)
    ·
      replace hf := ms_iF c1 hf
      refine lv_iload_n hx hb dX12_growsIn_17 rfl (lv_at hl 3 rfl) (hp_n (n := 18) rfl ?_)
      obtain ⟨rh2, qh2, hf⟩ := ms_bE hf
      refine m_cp (pc' := 21) B (hp_runS (As := [.int a3]) (rest := []) C B (m_X12_part0 n Γ l α a3 rh2 qh2) lb_X12_part0 ls_X12_part0 lk_X12_128 rfl (by omega) rfl hl.1 rfl (Nat.le_of_ble_eq_true rfl) dX12_growsIn_18 ⟨Nat.le_refl _, Nat.le_refl _⟩) rfl (fun Hh2 Lh2 Bh2 => ?_)
      refine lv_istore (lv' := [(5, .int rh2), (0, .ref a0), (1, .int a1), (2, .int a2), (3, .int a3), (4, .int a4)]) hx hb dX12_growsIn_21 hl (by decide) rfl (fun ls hl => hp_n (n := 23) rfl ?_)
      refine lv_iload_n hx hb dX12_growsIn_23 rfl (lv_at hl 3 rfl) (hp_n (n := 24) rfl ?_)
      refine lv_iload hx hb dX12_growsIn_24 (lv_at hl 0 rfl) (hp_n (n := 26) rfl ?_)
      refine lv_icmp_gt (tgt := 54) hx hb dX12_growsIn_26 (by decide) (fun c3 => ?_) (fun c3 => hp_n (n := 29) rfl ?_)
      ·
        replace hf := ms_iT c3 hf
        refine lv_aload_n hx hb dX12_growsIn_54 rfl (lv_at hl 1 rfl) (hp_n (n := 55) rfl ?_)
        refine lv_iload_n hx hb dX12_growsIn_55 rfl (lv_at hl 2 rfl) (hp_n (n := 56) rfl ?_)
        refine lv_iload hx hb dX12_growsIn_56 (lv_at hl 0 rfl) (hp_n (n := 58) rfl ?_)
        refine lv_iadd hx hb dX12_growsIn_58 (hp_n (n := 59) rfl ?_)
        refine lv_iload_n hx hb dX12_growsIn_59 rfl (lv_at hl 3 rfl) (hp_n (n := 60) rfl ?_)
        refine lv_iload hx hb dX12_growsIn_60 (lv_at hl 0 rfl) (hp_n (n := 62) rfl ?_)
        refine lv_isub hx hb dX12_growsIn_62 (hp_n (n := 63) rfl ?_)
        refine lv_iload_n hx hb dX12_growsIn_63 rfl (lv_at hl 4 rfl) (hp_n (n := 64) rfl ?_)
        refine lv_iload hx hb dX12_growsIn_64 (lv_at hl 0 rfl) (hp_n (n := 66) rfl ?_)
        refine lv_isub hx hb dX12_growsIn_66 (hp_n (n := 67) rfl ?_)
        refine lv_iconst (v := 0) hx hb dX12_growsIn_67 (by decide) (hp_n (n := 68) rfl ?_)
        obtain ⟨σh4, qh4, hf⟩ := ms_bE hf
        refine m_cv (pc' := 71) (a := a0) (ρ := ρ) Bh2 (hp_runV (As := [.int (a1 + rh2), .int (a2 - rh2), .int (a3 - rh2), .int (0 : Int32)]) (rest := []) C Bh2 (ihM Γ l α a0 ρ σ hM (a1 + rh2) (a2 - rh2) (a3 - rh2) (0 : Int32) σh4 qh4) lb_X12_growsIn lv_X12_growsIn lk_X12_150 hM.1 rfl (by omega) rfl hl.1 rfl (Nat.le_of_ble_eq_true rfl) dX12_growsIn_68 ⟨Nat.le_refl _, Nat.le_refl _⟩) rfl (fun αh4 Hh4 Lh4 Bh4 Mh4 => ?_)
        refine lv_aload_n hx hb dX12_growsIn_71 rfl (lv_at hl 1 rfl) (hp_n (n := 72) rfl ?_)
        refine lv_iload_n hx hb dX12_growsIn_72 rfl (lv_at hl 2 rfl) (hp_n (n := 73) rfl ?_)
        refine lv_iload hx hb dX12_growsIn_73 (lv_at hl 0 rfl) (hp_n (n := 75) rfl ?_)
        obtain ⟨σh5, qh5, hf⟩ := ms_bE hf
        refine m_cv (pc' := 78) (a := a0) (ρ := ρ) Bh4 (hp_runV (As := [.int a1, .int rh2]) (rest := []) C Bh4 (m_X12_asks n Γ l αh4 a0 ρ σh4 Mh4 a1 rh2 σh5 qh5) lb_X12_asks lv_X12_asks lk_X12_146 Mh4.1 rfl (by omega) rfl hl.1 rfl (Nat.le_of_ble_eq_true rfl) dX12_growsIn_75 ⟨Nat.le_refl _, Nat.le_refl _⟩) rfl (fun αh5 Hh5 Lh5 Bh5 Mh5 => ?_)
        cases hf
        exact q_vret C Bh5 hr hlk ⟨Bh5.2.2, Mh5⟩ dX12_growsIn_78
      ·
        replace hf := ms_iF c3 hf
        refine lv_aload_n hx hb dX12_growsIn_29 rfl (lv_at hl 1 rfl) (hp_n (n := 30) rfl ?_)
        refine lv_iload_n hx hb dX12_growsIn_30 rfl (lv_at hl 2 rfl) (hp_n (n := 31) rfl ?_)
        refine lv_iload_n hx hb dX12_growsIn_31 rfl (lv_at hl 3 rfl) (hp_n (n := 32) rfl ?_)
        refine lv_iload hx hb dX12_growsIn_32 (lv_at hl 0 rfl) (hp_n (n := 34) rfl ?_)
        refine lv_iload hx hb dX12_growsIn_34 (lv_at hl 5 rfl) (hp_n (n := 36) rfl ?_)
        obtain ⟨σh6, qh6, hf⟩ := ms_bE hf
        refine m_cv (pc' := 39) (a := a0) (ρ := ρ) Bh2 (hp_runV (As := [.int a1, .int a2, .int rh2, .int a4]) (rest := []) C Bh2 (ihM Γ l α a0 ρ σ hM a1 a2 rh2 a4 σh6 qh6) lb_X12_growsIn lv_X12_growsIn lk_X12_150 hM.1 rfl (by omega) rfl hl.1 rfl (Nat.le_of_ble_eq_true rfl) dX12_growsIn_36 ⟨Nat.le_refl _, Nat.le_refl _⟩) rfl (fun αh6 Hh6 Lh6 Bh6 Mh6 => ?_)
        refine lv_aload_n hx hb dX12_growsIn_39 rfl (lv_at hl 1 rfl) (hp_n (n := 40) rfl ?_)
        refine lv_iload_n hx hb dX12_growsIn_40 rfl (lv_at hl 2 rfl) (hp_n (n := 41) rfl ?_)
        refine lv_iload hx hb dX12_growsIn_41 (lv_at hl 0 rfl) (hp_n (n := 43) rfl ?_)
        refine lv_iadd hx hb dX12_growsIn_43 (hp_n (n := 44) rfl ?_)
        refine lv_iload_n hx hb dX12_growsIn_44 rfl (lv_at hl 4 rfl) (hp_n (n := 45) rfl ?_)
        refine lv_iload hx hb dX12_growsIn_45 (lv_at hl 0 rfl) (hp_n (n := 47) rfl ?_)
        refine lv_isub hx hb dX12_growsIn_47 (hp_n (n := 48) rfl ?_)
        obtain ⟨σh7, qh7, hf⟩ := ms_bE hf
        refine m_cv (pc' := 51) (a := a0) (ρ := ρ) Bh6 (hp_runV (As := [.int (a1 + rh2), .int (a3 - rh2)]) (rest := []) C Bh6 (m_X12_asks n Γ l αh6 a0 ρ σh6 Mh6 (a1 + rh2) (a3 - rh2) σh7 qh7) lb_X12_asks lv_X12_asks lk_X12_146 Mh6.1 rfl (by omega) rfl hl.1 rfl (Nat.le_of_ble_eq_true rfl) dX12_growsIn_48 ⟨Nat.le_refl _, Nat.le_refl _⟩) rfl (fun αh7 Hh7 Lh7 Bh7 Mh7 => ?_)
        refine lv_goto (tgt := 78) hx hb dX12_growsIn_51 (by decide) ?_
        cases hf
        exact q_vret C Bh7 hr hlk ⟨Bh7.2.2, Mh7⟩ dX12_growsIn_78
    ·
      replace hf := ms_iT c1 hf
      refine lv_iload hx hb dX12_growsIn_5 (lv_at hl 4 rfl) (hp_n (n := 7) rfl ?_)
      refine lv_if_ne (tgt := 16) hx hb dX12_growsIn_7 (by decide) (fun c8 => ?_) (fun c8 => hp_n (n := 10) rfl ?_)
      ·
        replace hf := ms_iF c8 hf
        cases hf
        exact q_vret C B hr hlk ⟨B.2.2, hM⟩ dX12_growsIn_16
      ·
        replace hf := ms_iT c8 hf
        refine lv_aload_n hx hb dX12_growsIn_10 rfl (lv_at hl 0 rfl) (hp_n (n := 11) rfl ?_)
        refine lv_iload_n hx hb dX12_growsIn_11 rfl (lv_at hl 1 rfl) (hp_n (n := 12) rfl ?_)
        refine lv_iload_n hx hb dX12_growsIn_12 rfl (lv_at hl 3 rfl) (hp_n (n := 13) rfl ?_)
        obtain ⟨σh9, qh9, hf⟩ := ms_bE hf
        refine m_cv (pc' := 16) (a := a0) (ρ := ρ) B (hp_runV (As := [.int a1, .int a3]) (rest := []) C B (m_X12_asks n Γ l α a0 ρ σ hM a1 a3 σh9 qh9) lb_X12_asks lv_X12_asks lk_X12_146 hM.1 rfl (by omega) rfl hl.1 rfl (Nat.le_of_ble_eq_true rfl) dX12_growsIn_13 ⟨Nat.le_refl _, Nat.le_refl _⟩) rfl (fun αh9 Hh9 Lh9 Bh9 Mh9 => ?_)
        cases hf
        exact q_vret C Bh9 hr hlk ⟨Bh9.2.2, Mh9⟩ dX12_growsIn_16
def f_X12_growth (n : Nat) (σ : ms_T) (a1 : Int32) (a2 : Int32) : Option ms_T :=
  ms_l (ms_sI σ 657 (0 : Int32)) fun σh1 =>
  if a1 ≤ 0 then
    some σh1
  else
    if a2 ≤ a1 then
      some σh1
    else
      ms_b (f_X12_growsIn n 40 σh1 (0 : Int32) a1 a2 (1 : Int32)) fun σh4 =>
      some σh4
set_option maxRecDepth 100000 in
set_option maxHeartbeats 4000000 in
theorem m_X12_growth (n : Nat) (Γ : hp_G) (l : Launch) (α : hp_T) (a0 : Nat) (ρ : Nat → Nat) (σ : ms_T) (hM : hm_M α a0 ρ σ) (a1 : Int32) (a2 : Int32) (res : ms_T) (hf : f_X12_growth n σ a1 a2 = some res) : Met l yX12_growth (hp_ws yX12_growth cX12_growth 3 none) (hp_rm 41 0 0) (hp_Pc Γ α [.ref a0, .int a1, .int a2]) (hp_Qv Γ (fun β => mo α β ∧ hm_M β a0 ρ res)) 0 0 (hp_A Γ) := by
  unfold f_X12_growth at hf
  refine hp_start (by decide) ?_
  intro p e s m below meth c C hr hlk B0 hnm
  have C : hp_C Γ p m c cX12_growth 3 s ([.ref a0, .int a1, .int a2] : List Value).toArray RX12 := C
  have hx := C.1.1
  have hb := C.1.2.1
  have hown := C.1.2.2.2.1
  have hts := C.1.2.2.2.2
  have B : hp_B Γ mo s α α s.heap [] := ⟨B0.1, B0.2.1, mo_rf⟩
  have hl := lv_entry ([.ref a0, .int a1, .int a2]) (n := 3) (Nat.le_of_ble_eq_true rfl)
  show W p l e (hp_rm 41 0 0) s m ([.ref a0, .int a1, .int a2] : List Value).toArray below meth c s.heap [] 0 0 (MQ below (hp_Qv Γ (fun β => mo α β ∧ hm_M β a0 ρ res)) ([.ref a0, .int a1, .int a2] : List Value).toArray s 0 0 (hp_A Γ)) (entryFrame m ([.ref a0, .int a1, .int a2] : List Value).toArray 3)
  rw [lg_entry_eq]
  generalize (lg_sl ([.ref a0, .int a1, .int a2]) ++ List.replicate (3 - (lg_sl ([.ref a0, .int a1, .int a2])).length) Slot.unset).toArray = ls at hl ⊢
  have hl : lv_has ls 3 [(0, .ref a0), (1, .int a1), (2, .int a2)] := hl
  refine lv_aload_n hx hb dX12_growth_0 rfl (lv_at hl 0 rfl) (hp_n (n := 1) rfl ?_)
  refine lv_iconst (v := 0) hx hb dX12_growth_1 (by decide) (hp_n (n := 2) rfl ?_)
  refine m_puti (k := 7) (φ := 657) (pc' := 5) C B hM fl_X12_139 rfl rfl rfl rfl rfl dX12_growth_2 rfl (fun αh1 Hh1 Lh1 σh1 eh1 Bh1 Mh1 => ?_)
  replace hf := ms_lE eh1 hf
  refine lv_iload_n hx hb dX12_growth_5 rfl (lv_at hl 1 rfl) (hp_n (n := 6) rfl ?_)
  refine lv_if_le (tgt := 22) hx hb dX12_growth_6 (by decide) (fun c2 => ?_) (fun c2 => hp_n (n := 9) rfl ?_)
  ·
    replace hf := ms_iT c2 hf
    cases hf
    exact q_vret C Bh1 hr hlk ⟨Bh1.2.2, Mh1⟩ dX12_growth_22
  ·
    replace hf := ms_iF c2 hf
    refine lv_iload_n hx hb dX12_growth_9 rfl (lv_at hl 1 rfl) (hp_n (n := 10) rfl ?_)
    refine lv_iload_n hx hb dX12_growth_10 rfl (lv_at hl 2 rfl) (hp_n (n := 11) rfl ?_)
    refine lv_icmp_ge (tgt := 22) hx hb dX12_growth_11 (by decide) (fun c3 => ?_) (fun c3 => hp_n (n := 14) rfl ?_)
    ·
      replace hf := ms_iT c3 hf
      cases hf
      exact q_vret C Bh1 hr hlk ⟨Bh1.2.2, Mh1⟩ dX12_growth_22
    ·
      replace hf := ms_iF c3 hf
      refine lv_aload_n hx hb dX12_growth_14 rfl (lv_at hl 0 rfl) (hp_n (n := 15) rfl ?_)
      refine lv_iconst (v := 0) hx hb dX12_growth_15 (by decide) (hp_n (n := 16) rfl ?_)
      refine lv_iload_n hx hb dX12_growth_16 rfl (lv_at hl 1 rfl) (hp_n (n := 17) rfl ?_)
      refine lv_iload_n hx hb dX12_growth_17 rfl (lv_at hl 2 rfl) (hp_n (n := 18) rfl ?_)
      refine lv_iconst (v := 1) hx hb dX12_growth_18 (by decide) (hp_n (n := 19) rfl ?_)
      obtain ⟨σh4, qh4, hf⟩ := ms_bE hf
      refine m_cv (pc' := 22) (a := a0) (ρ := ρ) Bh1 (hp_runV (As := [.int (0 : Int32), .int a1, .int a2, .int (1 : Int32)]) (rest := []) C Bh1 (m_X12_growsIn n 40 Γ l αh1 a0 ρ σh1 Mh1 (0 : Int32) a1 a2 (1 : Int32) σh4 qh4) lb_X12_growsIn lv_X12_growsIn lk_X12_150 Mh1.1 rfl (by decide) rfl hl.1 rfl (Nat.le_of_ble_eq_true rfl) dX12_growth_19 ⟨Nat.le_refl _, Nat.le_refl _⟩) rfl (fun αh4 Hh4 Lh4 Bh4 Mh4 => ?_)
      cases hf
      exact q_vret C Bh4 hr hlk ⟨Bh4.2.2, Mh4⟩ dX12_growth_22
def f_X12_hasAny_J31 (n : Nat) (rec2 : Int32 → Int32 → Int32 → Int32 → Option Int32) (v0_h3 : Int32) (v1_h3 : Int32) (v2_h3 : Int32) (v3_h3 : Int32) : Option Int32 :=
  ms_l (v3_h3 + 1) fun x4 =>
  rec2 v0_h3 v1_h3 v2_h3 x4
def f_X12_hasAny_L2 (n : Nat) : Nat → Int32 → Int32 → Int32 → Int32 → Option Int32
  | 0, _, _, _, _ => none
  | k2 + 1, v0_h1, v1_h1, v2_h1, v3_h1 =>
    if (30 : Int32) ≤ v3_h1 then
      some (0 : Int32)
    else
      if ((v0_h1 >>> (v3_h1 &&& 31)) &&& (1 : Int32)) = (1 : Int32) then
        if v3_h1 < v1_h1 then
          f_X12_hasAny_J31 n (f_X12_hasAny_L2 n k2) v0_h1 v1_h1 v2_h1 v3_h1
        else
          if v2_h1 ≤ (v3_h1 - v1_h1) then
            f_X12_hasAny_J31 n (f_X12_hasAny_L2 n k2) v0_h1 v1_h1 v2_h1 v3_h1
          else
            some (1 : Int32)
      else
        f_X12_hasAny_J31 n (f_X12_hasAny_L2 n k2) v0_h1 v1_h1 v2_h1 v3_h1
def f_X12_hasAny (n : Nat) (a0 : Int32) (a1 : Int32) (a2 : Int32) : Option Int32 :=
  f_X12_hasAny_L2 n n a0 a1 a2 (0 : Int32)
set_option maxRecDepth 100000 in
set_option maxHeartbeats 4000000 in
theorem m_X12_hasAny (n : Nat) (Γ : hp_G) (l : Launch) (α : hp_T) (a0 : Int32) (a1 : Int32) (a2 : Int32) (res : Int32) (hf : f_X12_hasAny n a0 a1 a2 = some res) : Met l yX12_hasAny (hp_ws yX12_hasAny cX12_hasAny 4 (some .boolean)) (hp_rm 0 0 0) (hp_Pc Γ α [.int a0, .int a1, .int a2]) (hp_Qi Γ (fun r β => β = α ∧ r = res)) 0 0 (hp_A Γ) := by
  unfold f_X12_hasAny at hf
  refine hp_start (by decide) ?_
  intro p e s m below meth c C hr hlk B0 hnm
  have C : hp_C Γ p m c cX12_hasAny 4 s ([.int a0, .int a1, .int a2] : List Value).toArray RX12 := C
  have hx := C.1.1
  have hb := C.1.2.1
  have hown := C.1.2.2.2.1
  have hts := C.1.2.2.2.2
  have B : hp_B Γ (fun _ _ => True) s α α s.heap [] := ⟨B0.1, B0.2.1, trivial⟩
  have hl := lv_entry ([.int a0, .int a1, .int a2]) (n := 4) (Nat.le_of_ble_eq_true rfl)
  show W p l e (hp_rm 0 0 0) s m ([.int a0, .int a1, .int a2] : List Value).toArray below meth c s.heap [] 0 0 (MQ below (hp_Qi Γ (fun r β => β = α ∧ r = res)) ([.int a0, .int a1, .int a2] : List Value).toArray s 0 0 (hp_A Γ)) (entryFrame m ([.int a0, .int a1, .int a2] : List Value).toArray 4)
  rw [lg_entry_eq]
  generalize (lg_sl ([.int a0, .int a1, .int a2]) ++ List.replicate (4 - (lg_sl ([.int a0, .int a1, .int a2])).length) Slot.unset).toArray = ls at hl ⊢
  have hl : lv_has ls 4 [(0, .int a0), (1, .int a1), (2, .int a2)] := hl
  refine lv_iconst (v := 0) hx hb dX12_hasAny_0 (by decide) (hp_n (n := 1) rfl ?_)
  have J2 : ∀ (k2 : Nat) (Hh1 : Heap) (Lh1 : List Loc) (Bh1 : hp_B Γ (fun _ _ => True) s α α Hh1 Lh1) (v0_h1 : Int32) (v1_h1 : Int32) (v2_h1 : Int32) (v3_h1 : Int32) (ls : Array Slot) (hl : lv_has ls 4 [(0, .int v0_h1), (1, .int v1_h1), (2, .int v2_h1), (3, .int v3_h1)]) (hf : f_X12_hasAny_L2 n k2 v0_h1 v1_h1 v2_h1 v3_h1 = some res), W p l e (hp_rm 0 0 0) s m ([.int a0, .int a1, .int a2] : List Value).toArray below meth c Hh1 Lh1 0 0 (MQ below (hp_Qi Γ (fun r β => β = α ∧ r = res)) ([.int a0, .int a1, .int a2] : List Value).toArray s 0 0 (hp_A Γ)) (F0 m 2 ls []) := by
    intro k2
    induction k2 with
    | zero => intro Hh1 Lh1 Bh1 v0_h1 v1_h1 v2_h1 v3_h1 ls hl hf; rw [f_X12_hasAny_L2.eq_1] at hf; cases hf
    | succ k2 ih2 =>
      intro Hh1 Lh1 Bh1 v0_h1 v1_h1 v2_h1 v3_h1 ls hl hf
      rw [f_X12_hasAny_L2.eq_2] at hf
      refine lv_iload_n hx hb dX12_hasAny_2 rfl (lv_at hl 3 rfl) (hp_n (n := 3) rfl ?_)
      refine lv_bipush (v := 30) hx hb dX12_hasAny_3 (by decide) (hp_n (n := 5) rfl ?_)
      refine lv_icmp_ge (tgt := 37) hx hb dX12_hasAny_5 (by decide) (fun c2 => ?_) (fun c2 => hp_n (n := 8) rfl ?_)
      ·
        replace hf := ms_iT c2 hf
        refine lv_iconst (v := 0) hx hb dX12_hasAny_37 (by decide) (hp_n (n := 38) rfl ?_)
        cases hf
        exact q_zret C Bh1 hr hlk (by decide) ⟨rfl, rfl⟩ dX12_hasAny_38
      ·
        replace hf := ms_iF c2 hf
        refine lv_iload_n hx hb dX12_hasAny_8 rfl (lv_at hl 0 rfl) (hp_n (n := 9) rfl ?_)
        refine lv_iload_n hx hb dX12_hasAny_9 rfl (lv_at hl 3 rfl) (hp_n (n := 10) rfl ?_)
        refine lv_ishr hx hb dX12_hasAny_10 (hp_n (n := 11) rfl ?_)
        refine lv_iconst (v := 1) hx hb dX12_hasAny_11 (by decide) (hp_n (n := 12) rfl ?_)
        refine lv_iand hx hb dX12_hasAny_12 (hp_n (n := 13) rfl ?_)
        refine lv_iconst (v := 1) hx hb dX12_hasAny_13 (by decide) (hp_n (n := 14) rfl ?_)
        have J31 : ∀ (Hh3 : Heap) (Lh3 : List Loc) (Bh3 : hp_B Γ (fun _ _ => True) s α α Hh3 Lh3) (v0_h3 : Int32) (v1_h3 : Int32) (v2_h3 : Int32) (v3_h3 : Int32) (ls : Array Slot) (hl : lv_has ls 4 [(0, .int v0_h3), (1, .int v1_h3), (2, .int v2_h3), (3, .int v3_h3)]) (hf : f_X12_hasAny_J31 n (f_X12_hasAny_L2 n k2) v0_h3 v1_h3 v2_h3 v3_h3 = some res), W p l e (hp_rm 0 0 0) s m ([.int a0, .int a1, .int a2] : List Value).toArray below meth c Hh3 Lh3 0 0 (MQ below (hp_Qi Γ (fun r β => β = α ∧ r = res)) ([.int a0, .int a1, .int a2] : List Value).toArray s 0 0 (hp_A Γ)) (F0 m 31 ls []) := by
          intro Hh3 Lh3 Bh3 v0_h3 v1_h3 v2_h3 v3_h3 ls hl hf
          unfold f_X12_hasAny_J31 at hf
          obtain ⟨x4, ex4⟩ : ∃ y : Int32, y = v3_h3 + 1 := ⟨_, rfl⟩
          replace hf := ms_lE ex4 hf
          refine lv_iinc (v := x4) (lv' := [(3, .int x4), (0, .int v0_h3), (1, .int v1_h3), (2, .int v2_h3)]) hx hb dX12_hasAny_31 hl (k := 3) rfl (by rw [ex4]; rfl) (by decide) rfl (fun ls hl => hp_n (n := 34) rfl ?_)
          refine lv_goto (tgt := 2) hx hb dX12_hasAny_34 (by decide) ?_
          exact ih2 Hh3 Lh3 Bh3 v0_h3 v1_h3 v2_h3 x4 ls (lv_sub hl [1, 2, 3, 0] rfl) hf
        refine lv_icmp_ne (tgt := 31) hx hb dX12_hasAny_14 (by decide) (fun c5 => ?_) (fun c5 => hp_n (n := 17) rfl ?_)
        ·
          replace hf := ms_iF c5 hf
          exact J31 Hh1 Lh1 Bh1 v0_h1 v1_h1 v2_h1 v3_h1 ls (lv_sub hl [0, 1, 2, 3] rfl) hf
        ·
          replace hf := ms_iT c5 hf
          refine lv_iload_n hx hb dX12_hasAny_17 rfl (lv_at hl 3 rfl) (hp_n (n := 18) rfl ?_)
          refine lv_iload_n hx hb dX12_hasAny_18 rfl (lv_at hl 1 rfl) (hp_n (n := 19) rfl ?_)
          refine lv_icmp_lt (tgt := 31) hx hb dX12_hasAny_19 (by decide) (fun c6 => ?_) (fun c6 => hp_n (n := 22) rfl ?_)
          ·
            replace hf := ms_iT c6 hf
            exact J31 Hh1 Lh1 Bh1 v0_h1 v1_h1 v2_h1 v3_h1 ls (lv_sub hl [0, 1, 2, 3] rfl) hf
          ·
            replace hf := ms_iF c6 hf
            refine lv_iload_n hx hb dX12_hasAny_22 rfl (lv_at hl 3 rfl) (hp_n (n := 23) rfl ?_)
            refine lv_iload_n hx hb dX12_hasAny_23 rfl (lv_at hl 1 rfl) (hp_n (n := 24) rfl ?_)
            refine lv_isub hx hb dX12_hasAny_24 (hp_n (n := 25) rfl ?_)
            refine lv_iload_n hx hb dX12_hasAny_25 rfl (lv_at hl 2 rfl) (hp_n (n := 26) rfl ?_)
            refine lv_icmp_ge (tgt := 31) hx hb dX12_hasAny_26 (by decide) (fun c7 => ?_) (fun c7 => hp_n (n := 29) rfl ?_)
            ·
              replace hf := ms_iT c7 hf
              exact J31 Hh1 Lh1 Bh1 v0_h1 v1_h1 v2_h1 v3_h1 ls (lv_sub hl [0, 1, 2, 3] rfl) hf
            ·
              replace hf := ms_iF c7 hf
              refine lv_iconst (v := 1) hx hb dX12_hasAny_29 (by decide) (hp_n (n := 30) rfl ?_)
              cases hf
              exact q_zret C Bh1 hr hlk (by decide) ⟨rfl, rfl⟩ dX12_hasAny_30
  refine lv_istore_n (lv' := [(3, .int (0 : Int32)), (0, .int a0), (1, .int a1), (2, .int a2)]) hx hb dX12_hasAny_1 rfl hl (by decide) rfl (fun ls hl => hp_n (n := 2) rfl ?_)
  exact J2 n s.heap [] B a0 a1 a2 (0 : Int32) ls (lv_sub hl [1, 2, 3, 0] rfl) hf
def f_X12_bundlesIn (n : Nat) : Nat → ms_T → Int32 → Int32 → Int32 → Option ms_T
  | 0, _, _, _, _ => none
  | d + 1, σ, a1, a2, a3 =>
    ms_b (f_X12_hasAny n a1 a2 a3) fun rh1 =>
    if rh1 = 0 then
      ms_b (f_X12_asks n σ a2 a3) fun σh7 =>
      some σh7
    else
      if a3 = (1 : Int32) then
        some σ
      else
        ms_b (f_X12_part0 n a3) fun rh4 =>
        ms_b ((f_X12_bundlesIn n d) σ a1 a2 rh4) fun σh5 =>
        ms_b ((f_X12_bundlesIn n d) σh5 a1 (a2 + rh4) (a3 - rh4)) fun σh6 =>
        some σh6
set_option maxRecDepth 100000 in
set_option maxHeartbeats 4000000 in
theorem m_X12_bundlesIn (n : Nat) : ∀ (d : Nat) (Γ : hp_G) (l : Launch) (α : hp_T) (a0 : Nat) (ρ : Nat → Nat) (σ : ms_T) (hM : hm_M α a0 ρ σ) (a1 : Int32) (a2 : Int32) (a3 : Int32) (res : ms_T) (hf : f_X12_bundlesIn n d σ a1 a2 a3 = some res), Met l yX12_bundlesIn (hp_ws yX12_bundlesIn cX12_bundlesIn 5 none) (hp_rm (d + 0) 0 0) (hp_Pc Γ α [.ref a0, .int a1, .int a2, .int a3]) (hp_Qv Γ (fun β => mo α β ∧ hm_M β a0 ρ res)) 0 0 (hp_A Γ) := by
  intro d
  induction d with
  | zero => intro Γ l α a0 ρ σ hM a1 a2 a3 res hf; rw [f_X12_bundlesIn.eq_1] at hf; cases hf
  | succ d ihM =>
    intro Γ l α a0 ρ σ hM a1 a2 a3 res hf
    rw [f_X12_bundlesIn.eq_2] at hf
    refine hp_start (by decide) ?_
    intro p e s m below meth c C hr hlk B0 hnm
    have C : hp_C Γ p m c cX12_bundlesIn 5 s ([.ref a0, .int a1, .int a2, .int a3] : List Value).toArray RX12 := C
    have hx := C.1.1
    have hb := C.1.2.1
    have hown := C.1.2.2.2.1
    have hts := C.1.2.2.2.2
    have B : hp_B Γ mo s α α s.heap [] := ⟨B0.1, B0.2.1, mo_rf⟩
    have hl := lv_entry ([.ref a0, .int a1, .int a2, .int a3]) (n := 5) (Nat.le_of_ble_eq_true rfl)
    show W p l e (hp_rm (d + 1 + 0) 0 0) s m ([.ref a0, .int a1, .int a2, .int a3] : List Value).toArray below meth c s.heap [] 0 0 (MQ below (hp_Qv Γ (fun β => mo α β ∧ hm_M β a0 ρ res)) ([.ref a0, .int a1, .int a2, .int a3] : List Value).toArray s 0 0 (hp_A Γ)) (entryFrame m ([.ref a0, .int a1, .int a2, .int a3] : List Value).toArray 5)
    rw [lg_entry_eq]
    generalize (lg_sl ([.ref a0, .int a1, .int a2, .int a3]) ++ List.replicate (5 - (lg_sl ([.ref a0, .int a1, .int a2, .int a3])).length) Slot.unset).toArray = ls at hl ⊢
    have hl : lv_has ls 5 [(0, .ref a0), (1, .int a1), (2, .int a2), (3, .int a3)] := hl
    refine lv_iload_n hx hb dX12_bundlesIn_0 rfl (lv_at hl 1 rfl) (hp_n (n := 1) rfl ?_)
    refine lv_iload_n hx hb dX12_bundlesIn_1 rfl (lv_at hl 2 rfl) (hp_n (n := 2) rfl ?_)
    refine lv_iload_n hx hb dX12_bundlesIn_2 rfl (lv_at hl 3 rfl) (hp_n (n := 3) rfl ?_)
    obtain ⟨rh1, qh1, hf⟩ := ms_bE hf
    refine m_cp (pc' := 6) B (hp_runS (As := [.int a1, .int a2, .int a3]) (rest := []) C B (m_X12_hasAny n Γ l α a1 a2 a3 rh1 qh1) lb_X12_hasAny ls_X12_hasAny lk_X12_154 rfl (by omega) rfl hl.1 rfl (Nat.le_of_ble_eq_true rfl) dX12_bundlesIn_3 ⟨Nat.le_refl _, Nat.le_refl _⟩) rfl (fun Hh1 Lh1 Bh1 => ?_)
    refine lv_if_ne (tgt := 16) hx hb dX12_bundlesIn_6 (by decide) (fun c2 => ?_) (fun c2 => hp_n (n := 9) rfl ?_)
    ·
      replace hf := ms_iF c2 hf
      refine lv_iload_n hx hb dX12_bundlesIn_16 rfl (lv_at hl 3 rfl) (hp_n (n := 17) rfl ?_)
      refine lv_iconst (v := 1) hx hb dX12_bundlesIn_17 (by decide) (hp_n (n := 18) rfl ?_)
      refine lv_icmp_ne (tgt := 22) hx hb dX12_bundlesIn_18 (by decide) (fun c3 => ?_) (fun c3 => hp_n (n := 21) rfl ?_)
      ·
        replace hf := ms_iF c3 hf
        refine lv_iload_n hx hb dX12_bundlesIn_22 rfl (lv_at hl 3 rfl) (hp_n (n := 23) rfl ?_)
        obtain ⟨rh4, qh4, hf⟩ := ms_bE hf
        refine m_cp (pc' := 26) Bh1 (hp_runS (As := [.int a3]) (rest := []) C Bh1 (m_X12_part0 n Γ l α a3 rh4 qh4) lb_X12_part0 ls_X12_part0 lk_X12_128 rfl (by omega) rfl hl.1 rfl (Nat.le_of_ble_eq_true rfl) dX12_bundlesIn_23 ⟨Nat.le_refl _, Nat.le_refl _⟩) rfl (fun Hh4 Lh4 Bh4 => ?_)
        refine lv_istore (lv' := [(4, .int rh4), (0, .ref a0), (1, .int a1), (2, .int a2), (3, .int a3)]) hx hb dX12_bundlesIn_26 hl (by decide) rfl (fun ls hl => hp_n (n := 28) rfl ?_)
        refine lv_aload_n hx hb dX12_bundlesIn_28 rfl (lv_at hl 1 rfl) (hp_n (n := 29) rfl ?_)
        refine lv_iload_n hx hb dX12_bundlesIn_29 rfl (lv_at hl 2 rfl) (hp_n (n := 30) rfl ?_)
        refine lv_iload_n hx hb dX12_bundlesIn_30 rfl (lv_at hl 3 rfl) (hp_n (n := 31) rfl ?_)
        refine lv_iload hx hb dX12_bundlesIn_31 (lv_at hl 0 rfl) (hp_n (n := 33) rfl ?_)
        obtain ⟨σh5, qh5, hf⟩ := ms_bE hf
        refine m_cv (pc' := 36) (a := a0) (ρ := ρ) Bh4 (hp_runV (As := [.int a1, .int a2, .int rh4]) (rest := []) C Bh4 (ihM Γ l α a0 ρ σ hM a1 a2 rh4 σh5 qh5) lb_X12_bundlesIn lv_X12_bundlesIn lk_X12_157 hM.1 rfl (by omega) rfl hl.1 rfl (Nat.le_of_ble_eq_true rfl) dX12_bundlesIn_33 ⟨Nat.le_refl _, Nat.le_refl _⟩) rfl (fun αh5 Hh5 Lh5 Bh5 Mh5 => ?_)
        refine lv_aload_n hx hb dX12_bundlesIn_36 rfl (lv_at hl 1 rfl) (hp_n (n := 37) rfl ?_)
        refine lv_iload_n hx hb dX12_bundlesIn_37 rfl (lv_at hl 2 rfl) (hp_n (n := 38) rfl ?_)
        refine lv_iload_n hx hb dX12_bundlesIn_38 rfl (lv_at hl 3 rfl) (hp_n (n := 39) rfl ?_)
        refine lv_iload hx hb dX12_bundlesIn_39 (lv_at hl 0 rfl) (hp_n (n := 41) rfl ?_)
        refine lv_iadd hx hb dX12_bundlesIn_41 (hp_n (n := 42) rfl ?_)
        refine lv_iload_n hx hb dX12_bundlesIn_42 rfl (lv_at hl 4 rfl) (hp_n (n := 43) rfl ?_)
        refine lv_iload hx hb dX12_bundlesIn_43 (lv_at hl 0 rfl) (hp_n (n := 45) rfl ?_)
        refine lv_isub hx hb dX12_bundlesIn_45 (hp_n (n := 46) rfl ?_)
        obtain ⟨σh6, qh6, hf⟩ := ms_bE hf
        refine m_cv (pc' := 49) (a := a0) (ρ := ρ) Bh5 (hp_runV (As := [.int a1, .int (a2 + rh4), .int (a3 - rh4)]) (rest := []) C Bh5 (ihM Γ l αh5 a0 ρ σh5 Mh5 a1 (a2 + rh4) (a3 - rh4) σh6 qh6) lb_X12_bundlesIn lv_X12_bundlesIn lk_X12_157 Mh5.1 rfl (by omega) rfl hl.1 rfl (Nat.le_of_ble_eq_true rfl) dX12_bundlesIn_46 ⟨Nat.le_refl _, Nat.le_refl _⟩) rfl (fun αh6 Hh6 Lh6 Bh6 Mh6 => ?_)
        cases hf
        exact q_vret C Bh6 hr hlk ⟨Bh6.2.2, Mh6⟩ dX12_bundlesIn_49
      ·
        replace hf := ms_iT c3 hf
        cases hf
        exact q_vret C Bh1 hr hlk ⟨Bh1.2.2, hM⟩ dX12_bundlesIn_21
    ·
      replace hf := ms_iT c2 hf
      refine lv_aload_n hx hb dX12_bundlesIn_9 rfl (lv_at hl 0 rfl) (hp_n (n := 10) rfl ?_)
      refine lv_iload_n hx hb dX12_bundlesIn_10 rfl (lv_at hl 2 rfl) (hp_n (n := 11) rfl ?_)
      refine lv_iload_n hx hb dX12_bundlesIn_11 rfl (lv_at hl 3 rfl) (hp_n (n := 12) rfl ?_)
      obtain ⟨σh7, qh7, hf⟩ := ms_bE hf
      refine m_cv (pc' := 15) (a := a0) (ρ := ρ) Bh1 (hp_runV (As := [.int a2, .int a3]) (rest := []) C Bh1 (m_X12_asks n Γ l α a0 ρ σ hM a2 a3 σh7 qh7) lb_X12_asks lv_X12_asks lk_X12_146 hM.1 rfl (by omega) rfl hl.1 rfl (Nat.le_of_ble_eq_true rfl) dX12_bundlesIn_12 ⟨Nat.le_refl _, Nat.le_refl _⟩) rfl (fun αh7 Hh7 Lh7 Bh7 Mh7 => ?_)
      cases hf
      exact q_vret C Bh7 hr hlk ⟨Bh7.2.2, Mh7⟩ dX12_bundlesIn_15
def f_X12_bundleOf (n : Nat) (σ : ms_T) (a1 : Int32) (a2 : Int32) : Option ms_T :=
  ms_l (ms_sI σ 657 (0 : Int32)) fun σh1 =>
  ms_b (f_X12_bundlesIn n 40 σh1 a1 (0 : Int32) a2) fun σh2 =>
  some σh2
set_option maxRecDepth 100000 in
set_option maxHeartbeats 4000000 in
theorem m_X12_bundleOf (n : Nat) (Γ : hp_G) (l : Launch) (α : hp_T) (a0 : Nat) (ρ : Nat → Nat) (σ : ms_T) (hM : hm_M α a0 ρ σ) (a1 : Int32) (a2 : Int32) (res : ms_T) (hf : f_X12_bundleOf n σ a1 a2 = some res) : Met l yX12_bundleOf (hp_ws yX12_bundleOf cX12_bundleOf 3 none) (hp_rm 41 0 0) (hp_Pc Γ α [.ref a0, .int a1, .int a2]) (hp_Qv Γ (fun β => mo α β ∧ hm_M β a0 ρ res)) 0 0 (hp_A Γ) := by
  unfold f_X12_bundleOf at hf
  refine hp_start (by decide) ?_
  intro p e s m below meth c C hr hlk B0 hnm
  have C : hp_C Γ p m c cX12_bundleOf 3 s ([.ref a0, .int a1, .int a2] : List Value).toArray RX12 := C
  have hx := C.1.1
  have hb := C.1.2.1
  have hown := C.1.2.2.2.1
  have hts := C.1.2.2.2.2
  have B : hp_B Γ mo s α α s.heap [] := ⟨B0.1, B0.2.1, mo_rf⟩
  have hl := lv_entry ([.ref a0, .int a1, .int a2]) (n := 3) (Nat.le_of_ble_eq_true rfl)
  show W p l e (hp_rm 41 0 0) s m ([.ref a0, .int a1, .int a2] : List Value).toArray below meth c s.heap [] 0 0 (MQ below (hp_Qv Γ (fun β => mo α β ∧ hm_M β a0 ρ res)) ([.ref a0, .int a1, .int a2] : List Value).toArray s 0 0 (hp_A Γ)) (entryFrame m ([.ref a0, .int a1, .int a2] : List Value).toArray 3)
  rw [lg_entry_eq]
  generalize (lg_sl ([.ref a0, .int a1, .int a2]) ++ List.replicate (3 - (lg_sl ([.ref a0, .int a1, .int a2])).length) Slot.unset).toArray = ls at hl ⊢
  have hl : lv_has ls 3 [(0, .ref a0), (1, .int a1), (2, .int a2)] := hl
  refine lv_aload_n hx hb dX12_bundleOf_0 rfl (lv_at hl 0 rfl) (hp_n (n := 1) rfl ?_)
  refine lv_iconst (v := 0) hx hb dX12_bundleOf_1 (by decide) (hp_n (n := 2) rfl ?_)
  refine m_puti (k := 7) (φ := 657) (pc' := 5) C B hM fl_X12_139 rfl rfl rfl rfl rfl dX12_bundleOf_2 rfl (fun αh1 Hh1 Lh1 σh1 eh1 Bh1 Mh1 => ?_)
  replace hf := ms_lE eh1 hf
  refine lv_aload_n hx hb dX12_bundleOf_5 rfl (lv_at hl 0 rfl) (hp_n (n := 6) rfl ?_)
  refine lv_iload_n hx hb dX12_bundleOf_6 rfl (lv_at hl 1 rfl) (hp_n (n := 7) rfl ?_)
  refine lv_iconst (v := 0) hx hb dX12_bundleOf_7 (by decide) (hp_n (n := 8) rfl ?_)
  refine lv_iload_n hx hb dX12_bundleOf_8 rfl (lv_at hl 2 rfl) (hp_n (n := 9) rfl ?_)
  obtain ⟨σh2, qh2, hf⟩ := ms_bE hf
  refine m_cv (pc' := 12) (a := a0) (ρ := ρ) Bh1 (hp_runV (As := [.int a1, .int (0 : Int32), .int a2]) (rest := []) C Bh1 (m_X12_bundlesIn n 40 Γ l αh1 a0 ρ σh1 Mh1 a1 (0 : Int32) a2 σh2 qh2) lb_X12_bundlesIn lv_X12_bundlesIn lk_X12_157 Mh1.1 rfl (by decide) rfl hl.1 rfl (Nat.le_of_ble_eq_true rfl) dX12_bundleOf_9 ⟨Nat.le_refl _, Nat.le_refl _⟩) rfl (fun αh2 Hh2 Lh2 Bh2 Mh2 => ?_)
  cases hf
  exact q_vret C Bh2 hr hlk ⟨Bh2.2.2, Mh2⟩ dX12_bundleOf_12
def f_X12_peaksOf_J35 (n : Nat) (rec10 : ms_T → Int32 → Int32 → Int32 → Option ms_T) (σh5 : ms_T) (v1_h5 : Int32) (v2_h5 : Int32) (v3_h5 : Int32) : Option ms_T :=
  ms_l ((v3_h5 / (2 : Int32))) fun x6 =>
  rec10 σh5 v1_h5 v2_h5 x6
def f_X12_peaksOf_L10 (n : Nat) : Nat → ms_T → Int32 → Int32 → Int32 → Option ms_T
  | 0, _, _, _, _ => none
  | k10 + 1, σh2, v1_h2, v2_h2, v3_h2 =>
    if v3_h2 ≤ 0 then
      some σh2
    else
      ms_n v3_h2 <|
      if ((v1_h2 / v3_h2) - (v1_h2 / v3_h2) / (2 : Int32) * (2 : Int32)) = 0 then
        f_X12_peaksOf_J35 n (f_X12_peaksOf_L10 n k10) σh2 v1_h2 v2_h2 v3_h2
      else
        ms_b (f_X12_asks n σh2 v2_h2 v3_h2) fun σh8 =>
        ms_l ((v2_h2 + v3_h2)) fun x9 =>
        f_X12_peaksOf_J35 n (f_X12_peaksOf_L10 n k10) σh8 v1_h2 x9 v3_h2
def f_X12_peaksOf (n : Nat) (σ : ms_T) (a1 : Int32) : Option ms_T :=
  ms_l (ms_sI σ 657 (0 : Int32)) fun σh1 =>
  f_X12_peaksOf_L10 n n σh1 a1 (0 : Int32) (1073741824 : Int32)
set_option maxRecDepth 100000 in
set_option maxHeartbeats 4000000 in
theorem m_X12_peaksOf (n : Nat) (Γ : hp_G) (l : Launch) (α : hp_T) (a0 : Nat) (ρ : Nat → Nat) (σ : ms_T) (hM : hm_M α a0 ρ σ) (a1 : Int32) (res : ms_T) (hf : f_X12_peaksOf n σ a1 = some res) : Met l yX12_peaksOf (hp_ws yX12_peaksOf cX12_peaksOf 4 none) (hp_rm 1 0 0) (hp_Pc Γ α [.ref a0, .int a1]) (hp_Qv Γ (fun β => mo α β ∧ hm_M β a0 ρ res)) 0 0 (hp_A Γ) := by
  unfold f_X12_peaksOf at hf
  refine hp_start (by decide) ?_
  intro p e s m below meth c C hr hlk B0 hnm
  have C : hp_C Γ p m c cX12_peaksOf 4 s ([.ref a0, .int a1] : List Value).toArray RX12 := C
  have hx := C.1.1
  have hb := C.1.2.1
  have hown := C.1.2.2.2.1
  have hts := C.1.2.2.2.2
  have B : hp_B Γ mo s α α s.heap [] := ⟨B0.1, B0.2.1, mo_rf⟩
  have hl := lv_entry ([.ref a0, .int a1]) (n := 4) (Nat.le_of_ble_eq_true rfl)
  show W p l e (hp_rm 1 0 0) s m ([.ref a0, .int a1] : List Value).toArray below meth c s.heap [] 0 0 (MQ below (hp_Qv Γ (fun β => mo α β ∧ hm_M β a0 ρ res)) ([.ref a0, .int a1] : List Value).toArray s 0 0 (hp_A Γ)) (entryFrame m ([.ref a0, .int a1] : List Value).toArray 4)
  rw [lg_entry_eq]
  generalize (lg_sl ([.ref a0, .int a1]) ++ List.replicate (4 - (lg_sl ([.ref a0, .int a1])).length) Slot.unset).toArray = ls at hl ⊢
  have hl : lv_has ls 4 [(0, .ref a0), (1, .int a1)] := hl
  refine lv_aload_n hx hb dX12_peaksOf_0 rfl (lv_at hl 0 rfl) (hp_n (n := 1) rfl ?_)
  refine lv_iconst (v := 0) hx hb dX12_peaksOf_1 (by decide) (hp_n (n := 2) rfl ?_)
  refine m_puti (k := 7) (φ := 657) (pc' := 5) C B hM fl_X12_139 rfl rfl rfl rfl rfl dX12_peaksOf_2 rfl (fun αh1 Hh1 Lh1 σh1 eh1 Bh1 Mh1 => ?_)
  replace hf := ms_lE eh1 hf
  refine lv_iconst (v := 0) hx hb dX12_peaksOf_5 (by decide) (hp_n (n := 6) rfl ?_)
  refine lv_istore_n (lv' := [(2, .int (0 : Int32)), (0, .ref a0), (1, .int a1)]) hx hb dX12_peaksOf_6 rfl hl (by decide) rfl (fun ls hl => hp_n (n := 7) rfl ?_)
  refine lv_ldc hx hb hown (hts _ kc_X12_160) dX12_peaksOf_7 (hp_n (n := 9) rfl ?_)
  have J10 : ∀ (k10 : Nat) (αh2 : hp_T) (Hh2 : Heap) (Lh2 : List Loc) (Bh2 : hp_B Γ mo s α αh2 Hh2 Lh2) (σh2 : ms_T) (Mh2 : hm_M αh2 a0 ρ σh2) (v1_h2 : Int32) (v2_h2 : Int32) (v3_h2 : Int32) (ls : Array Slot) (hl : lv_has ls 4 [(0, .ref a0), (1, .int v1_h2), (2, .int v2_h2), (3, .int v3_h2)]) (hf : f_X12_peaksOf_L10 n k10 σh2 v1_h2 v2_h2 v3_h2 = some res), W p l e (hp_rm 1 0 0) s m ([.ref a0, .int a1] : List Value).toArray below meth c Hh2 Lh2 0 0 (MQ below (hp_Qv Γ (fun β => mo α β ∧ hm_M β a0 ρ res)) ([.ref a0, .int a1] : List Value).toArray s 0 0 (hp_A Γ)) (F0 m 10 ls []) := by
    intro k10
    induction k10 with
    | zero => intro αh2 Hh2 Lh2 Bh2 σh2 Mh2 v1_h2 v2_h2 v3_h2 ls hl hf; rw [f_X12_peaksOf_L10.eq_1] at hf; cases hf
    | succ k10 ih10 =>
      intro αh2 Hh2 Lh2 Bh2 σh2 Mh2 v1_h2 v2_h2 v3_h2 ls hl hf
      rw [f_X12_peaksOf_L10.eq_2] at hf
      refine lv_iload_n hx hb dX12_peaksOf_10 rfl (lv_at hl 3 rfl) (hp_n (n := 11) rfl ?_)
      refine lv_if_le (tgt := 42) hx hb dX12_peaksOf_11 (by decide) (fun c3 => ?_) (fun c3 => hp_n (n := 14) rfl ?_)
      ·
        replace hf := ms_iT c3 hf
        cases hf
        exact q_vret C Bh2 hr hlk ⟨Bh2.2.2, Mh2⟩ dX12_peaksOf_42
      ·
        replace hf := ms_iF c3 hf
        refine lv_iload_n hx hb dX12_peaksOf_14 rfl (lv_at hl 1 rfl) (hp_n (n := 15) rfl ?_)
        refine lv_iload_n hx hb dX12_peaksOf_15 rfl (lv_at hl 3 rfl) (hp_n (n := 16) rfl ?_)
        obtain ⟨g4, hf⟩ := ms_nE hf
        refine lv_idiv hx hb dX12_peaksOf_16 g4 (hp_n (n := 17) rfl ?_)
        refine lv_iconst (v := 2) hx hb dX12_peaksOf_17 (by decide) (hp_n (n := 18) rfl ?_)
        refine lv_irem hx hb dX12_peaksOf_18 (by decide) (hp_n (n := 19) rfl ?_)
        have J35 : ∀ (αh5 : hp_T) (Hh5 : Heap) (Lh5 : List Loc) (Bh5 : hp_B Γ mo s α αh5 Hh5 Lh5) (σh5 : ms_T) (Mh5 : hm_M αh5 a0 ρ σh5) (v1_h5 : Int32) (v2_h5 : Int32) (v3_h5 : Int32) (ls : Array Slot) (hl : lv_has ls 4 [(0, .ref a0), (1, .int v1_h5), (2, .int v2_h5), (3, .int v3_h5)]) (hf : f_X12_peaksOf_J35 n (f_X12_peaksOf_L10 n k10) σh5 v1_h5 v2_h5 v3_h5 = some res), W p l e (hp_rm 1 0 0) s m ([.ref a0, .int a1] : List Value).toArray below meth c Hh5 Lh5 0 0 (MQ below (hp_Qv Γ (fun β => mo α β ∧ hm_M β a0 ρ res)) ([.ref a0, .int a1] : List Value).toArray s 0 0 (hp_A Γ)) (F0 m 35 ls []) := by
          intro αh5 Hh5 Lh5 Bh5 σh5 Mh5 v1_h5 v2_h5 v3_h5 ls hl hf
          unfold f_X12_peaksOf_J35 at hf
          refine lv_iload_n hx hb dX12_peaksOf_35 rfl (lv_at hl 3 rfl) (hp_n (n := 36) rfl ?_)
          refine lv_iconst (v := 2) hx hb dX12_peaksOf_36 (by decide) (hp_n (n := 37) rfl ?_)
          refine lv_idiv hx hb dX12_peaksOf_37 (by decide) (hp_n (n := 38) rfl ?_)
          refine lv_topi (fun x6 ex6 => ?_)
          replace hf := ms_lE ex6 hf
          refine lv_istore_n (lv' := [(3, .int x6), (0, .ref a0), (1, .int v1_h5), (2, .int v2_h5)]) hx hb dX12_peaksOf_38 rfl hl (by decide) rfl (fun ls hl => hp_n (n := 39) rfl ?_)
          refine lv_goto (tgt := 10) hx hb dX12_peaksOf_39 (by decide) ?_
          exact ih10 αh5 Hh5 Lh5 Bh5 σh5 Mh5 v1_h5 v2_h5 x6 ls (lv_sub hl [1, 2, 3, 0] rfl) hf
        refine lv_if_ne (tgt := 25) hx hb dX12_peaksOf_19 (by decide) (fun c7 => ?_) (fun c7 => hp_n (n := 22) rfl ?_)
        ·
          replace hf := ms_iF c7 hf
          refine lv_aload_n hx hb dX12_peaksOf_25 rfl (lv_at hl 0 rfl) (hp_n (n := 26) rfl ?_)
          refine lv_iload_n hx hb dX12_peaksOf_26 rfl (lv_at hl 2 rfl) (hp_n (n := 27) rfl ?_)
          refine lv_iload_n hx hb dX12_peaksOf_27 rfl (lv_at hl 3 rfl) (hp_n (n := 28) rfl ?_)
          obtain ⟨σh8, qh8, hf⟩ := ms_bE hf
          refine m_cv (pc' := 31) (a := a0) (ρ := ρ) Bh2 (hp_runV (As := [.int v2_h2, .int v3_h2]) (rest := []) C Bh2 (m_X12_asks n Γ l αh2 a0 ρ σh2 Mh2 v2_h2 v3_h2 σh8 qh8) lb_X12_asks lv_X12_asks lk_X12_146 Mh2.1 rfl (by decide) rfl hl.1 rfl (Nat.le_of_ble_eq_true rfl) dX12_peaksOf_28 ⟨Nat.le_refl _, Nat.le_refl _⟩) rfl (fun αh8 Hh8 Lh8 Bh8 Mh8 => ?_)
          refine lv_iload_n hx hb dX12_peaksOf_31 rfl (lv_at hl 2 rfl) (hp_n (n := 32) rfl ?_)
          refine lv_iload_n hx hb dX12_peaksOf_32 rfl (lv_at hl 3 rfl) (hp_n (n := 33) rfl ?_)
          refine lv_iadd hx hb dX12_peaksOf_33 (hp_n (n := 34) rfl ?_)
          refine lv_topi (fun x9 ex9 => ?_)
          replace hf := ms_lE ex9 hf
          refine lv_istore_n (lv' := [(2, .int x9), (0, .ref a0), (1, .int v1_h2), (3, .int v3_h2)]) hx hb dX12_peaksOf_34 rfl hl (by decide) rfl (fun ls hl => hp_n (n := 35) rfl ?_)
          exact J35 αh8 Hh8 Lh8 Bh8 σh8 Mh8 v1_h2 x9 v3_h2 ls (lv_sub hl [1, 2, 0, 3] rfl) hf
        ·
          replace hf := ms_iT c7 hf
          refine lv_goto (tgt := 35) hx hb dX12_peaksOf_22 (by decide) ?_
          exact J35 αh2 Hh2 Lh2 Bh2 σh2 Mh2 v1_h2 v2_h2 v3_h2 ls (lv_sub hl [0, 1, 2, 3] rfl) hf
  refine lv_istore_n (lv' := [(3, .int (1073741824 : Int32)), (2, .int (0 : Int32)), (0, .ref a0), (1, .int a1)]) hx hb dX12_peaksOf_9 rfl hl (by decide) rfl (fun ls hl => hp_n (n := 10) rfl ?_)
  exact J10 n αh1 Hh1 Lh1 Bh1 σh1 Mh1 a1 (0 : Int32) (1073741824 : Int32) ls (lv_sub hl [2, 3, 1, 0] rfl) hf
def f_X12_fetches_L2 (n : Nat) : Nat → ms_T → Int32 → Int32 → Option ms_T
  | 0, _, _, _ => none
  | k2 + 1, σh1, v1_h1, v2_h1 =>
    if (ms_I σh1 657) ≤ v2_h1 then
      some σh1
    else
      ms_g v2_h1 128 <|
      ms_g v2_h1 128 <|
      ms_b (f_X12_treeMark n 40 σh1 v1_h1 (ms_E σh1 42 (v2_h1).toNatClampNeg) (ms_E σh1 43 (v2_h1).toNatClampNeg)) fun rh5 =>
      ms_g v2_h1 128 <|
      ms_l (ms_sE σh1 44 (v2_h1).toNatClampNeg rh5) fun σh7 =>
      ms_l (v2_h1 + 1) fun x8 =>
      (f_X12_fetches_L2 n k2) σh7 v1_h1 x8
def f_X12_fetches (n : Nat) (σ : ms_T) (a1 : Int32) : Option ms_T :=
  f_X12_fetches_L2 n n σ a1 (0 : Int32)
set_option maxRecDepth 100000 in
set_option maxHeartbeats 4000000 in
theorem m_X12_fetches (n : Nat) (Γ : hp_G) (l : Launch) (α : hp_T) (a0 : Nat) (ρ : Nat → Nat) (σ : ms_T) (hM : hm_M α a0 ρ σ) (a1 : Int32) (res : ms_T) (hf : f_X12_fetches n σ a1 = some res) : Met l yX12_fetches (hp_ws yX12_fetches cX12_fetches 3 none) (hp_rm 42 0 0) (hp_Pc Γ α [.ref a0, .int a1]) (hp_Qv Γ (fun β => mo α β ∧ hm_M β a0 ρ res)) 0 0 (hp_A Γ) := by
  unfold f_X12_fetches at hf
  refine hp_start (by decide) ?_
  intro p e s m below meth c C hr hlk B0 hnm
  have C : hp_C Γ p m c cX12_fetches 3 s ([.ref a0, .int a1] : List Value).toArray RX12 := C
  have hx := C.1.1
  have hb := C.1.2.1
  have hown := C.1.2.2.2.1
  have hts := C.1.2.2.2.2
  have B : hp_B Γ mo s α α s.heap [] := ⟨B0.1, B0.2.1, mo_rf⟩
  have hl := lv_entry ([.ref a0, .int a1]) (n := 3) (Nat.le_of_ble_eq_true rfl)
  show W p l e (hp_rm 42 0 0) s m ([.ref a0, .int a1] : List Value).toArray below meth c s.heap [] 0 0 (MQ below (hp_Qv Γ (fun β => mo α β ∧ hm_M β a0 ρ res)) ([.ref a0, .int a1] : List Value).toArray s 0 0 (hp_A Γ)) (entryFrame m ([.ref a0, .int a1] : List Value).toArray 3)
  rw [lg_entry_eq]
  generalize (lg_sl ([.ref a0, .int a1]) ++ List.replicate (3 - (lg_sl ([.ref a0, .int a1])).length) Slot.unset).toArray = ls at hl ⊢
  have hl : lv_has ls 3 [(0, .ref a0), (1, .int a1)] := hl
  refine lv_iconst (v := 0) hx hb dX12_fetches_0 (by decide) (hp_n (n := 1) rfl ?_)
  have J2 : ∀ (k2 : Nat) (αh1 : hp_T) (Hh1 : Heap) (Lh1 : List Loc) (Bh1 : hp_B Γ mo s α αh1 Hh1 Lh1) (σh1 : ms_T) (Mh1 : hm_M αh1 a0 ρ σh1) (v1_h1 : Int32) (v2_h1 : Int32) (ls : Array Slot) (hl : lv_has ls 3 [(0, .ref a0), (1, .int v1_h1), (2, .int v2_h1)]) (hf : f_X12_fetches_L2 n k2 σh1 v1_h1 v2_h1 = some res), W p l e (hp_rm 42 0 0) s m ([.ref a0, .int a1] : List Value).toArray below meth c Hh1 Lh1 0 0 (MQ below (hp_Qv Γ (fun β => mo α β ∧ hm_M β a0 ρ res)) ([.ref a0, .int a1] : List Value).toArray s 0 0 (hp_A Γ)) (F0 m 2 ls []) := by
    intro k2
    induction k2 with
    | zero => intro αh1 Hh1 Lh1 Bh1 σh1 Mh1 v1_h1 v2_h1 ls hl hf; rw [f_X12_fetches_L2.eq_1] at hf; cases hf
    | succ k2 ih2 =>
      intro αh1 Hh1 Lh1 Bh1 σh1 Mh1 v1_h1 v2_h1 ls hl hf
      rw [f_X12_fetches_L2.eq_2] at hf
      refine lv_iload_n hx hb dX12_fetches_2 rfl (lv_at hl 2 rfl) (hp_n (n := 3) rfl ?_)
      refine lv_aload_n hx hb dX12_fetches_3 rfl (lv_at hl 0 rfl) (hp_n (n := 4) rfl ?_)
      refine m_geti (k := 7) (φ := 657) (pc' := 7) C Bh1 Mh1 fl_X12_139 rfl rfl dX12_fetches_4 rfl ?_
      refine lv_icmp_ge (tgt := 39) hx hb dX12_fetches_7 (by decide) (fun c2 => ?_) (fun c2 => hp_n (n := 10) rfl ?_)
      ·
        replace hf := ms_iT c2 hf
        cases hf
        exact q_vret C Bh1 hr hlk ⟨Bh1.2.2, Mh1⟩ dX12_fetches_39
      ·
        replace hf := ms_iF c2 hf
        refine lv_aload_n hx hb dX12_fetches_10 rfl (lv_at hl 0 rfl) (hp_n (n := 11) rfl ?_)
        refine m_getr (κ := 44) (k := 6) (pc' := 14) C Bh1 Mh1 fl_X12_22 rfl (by decide) dX12_fetches_11 rfl ?_
        refine lv_iload_n hx hb dX12_fetches_14 rfl (lv_at hl 2 rfl) (hp_n (n := 15) rfl ?_)
        refine lv_aload_n hx hb dX12_fetches_15 rfl (lv_at hl 0 rfl) (hp_n (n := 16) rfl ?_)
        refine lv_iload_n hx hb dX12_fetches_16 rfl (lv_at hl 1 rfl) (hp_n (n := 17) rfl ?_)
        refine lv_aload_n hx hb dX12_fetches_17 rfl (lv_at hl 0 rfl) (hp_n (n := 18) rfl ?_)
        refine m_getr (κ := 42) (k := 4) (pc' := 21) C Bh1 Mh1 fl_X12_16 rfl (by decide) dX12_fetches_18 rfl ?_
        refine lv_iload_n hx hb dX12_fetches_21 rfl (lv_at hl 2 rfl) (hp_n (n := 22) rfl ?_)
        obtain ⟨g3, hf⟩ := ms_gE hf
        refine m_ial (κ := 42) (φ := 654) (n := 128) (pc' := 23) C Bh1 Mh1 (by decide) (by decide) rfl g3 dX12_fetches_22 rfl ?_
        refine lv_aload_n hx hb dX12_fetches_23 rfl (lv_at hl 0 rfl) (hp_n (n := 24) rfl ?_)
        refine m_getr (κ := 43) (k := 5) (pc' := 27) C Bh1 Mh1 fl_X12_19 rfl (by decide) dX12_fetches_24 rfl ?_
        refine lv_iload_n hx hb dX12_fetches_27 rfl (lv_at hl 2 rfl) (hp_n (n := 28) rfl ?_)
        obtain ⟨g4, hf⟩ := ms_gE hf
        refine m_ial (κ := 43) (φ := 655) (n := 128) (pc' := 29) C Bh1 Mh1 (by decide) (by decide) rfl g4 dX12_fetches_28 rfl ?_
        obtain ⟨rh5, qh5, hf⟩ := ms_bE hf
        refine m_cp (pc' := 32) Bh1 (hp_runV (As := [.int v1_h1, .int (ms_E σh1 42 (v2_h1).toNatClampNeg), .int (ms_E σh1 43 (v2_h1).toNatClampNeg)]) (rest := [.int v2_h1, .ref (ρ 44)]) C Bh1 (m_X12_treeMark n 40 Γ l αh1 a0 ρ σh1 Mh1 v1_h1 (ms_E σh1 42 (v2_h1).toNatClampNeg) (ms_E σh1 43 (v2_h1).toNatClampNeg) rh5 qh5) lb_X12_treeMark lv_X12_treeMark lk_X12_132 Mh1.1 rfl (by decide) rfl hl.1 rfl (Nat.le_of_ble_eq_true rfl) dX12_fetches_29 ⟨Nat.le_refl _, Nat.le_refl _⟩) rfl (fun Hh5 Lh5 Bh5 => ?_)
        obtain ⟨g6, hf⟩ := ms_gE hf
        refine m_ias (κ := 44) (φ := 656) (n := 128) (pc' := 33) C Bh5 Mh1 (by decide) (by decide) rfl g6 dX12_fetches_32 rfl (fun αh7 Hh7 Lh7 σh7 eh7 Bh7 Mh7 => ?_)
        replace hf := ms_lE eh7 hf
        obtain ⟨x8, ex8⟩ : ∃ y : Int32, y = v2_h1 + 1 := ⟨_, rfl⟩
        replace hf := ms_lE ex8 hf
        refine lv_iinc (v := x8) (lv' := [(2, .int x8), (0, .ref a0), (1, .int v1_h1)]) hx hb dX12_fetches_33 hl (k := 2) rfl (by rw [ex8]; rfl) (by decide) rfl (fun ls hl => hp_n (n := 36) rfl ?_)
        refine lv_goto (tgt := 2) hx hb dX12_fetches_36 (by decide) ?_
        exact ih2 αh7 Hh7 Lh7 Bh7 σh7 Mh7 v1_h1 x8 ls (lv_sub hl [1, 2, 0] rfl) hf
  refine lv_istore_n (lv' := [(2, .int (0 : Int32)), (0, .ref a0), (1, .int a1)]) hx hb dX12_fetches_1 rfl hl (by decide) rfl (fun ls hl => hp_n (n := 2) rfl ?_)
  exact J2 n α s.heap [] B σ hM a1 (0 : Int32) ls (lv_sub hl [1, 2, 0] rfl) hf
def f_X12_pads_L7 (n : Nat) : Nat → ms_T → Int32 → Option (Int32 × ms_T)
  | 0, _, _ => none
  | k7 + 1, σh2, v2_h2 =>
    if (ms_I σh2 657) ≤ v2_h2 then
      ms_g (2 : Int32) 1980 <|
      ms_l (ms_sE σh2 40 ((2 : Int32)).toNatClampNeg (ms_I σh2 657)) fun σh5 =>
      some ((ms_I σh5 657), σh5)
    else
      ms_g v2_h2 128 <|
      ms_g ((8 : Int32) + v2_h2) 1980 <|
      ms_l (ms_sE σh2 40 (((8 : Int32) + v2_h2)).toNatClampNeg (ms_E σh2 44 (v2_h2).toNatClampNeg)) fun σh8 =>
      ms_l (v2_h2 + 1) fun x9 =>
      (f_X12_pads_L7 n k7) σh8 x9
def f_X12_pads (n : Nat) (σ : ms_T) (a1 : Int32) : Option (Int32 × ms_T) :=
  ms_b (f_X12_fetches n σ a1) fun σh1 =>
  f_X12_pads_L7 n n σh1 (0 : Int32)
set_option maxRecDepth 100000 in
set_option maxHeartbeats 4000000 in
theorem m_X12_pads (n : Nat) (Γ : hp_G) (l : Launch) (α : hp_T) (a0 : Nat) (ρ : Nat → Nat) (σ : ms_T) (hM : hm_M α a0 ρ σ) (a1 : Int32) (res : (Int32 × ms_T)) (hf : f_X12_pads n σ a1 = some res) : Met l yX12_pads (hp_ws yX12_pads cX12_pads 3 (some .int)) (hp_rm 43 0 0) (hp_Pc Γ α [.ref a0, .int a1]) (hp_Qi Γ (fun r β => r = res.1 ∧ mo α β ∧ hm_M β a0 ρ res.2)) 0 0 (hp_A Γ) := by
  unfold f_X12_pads at hf
  refine hp_start (by decide) ?_
  intro p e s m below meth c C hr hlk B0 hnm
  have C : hp_C Γ p m c cX12_pads 3 s ([.ref a0, .int a1] : List Value).toArray RX12 := C
  have hx := C.1.1
  have hb := C.1.2.1
  have hown := C.1.2.2.2.1
  have hts := C.1.2.2.2.2
  have B : hp_B Γ mo s α α s.heap [] := ⟨B0.1, B0.2.1, mo_rf⟩
  have hl := lv_entry ([.ref a0, .int a1]) (n := 3) (Nat.le_of_ble_eq_true rfl)
  show W p l e (hp_rm 43 0 0) s m ([.ref a0, .int a1] : List Value).toArray below meth c s.heap [] 0 0 (MQ below (hp_Qi Γ (fun r β => r = res.1 ∧ mo α β ∧ hm_M β a0 ρ res.2)) ([.ref a0, .int a1] : List Value).toArray s 0 0 (hp_A Γ)) (entryFrame m ([.ref a0, .int a1] : List Value).toArray 3)
  rw [lg_entry_eq]
  generalize (lg_sl ([.ref a0, .int a1]) ++ List.replicate (3 - (lg_sl ([.ref a0, .int a1])).length) Slot.unset).toArray = ls at hl ⊢
  have hl : lv_has ls 3 [(0, .ref a0), (1, .int a1)] := hl
  refine lv_aload_n hx hb dX12_pads_0 rfl (lv_at hl 0 rfl) (hp_n (n := 1) rfl ?_)
  refine lv_iload_n hx hb dX12_pads_1 rfl (lv_at hl 1 rfl) (hp_n (n := 2) rfl ?_)
  obtain ⟨σh1, qh1, hf⟩ := ms_bE hf
  refine m_cv (pc' := 5) (a := a0) (ρ := ρ) B (hp_runV (As := [.int a1]) (rest := []) C B (m_X12_fetches n Γ l α a0 ρ σ hM a1 σh1 qh1) lb_X12_fetches lv_X12_fetches lk_X12_161 hM.1 rfl (by decide) rfl hl.1 rfl (Nat.le_of_ble_eq_true rfl) dX12_pads_2 ⟨Nat.le_refl _, Nat.le_refl _⟩) rfl (fun αh1 Hh1 Lh1 Bh1 Mh1 => ?_)
  refine lv_iconst (v := 0) hx hb dX12_pads_5 (by decide) (hp_n (n := 6) rfl ?_)
  have J7 : ∀ (k7 : Nat) (αh2 : hp_T) (Hh2 : Heap) (Lh2 : List Loc) (Bh2 : hp_B Γ mo s α αh2 Hh2 Lh2) (σh2 : ms_T) (Mh2 : hm_M αh2 a0 ρ σh2) (v2_h2 : Int32) (ls : Array Slot) (hl : lv_has ls 3 [(0, .ref a0), (2, .int v2_h2)]) (hf : f_X12_pads_L7 n k7 σh2 v2_h2 = some res), W p l e (hp_rm 43 0 0) s m ([.ref a0, .int a1] : List Value).toArray below meth c Hh2 Lh2 0 0 (MQ below (hp_Qi Γ (fun r β => r = res.1 ∧ mo α β ∧ hm_M β a0 ρ res.2)) ([.ref a0, .int a1] : List Value).toArray s 0 0 (hp_A Γ)) (F0 m 7 ls []) := by
    intro k7
    induction k7 with
    | zero => intro αh2 Hh2 Lh2 Bh2 σh2 Mh2 v2_h2 ls hl hf; rw [f_X12_pads_L7.eq_1] at hf; cases hf
    | succ k7 ih7 =>
      intro αh2 Hh2 Lh2 Bh2 σh2 Mh2 v2_h2 ls hl hf
      rw [f_X12_pads_L7.eq_2] at hf
      refine lv_iload_n hx hb dX12_pads_7 rfl (lv_at hl 1 rfl) (hp_n (n := 8) rfl ?_)
      refine lv_aload_n hx hb dX12_pads_8 rfl (lv_at hl 0 rfl) (hp_n (n := 9) rfl ?_)
      refine m_geti (k := 7) (φ := 657) (pc' := 12) C Bh2 Mh2 fl_X12_139 rfl rfl dX12_pads_9 rfl ?_
      refine lv_icmp_ge (tgt := 36) hx hb dX12_pads_12 (by decide) (fun c3 => ?_) (fun c3 => hp_n (n := 15) rfl ?_)
      ·
        replace hf := ms_iT c3 hf
        refine lv_aload_n hx hb dX12_pads_36 rfl (lv_at hl 0 rfl) (hp_n (n := 37) rfl ?_)
        refine m_getr (κ := 40) (k := 0) (pc' := 40) C Bh2 Mh2 fl_X12_7 rfl (by decide) dX12_pads_37 rfl ?_
        refine lv_iconst (v := 2) hx hb dX12_pads_40 (by decide) (hp_n (n := 41) rfl ?_)
        refine lv_aload_n hx hb dX12_pads_41 rfl (lv_at hl 0 rfl) (hp_n (n := 42) rfl ?_)
        refine m_geti (k := 7) (φ := 657) (pc' := 45) C Bh2 Mh2 fl_X12_139 rfl rfl dX12_pads_42 rfl ?_
        obtain ⟨g4, hf⟩ := ms_gE hf
        refine m_ias (κ := 40) (φ := 650) (n := 1980) (pc' := 46) C Bh2 Mh2 (by decide) (by decide) rfl g4 dX12_pads_45 rfl (fun αh5 Hh5 Lh5 σh5 eh5 Bh5 Mh5 => ?_)
        replace hf := ms_lE eh5 hf
        refine lv_aload_n hx hb dX12_pads_46 rfl (lv_at hl 0 rfl) (hp_n (n := 47) rfl ?_)
        refine m_geti (k := 7) (φ := 657) (pc' := 50) C Bh5 Mh5 fl_X12_139 rfl rfl dX12_pads_47 rfl ?_
        cases hf
        exact q_iret C Bh5 hr hlk ⟨rfl, Bh5.2.2, Mh5⟩ dX12_pads_50
      ·
        replace hf := ms_iF c3 hf
        refine lv_aload_n hx hb dX12_pads_15 rfl (lv_at hl 0 rfl) (hp_n (n := 16) rfl ?_)
        refine m_getr (κ := 40) (k := 0) (pc' := 19) C Bh2 Mh2 fl_X12_7 rfl (by decide) dX12_pads_16 rfl ?_
        refine lv_bipush (v := 8) hx hb dX12_pads_19 (by decide) (hp_n (n := 21) rfl ?_)
        refine lv_iload_n hx hb dX12_pads_21 rfl (lv_at hl 1 rfl) (hp_n (n := 22) rfl ?_)
        refine lv_iadd hx hb dX12_pads_22 (hp_n (n := 23) rfl ?_)
        refine lv_aload_n hx hb dX12_pads_23 rfl (lv_at hl 0 rfl) (hp_n (n := 24) rfl ?_)
        refine m_getr (κ := 44) (k := 6) (pc' := 27) C Bh2 Mh2 fl_X12_22 rfl (by decide) dX12_pads_24 rfl ?_
        refine lv_iload_n hx hb dX12_pads_27 rfl (lv_at hl 1 rfl) (hp_n (n := 28) rfl ?_)
        obtain ⟨g6, hf⟩ := ms_gE hf
        refine m_ial (κ := 44) (φ := 656) (n := 128) (pc' := 29) C Bh2 Mh2 (by decide) (by decide) rfl g6 dX12_pads_28 rfl ?_
        obtain ⟨g7, hf⟩ := ms_gE hf
        refine m_ias (κ := 40) (φ := 650) (n := 1980) (pc' := 30) C Bh2 Mh2 (by decide) (by decide) rfl g7 dX12_pads_29 rfl (fun αh8 Hh8 Lh8 σh8 eh8 Bh8 Mh8 => ?_)
        replace hf := ms_lE eh8 hf
        obtain ⟨x9, ex9⟩ : ∃ y : Int32, y = v2_h2 + 1 := ⟨_, rfl⟩
        replace hf := ms_lE ex9 hf
        refine lv_iinc (v := x9) (lv' := [(2, .int x9), (0, .ref a0)]) hx hb dX12_pads_30 hl (k := 1) rfl (by rw [ex9]; rfl) (by decide) rfl (fun ls hl => hp_n (n := 33) rfl ?_)
        refine lv_goto (tgt := 7) hx hb dX12_pads_33 (by decide) ?_
        exact ih7 αh8 Hh8 Lh8 Bh8 σh8 Mh8 x9 ls (lv_sub hl [1, 0] rfl) hf
  refine lv_istore_n (lv' := [(2, .int (0 : Int32)), (0, .ref a0), (1, .int a1)]) hx hb dX12_pads_6 rfl hl (by decide) rfl (fun ls hl => hp_n (n := 7) rfl ?_)
  exact J7 n αh1 Hh1 Lh1 Bh1 σh1 Mh1 (0 : Int32) ls (lv_sub hl [1, 0] rfl) hf
def f_X12_fromPad_L2 (n : Nat) : Nat → ms_T → Int32 → Option (Int32 × ms_T)
  | 0, _, _ => none
  | k2 + 1, σh1, v1_h1 =>
    ms_g (2 : Int32) 1980 <|
    if (ms_E σh1 40 ((2 : Int32)).toNatClampNeg) ≤ v1_h1 then
      ms_g (2 : Int32) 1980 <|
      some ((ms_E σh1 40 ((2 : Int32)).toNatClampNeg), σh1)
    else
      ms_g ((8 : Int32) + v1_h1) 1980 <|
      ms_g v1_h1 128 <|
      ms_l (ms_sE σh1 44 (v1_h1).toNatClampNeg (ms_E σh1 40 (((8 : Int32) + v1_h1)).toNatClampNeg)) fun σh7 =>
      ms_l (v1_h1 + 1) fun x8 =>
      (f_X12_fromPad_L2 n k2) σh7 x8
def f_X12_fromPad (n : Nat) (σ : ms_T) : Option (Int32 × ms_T) :=
  f_X12_fromPad_L2 n n σ (0 : Int32)
set_option maxRecDepth 100000 in
set_option maxHeartbeats 4000000 in
theorem m_X12_fromPad (n : Nat) (Γ : hp_G) (l : Launch) (α : hp_T) (a0 : Nat) (ρ : Nat → Nat) (σ : ms_T) (hM : hm_M α a0 ρ σ)  (res : (Int32 × ms_T)) (hf : f_X12_fromPad n σ = some res) : Met l yX12_fromPad (hp_ws yX12_fromPad cX12_fromPad 2 (some .int)) (hp_rm 0 0 0) (hp_Pc Γ α [.ref a0]) (hp_Qi Γ (fun r β => r = res.1 ∧ mo α β ∧ hm_M β a0 ρ res.2)) 0 0 (hp_A Γ) := by
  unfold f_X12_fromPad at hf
  refine hp_start (by decide) ?_
  intro p e s m below meth c C hr hlk B0 hnm
  have C : hp_C Γ p m c cX12_fromPad 2 s ([.ref a0] : List Value).toArray RX12 := C
  have hx := C.1.1
  have hb := C.1.2.1
  have hown := C.1.2.2.2.1
  have hts := C.1.2.2.2.2
  have B : hp_B Γ mo s α α s.heap [] := ⟨B0.1, B0.2.1, mo_rf⟩
  have hl := lv_entry ([.ref a0]) (n := 2) (Nat.le_of_ble_eq_true rfl)
  show W p l e (hp_rm 0 0 0) s m ([.ref a0] : List Value).toArray below meth c s.heap [] 0 0 (MQ below (hp_Qi Γ (fun r β => r = res.1 ∧ mo α β ∧ hm_M β a0 ρ res.2)) ([.ref a0] : List Value).toArray s 0 0 (hp_A Γ)) (entryFrame m ([.ref a0] : List Value).toArray 2)
  rw [lg_entry_eq]
  generalize (lg_sl ([.ref a0]) ++ List.replicate (2 - (lg_sl ([.ref a0])).length) Slot.unset).toArray = ls at hl ⊢
  have hl : lv_has ls 2 [(0, .ref a0)] := hl
  refine lv_iconst (v := 0) hx hb dX12_fromPad_0 (by decide) (hp_n (n := 1) rfl ?_)
  have J2 : ∀ (k2 : Nat) (αh1 : hp_T) (Hh1 : Heap) (Lh1 : List Loc) (Bh1 : hp_B Γ mo s α αh1 Hh1 Lh1) (σh1 : ms_T) (Mh1 : hm_M αh1 a0 ρ σh1) (v1_h1 : Int32) (ls : Array Slot) (hl : lv_has ls 2 [(0, .ref a0), (1, .int v1_h1)]) (hf : f_X12_fromPad_L2 n k2 σh1 v1_h1 = some res), W p l e (hp_rm 0 0 0) s m ([.ref a0] : List Value).toArray below meth c Hh1 Lh1 0 0 (MQ below (hp_Qi Γ (fun r β => r = res.1 ∧ mo α β ∧ hm_M β a0 ρ res.2)) ([.ref a0] : List Value).toArray s 0 0 (hp_A Γ)) (F0 m 2 ls []) := by
    intro k2
    induction k2 with
    | zero => intro αh1 Hh1 Lh1 Bh1 σh1 Mh1 v1_h1 ls hl hf; rw [f_X12_fromPad_L2.eq_1] at hf; cases hf
    | succ k2 ih2 =>
      intro αh1 Hh1 Lh1 Bh1 σh1 Mh1 v1_h1 ls hl hf
      rw [f_X12_fromPad_L2.eq_2] at hf
      refine lv_iload_n hx hb dX12_fromPad_2 rfl (lv_at hl 1 rfl) (hp_n (n := 3) rfl ?_)
      refine lv_aload_n hx hb dX12_fromPad_3 rfl (lv_at hl 0 rfl) (hp_n (n := 4) rfl ?_)
      refine m_getr (κ := 40) (k := 0) (pc' := 7) C Bh1 Mh1 fl_X12_7 rfl (by decide) dX12_fromPad_4 rfl ?_
      refine lv_iconst (v := 2) hx hb dX12_fromPad_7 (by decide) (hp_n (n := 8) rfl ?_)
      obtain ⟨g2, hf⟩ := ms_gE hf
      refine m_ial (κ := 40) (φ := 650) (n := 1980) (pc' := 9) C Bh1 Mh1 (by decide) (by decide) rfl g2 dX12_fromPad_8 rfl ?_
      refine lv_icmp_ge (tgt := 33) hx hb dX12_fromPad_9 (by decide) (fun c3 => ?_) (fun c3 => hp_n (n := 12) rfl ?_)
      ·
        replace hf := ms_iT c3 hf
        refine lv_aload_n hx hb dX12_fromPad_33 rfl (lv_at hl 0 rfl) (hp_n (n := 34) rfl ?_)
        refine m_getr (κ := 40) (k := 0) (pc' := 37) C Bh1 Mh1 fl_X12_7 rfl (by decide) dX12_fromPad_34 rfl ?_
        refine lv_iconst (v := 2) hx hb dX12_fromPad_37 (by decide) (hp_n (n := 38) rfl ?_)
        obtain ⟨g4, hf⟩ := ms_gE hf
        refine m_ial (κ := 40) (φ := 650) (n := 1980) (pc' := 39) C Bh1 Mh1 (by decide) (by decide) rfl g4 dX12_fromPad_38 rfl ?_
        cases hf
        exact q_iret C Bh1 hr hlk ⟨rfl, Bh1.2.2, Mh1⟩ dX12_fromPad_39
      ·
        replace hf := ms_iF c3 hf
        refine lv_aload_n hx hb dX12_fromPad_12 rfl (lv_at hl 0 rfl) (hp_n (n := 13) rfl ?_)
        refine m_getr (κ := 44) (k := 6) (pc' := 16) C Bh1 Mh1 fl_X12_22 rfl (by decide) dX12_fromPad_13 rfl ?_
        refine lv_iload_n hx hb dX12_fromPad_16 rfl (lv_at hl 1 rfl) (hp_n (n := 17) rfl ?_)
        refine lv_aload_n hx hb dX12_fromPad_17 rfl (lv_at hl 0 rfl) (hp_n (n := 18) rfl ?_)
        refine m_getr (κ := 40) (k := 0) (pc' := 21) C Bh1 Mh1 fl_X12_7 rfl (by decide) dX12_fromPad_18 rfl ?_
        refine lv_bipush (v := 8) hx hb dX12_fromPad_21 (by decide) (hp_n (n := 23) rfl ?_)
        refine lv_iload_n hx hb dX12_fromPad_23 rfl (lv_at hl 1 rfl) (hp_n (n := 24) rfl ?_)
        refine lv_iadd hx hb dX12_fromPad_24 (hp_n (n := 25) rfl ?_)
        obtain ⟨g5, hf⟩ := ms_gE hf
        refine m_ial (κ := 40) (φ := 650) (n := 1980) (pc' := 26) C Bh1 Mh1 (by decide) (by decide) rfl g5 dX12_fromPad_25 rfl ?_
        obtain ⟨g6, hf⟩ := ms_gE hf
        refine m_ias (κ := 44) (φ := 656) (n := 128) (pc' := 27) C Bh1 Mh1 (by decide) (by decide) rfl g6 dX12_fromPad_26 rfl (fun αh7 Hh7 Lh7 σh7 eh7 Bh7 Mh7 => ?_)
        replace hf := ms_lE eh7 hf
        obtain ⟨x8, ex8⟩ : ∃ y : Int32, y = v1_h1 + 1 := ⟨_, rfl⟩
        replace hf := ms_lE ex8 hf
        refine lv_iinc (v := x8) (lv' := [(1, .int x8), (0, .ref a0)]) hx hb dX12_fromPad_27 hl (k := 1) rfl (by rw [ex8]; rfl) (by decide) rfl (fun ls hl => hp_n (n := 30) rfl ?_)
        refine lv_goto (tgt := 2) hx hb dX12_fromPad_30 (by decide) ?_
        exact ih2 αh7 Hh7 Lh7 Bh7 σh7 Mh7 x8 ls (lv_sub hl [1, 0] rfl) hf
  refine lv_istore_n (lv' := [(1, .int (0 : Int32)), (0, .ref a0)]) hx hb dX12_fromPad_1 rfl hl (by decide) rfl (fun ls hl => hp_n (n := 2) rfl ?_)
  exact J2 n α s.heap [] B σ hM (0 : Int32) ls (lv_sub hl [1, 0] rfl) hf
def f_X12_foldsIn (n : Nat) : Nat → ms_T → Int32 → Int32 → Int32 → Option (Int32 × ms_T)
  | 0, _, _, _, _ => none
  | d + 1, σ, a1, a2, a3 =>
    if a3 = (1 : Int32) then
      some (a1, σ)
    else
      ms_b (f_X12_part0 n a3) fun rh2 =>
      if rh2 ≤ a2 then
        ms_c ((f_X12_foldsIn n d) σ a1 (a2 - rh2) (a3 - rh2)) fun rh4 σh4 =>
        ms_l (ms_sI σh4 658 ((ms_I σh4 658) + (1 : Int32))) fun σh5 =>
        ms_g ((ms_I σh5 658) - (1 : Int32)) 128 <|
        ms_b (f_X12_both n σh5 (ms_E σh5 44 (((ms_I σh5 658) - (1 : Int32))).toNatClampNeg) rh4) fun rh7 =>
        some (rh7, σh5)
      else
        ms_c ((f_X12_foldsIn n d) σ a1 a2 rh2) fun rh8 σh8 =>
        ms_l (ms_sI σh8 658 ((ms_I σh8 658) + (1 : Int32))) fun σh9 =>
        ms_g ((ms_I σh9 658) - (1 : Int32)) 128 <|
        ms_b (f_X12_both n σh9 rh8 (ms_E σh9 44 (((ms_I σh9 658) - (1 : Int32))).toNatClampNeg)) fun rh11 =>
        some (rh11, σh9)
set_option maxRecDepth 100000 in
set_option maxHeartbeats 4000000 in
theorem m_X12_foldsIn (n : Nat) : ∀ (d : Nat) (Γ : hp_G) (l : Launch) (α : hp_T) (a0 : Nat) (ρ : Nat → Nat) (σ : ms_T) (hM : hm_M α a0 ρ σ) (a1 : Int32) (a2 : Int32) (a3 : Int32) (res : (Int32 × ms_T)) (hf : f_X12_foldsIn n d σ a1 a2 a3 = some res), Met l yX12_foldsIn (hp_ws yX12_foldsIn cX12_foldsIn 6 (some .int)) (hp_rm (d + 1) 0 0) (hp_Pc Γ α [.ref a0, .int a1, .int a2, .int a3]) (hp_Qi Γ (fun r β => r = res.1 ∧ mo α β ∧ hm_M β a0 ρ res.2)) 0 0 (hp_A Γ) := by
  intro d
  induction d with
  | zero => intro Γ l α a0 ρ σ hM a1 a2 a3 res hf; rw [f_X12_foldsIn.eq_1] at hf; cases hf
  | succ d ihM =>
    intro Γ l α a0 ρ σ hM a1 a2 a3 res hf
    rw [f_X12_foldsIn.eq_2] at hf
    refine hp_start (by decide) ?_
    intro p e s m below meth c C hr hlk B0 hnm
    have C : hp_C Γ p m c cX12_foldsIn 6 s ([.ref a0, .int a1, .int a2, .int a3] : List Value).toArray RX12 := C
    have hx := C.1.1
    have hb := C.1.2.1
    have hown := C.1.2.2.2.1
    have hts := C.1.2.2.2.2
    have B : hp_B Γ mo s α α s.heap [] := ⟨B0.1, B0.2.1, mo_rf⟩
    have hl := lv_entry ([.ref a0, .int a1, .int a2, .int a3]) (n := 6) (Nat.le_of_ble_eq_true rfl)
    show W p l e (hp_rm (d + 1 + 1) 0 0) s m ([.ref a0, .int a1, .int a2, .int a3] : List Value).toArray below meth c s.heap [] 0 0 (MQ below (hp_Qi Γ (fun r β => r = res.1 ∧ mo α β ∧ hm_M β a0 ρ res.2)) ([.ref a0, .int a1, .int a2, .int a3] : List Value).toArray s 0 0 (hp_A Γ)) (entryFrame m ([.ref a0, .int a1, .int a2, .int a3] : List Value).toArray 6)
    rw [lg_entry_eq]
    generalize (lg_sl ([.ref a0, .int a1, .int a2, .int a3]) ++ List.replicate (6 - (lg_sl ([.ref a0, .int a1, .int a2, .int a3])).length) Slot.unset).toArray = ls at hl ⊢
    have hl : lv_has ls 6 [(0, .ref a0), (1, .int a1), (2, .int a2), (3, .int a3)] := hl
    refine lv_iload_n hx hb dX12_foldsIn_0 rfl (lv_at hl 3 rfl) (hp_n (n := 1) rfl ?_)
    refine lv_iconst (v := 1) hx hb dX12_foldsIn_1 (by decide) (hp_n (n := 2) rfl ?_)
    refine lv_icmp_ne (tgt := 7) hx hb dX12_foldsIn_2 (by decide) (fun c1 => ?_) (fun c1 => hp_n (n := 5) rfl ?_)
    ·
      replace hf := ms_iF c1 hf
      refine lv_iload_n hx hb dX12_foldsIn_7 rfl (lv_at hl 3 rfl) (hp_n (n := 8) rfl ?_)
      obtain ⟨rh2, qh2, hf⟩ := ms_bE hf
      refine m_cp (pc' := 11) B (hp_runS (As := [.int a3]) (rest := []) C B (m_X12_part0 n Γ l α a3 rh2 qh2) lb_X12_part0 ls_X12_part0 lk_X12_128 rfl (by omega) rfl hl.1 rfl (Nat.le_of_ble_eq_true rfl) dX12_foldsIn_8 ⟨Nat.le_refl _, Nat.le_refl _⟩) rfl (fun Hh2 Lh2 Bh2 => ?_)
      refine lv_istore (lv' := [(4, .int rh2), (0, .ref a0), (1, .int a1), (2, .int a2), (3, .int a3)]) hx hb dX12_foldsIn_11 hl (by decide) rfl (fun ls hl => hp_n (n := 13) rfl ?_)
      refine lv_iload_n hx hb dX12_foldsIn_13 rfl (lv_at hl 3 rfl) (hp_n (n := 14) rfl ?_)
      refine lv_iload hx hb dX12_foldsIn_14 (lv_at hl 0 rfl) (hp_n (n := 16) rfl ?_)
      refine lv_icmp_ge (tgt := 57) hx hb dX12_foldsIn_16 (by decide) (fun c3 => ?_) (fun c3 => hp_n (n := 19) rfl ?_)
      ·
        replace hf := ms_iT c3 hf
        refine lv_aload_n hx hb dX12_foldsIn_57 rfl (lv_at hl 1 rfl) (hp_n (n := 58) rfl ?_)
        refine lv_iload_n hx hb dX12_foldsIn_58 rfl (lv_at hl 2 rfl) (hp_n (n := 59) rfl ?_)
        refine lv_iload_n hx hb dX12_foldsIn_59 rfl (lv_at hl 3 rfl) (hp_n (n := 60) rfl ?_)
        refine lv_iload hx hb dX12_foldsIn_60 (lv_at hl 0 rfl) (hp_n (n := 62) rfl ?_)
        refine lv_isub hx hb dX12_foldsIn_62 (hp_n (n := 63) rfl ?_)
        refine lv_iload_n hx hb dX12_foldsIn_63 rfl (lv_at hl 4 rfl) (hp_n (n := 64) rfl ?_)
        refine lv_iload hx hb dX12_foldsIn_64 (lv_at hl 0 rfl) (hp_n (n := 66) rfl ?_)
        refine lv_isub hx hb dX12_foldsIn_66 (hp_n (n := 67) rfl ?_)
        obtain ⟨rh4, σh4, qh4, hf⟩ := ms_cE hf
        refine m_ci (pc' := 70) (a := a0) (ρ := ρ) Bh2 (hp_runV (As := [.int a1, .int (a2 - rh2), .int (a3 - rh2)]) (rest := []) C Bh2 (ihM Γ l α a0 ρ σ hM a1 (a2 - rh2) (a3 - rh2) (rh4, σh4) qh4) lb_X12_foldsIn lv_X12_foldsIn lk_X12_165 hM.1 rfl (by omega) rfl hl.1 rfl (Nat.le_of_ble_eq_true rfl) dX12_foldsIn_67 ⟨Nat.le_refl _, Nat.le_refl _⟩) rfl (fun αh4 Hh4 Lh4 Bh4 Mh4 => ?_)
        refine lv_istore (lv' := [(5, .int rh4), (4, .int rh2), (0, .ref a0), (1, .int a1), (2, .int a2), (3, .int a3)]) hx hb dX12_foldsIn_70 hl (by decide) rfl (fun ls hl => hp_n (n := 72) rfl ?_)
        refine lv_aload_n hx hb dX12_foldsIn_72 rfl (lv_at hl 2 rfl) (hp_n (n := 73) rfl ?_)
        refine lv_dup hx hb dX12_foldsIn_73 rfl (hp_n (n := 74) rfl ?_)
        refine m_geti (k := 8) (φ := 658) (pc' := 77) C Bh4 Mh4 fl_X12_168 rfl rfl dX12_foldsIn_74 rfl ?_
        refine lv_iconst (v := 1) hx hb dX12_foldsIn_77 (by decide) (hp_n (n := 78) rfl ?_)
        refine lv_iadd hx hb dX12_foldsIn_78 (hp_n (n := 79) rfl ?_)
        refine m_puti (k := 8) (φ := 658) (pc' := 82) C Bh4 Mh4 fl_X12_168 rfl rfl rfl rfl rfl dX12_foldsIn_79 rfl (fun αh5 Hh5 Lh5 σh5 eh5 Bh5 Mh5 => ?_)
        replace hf := ms_lE eh5 hf
        refine lv_aload_n hx hb dX12_foldsIn_82 rfl (lv_at hl 2 rfl) (hp_n (n := 83) rfl ?_)
        refine lv_aload_n hx hb dX12_foldsIn_83 rfl (lv_at hl 2 rfl) (hp_n (n := 84) rfl ?_)
        refine m_getr (κ := 44) (k := 6) (pc' := 87) C Bh5 Mh5 fl_X12_22 rfl (by decide) dX12_foldsIn_84 rfl ?_
        refine lv_aload_n hx hb dX12_foldsIn_87 rfl (lv_at hl 2 rfl) (hp_n (n := 88) rfl ?_)
        refine m_geti (k := 8) (φ := 658) (pc' := 91) C Bh5 Mh5 fl_X12_168 rfl rfl dX12_foldsIn_88 rfl ?_
        refine lv_iconst (v := 1) hx hb dX12_foldsIn_91 (by decide) (hp_n (n := 92) rfl ?_)
        refine lv_isub hx hb dX12_foldsIn_92 (hp_n (n := 93) rfl ?_)
        obtain ⟨g6, hf⟩ := ms_gE hf
        refine m_ial (κ := 44) (φ := 656) (n := 128) (pc' := 94) C Bh5 Mh5 (by decide) (by decide) rfl g6 dX12_foldsIn_93 rfl ?_
        refine lv_iload hx hb dX12_foldsIn_94 (lv_at hl 0 rfl) (hp_n (n := 96) rfl ?_)
        obtain ⟨rh7, qh7, hf⟩ := ms_bE hf
        refine m_cp (pc' := 99) Bh5 (hp_runV (As := [.int (ms_E σh5 44 (((ms_I σh5 658) - (1 : Int32))).toNatClampNeg), .int rh4]) (rest := []) C Bh5 (m_X12_both n Γ l αh5 a0 ρ σh5 Mh5 (ms_E σh5 44 (((ms_I σh5 658) - (1 : Int32))).toNatClampNeg) rh4 rh7 qh7) lb_X12_both lv_X12_both lk_X12_136 Mh5.1 rfl (by omega) rfl hl.1 rfl (Nat.le_of_ble_eq_true rfl) dX12_foldsIn_96 ⟨Nat.le_refl _, Nat.le_refl _⟩) rfl (fun Hh7 Lh7 Bh7 => ?_)
        cases hf
        exact q_iret C Bh7 hr hlk ⟨rfl, Bh7.2.2, Mh5⟩ dX12_foldsIn_99
      ·
        replace hf := ms_iF c3 hf
        refine lv_aload_n hx hb dX12_foldsIn_19 rfl (lv_at hl 1 rfl) (hp_n (n := 20) rfl ?_)
        refine lv_iload_n hx hb dX12_foldsIn_20 rfl (lv_at hl 2 rfl) (hp_n (n := 21) rfl ?_)
        refine lv_iload_n hx hb dX12_foldsIn_21 rfl (lv_at hl 3 rfl) (hp_n (n := 22) rfl ?_)
        refine lv_iload hx hb dX12_foldsIn_22 (lv_at hl 0 rfl) (hp_n (n := 24) rfl ?_)
        obtain ⟨rh8, σh8, qh8, hf⟩ := ms_cE hf
        refine m_ci (pc' := 27) (a := a0) (ρ := ρ) Bh2 (hp_runV (As := [.int a1, .int a2, .int rh2]) (rest := []) C Bh2 (ihM Γ l α a0 ρ σ hM a1 a2 rh2 (rh8, σh8) qh8) lb_X12_foldsIn lv_X12_foldsIn lk_X12_165 hM.1 rfl (by omega) rfl hl.1 rfl (Nat.le_of_ble_eq_true rfl) dX12_foldsIn_24 ⟨Nat.le_refl _, Nat.le_refl _⟩) rfl (fun αh8 Hh8 Lh8 Bh8 Mh8 => ?_)
        refine lv_istore (lv' := [(5, .int rh8), (4, .int rh2), (0, .ref a0), (1, .int a1), (2, .int a2), (3, .int a3)]) hx hb dX12_foldsIn_27 hl (by decide) rfl (fun ls hl => hp_n (n := 29) rfl ?_)
        refine lv_aload_n hx hb dX12_foldsIn_29 rfl (lv_at hl 2 rfl) (hp_n (n := 30) rfl ?_)
        refine lv_dup hx hb dX12_foldsIn_30 rfl (hp_n (n := 31) rfl ?_)
        refine m_geti (k := 8) (φ := 658) (pc' := 34) C Bh8 Mh8 fl_X12_168 rfl rfl dX12_foldsIn_31 rfl ?_
        refine lv_iconst (v := 1) hx hb dX12_foldsIn_34 (by decide) (hp_n (n := 35) rfl ?_)
        refine lv_iadd hx hb dX12_foldsIn_35 (hp_n (n := 36) rfl ?_)
        refine m_puti (k := 8) (φ := 658) (pc' := 39) C Bh8 Mh8 fl_X12_168 rfl rfl rfl rfl rfl dX12_foldsIn_36 rfl (fun αh9 Hh9 Lh9 σh9 eh9 Bh9 Mh9 => ?_)
        replace hf := ms_lE eh9 hf
        refine lv_aload_n hx hb dX12_foldsIn_39 rfl (lv_at hl 2 rfl) (hp_n (n := 40) rfl ?_)
        refine lv_iload hx hb dX12_foldsIn_40 (lv_at hl 0 rfl) (hp_n (n := 42) rfl ?_)
        refine lv_aload_n hx hb dX12_foldsIn_42 rfl (lv_at hl 2 rfl) (hp_n (n := 43) rfl ?_)
        refine m_getr (κ := 44) (k := 6) (pc' := 46) C Bh9 Mh9 fl_X12_22 rfl (by decide) dX12_foldsIn_43 rfl ?_
        refine lv_aload_n hx hb dX12_foldsIn_46 rfl (lv_at hl 2 rfl) (hp_n (n := 47) rfl ?_)
        refine m_geti (k := 8) (φ := 658) (pc' := 50) C Bh9 Mh9 fl_X12_168 rfl rfl dX12_foldsIn_47 rfl ?_
        refine lv_iconst (v := 1) hx hb dX12_foldsIn_50 (by decide) (hp_n (n := 51) rfl ?_)
        refine lv_isub hx hb dX12_foldsIn_51 (hp_n (n := 52) rfl ?_)
        obtain ⟨g10, hf⟩ := ms_gE hf
        refine m_ial (κ := 44) (φ := 656) (n := 128) (pc' := 53) C Bh9 Mh9 (by decide) (by decide) rfl g10 dX12_foldsIn_52 rfl ?_
        obtain ⟨rh11, qh11, hf⟩ := ms_bE hf
        refine m_cp (pc' := 56) Bh9 (hp_runV (As := [.int rh8, .int (ms_E σh9 44 (((ms_I σh9 658) - (1 : Int32))).toNatClampNeg)]) (rest := []) C Bh9 (m_X12_both n Γ l αh9 a0 ρ σh9 Mh9 rh8 (ms_E σh9 44 (((ms_I σh9 658) - (1 : Int32))).toNatClampNeg) rh11 qh11) lb_X12_both lv_X12_both lk_X12_136 Mh9.1 rfl (by omega) rfl hl.1 rfl (Nat.le_of_ble_eq_true rfl) dX12_foldsIn_53 ⟨Nat.le_refl _, Nat.le_refl _⟩) rfl (fun Hh11 Lh11 Bh11 => ?_)
        cases hf
        exact q_iret C Bh11 hr hlk ⟨rfl, Bh11.2.2, Mh9⟩ dX12_foldsIn_56
    ·
      replace hf := ms_iT c1 hf
      refine lv_iload_n hx hb dX12_foldsIn_5 rfl (lv_at hl 1 rfl) (hp_n (n := 6) rfl ?_)
      cases hf
      exact q_iret C B hr hlk ⟨rfl, B.2.2, hM⟩ dX12_foldsIn_6
def f_X12_folded (n : Nat) (σ : ms_T) (a1 : Int32) (a2 : Int32) (a3 : Int32) : Option (Int32 × ms_T) :=
  ms_l (ms_sI σ 658 (0 : Int32)) fun σh1 =>
  ms_c (f_X12_foldsIn n 40 σh1 a1 a2 a3) fun rh2 σh2 =>
  some (rh2, σh2)
set_option maxRecDepth 100000 in
set_option maxHeartbeats 4000000 in
theorem m_X12_folded (n : Nat) (Γ : hp_G) (l : Launch) (α : hp_T) (a0 : Nat) (ρ : Nat → Nat) (σ : ms_T) (hM : hm_M α a0 ρ σ) (a1 : Int32) (a2 : Int32) (a3 : Int32) (res : (Int32 × ms_T)) (hf : f_X12_folded n σ a1 a2 a3 = some res) : Met l yX12_folded (hp_ws yX12_folded cX12_folded 4 (some .int)) (hp_rm 42 0 0) (hp_Pc Γ α [.ref a0, .int a1, .int a2, .int a3]) (hp_Qi Γ (fun r β => r = res.1 ∧ mo α β ∧ hm_M β a0 ρ res.2)) 0 0 (hp_A Γ) := by
  unfold f_X12_folded at hf
  refine hp_start (by decide) ?_
  intro p e s m below meth c C hr hlk B0 hnm
  have C : hp_C Γ p m c cX12_folded 4 s ([.ref a0, .int a1, .int a2, .int a3] : List Value).toArray RX12 := C
  have hx := C.1.1
  have hb := C.1.2.1
  have hown := C.1.2.2.2.1
  have hts := C.1.2.2.2.2
  have B : hp_B Γ mo s α α s.heap [] := ⟨B0.1, B0.2.1, mo_rf⟩
  have hl := lv_entry ([.ref a0, .int a1, .int a2, .int a3]) (n := 4) (Nat.le_of_ble_eq_true rfl)
  show W p l e (hp_rm 42 0 0) s m ([.ref a0, .int a1, .int a2, .int a3] : List Value).toArray below meth c s.heap [] 0 0 (MQ below (hp_Qi Γ (fun r β => r = res.1 ∧ mo α β ∧ hm_M β a0 ρ res.2)) ([.ref a0, .int a1, .int a2, .int a3] : List Value).toArray s 0 0 (hp_A Γ)) (entryFrame m ([.ref a0, .int a1, .int a2, .int a3] : List Value).toArray 4)
  rw [lg_entry_eq]
  generalize (lg_sl ([.ref a0, .int a1, .int a2, .int a3]) ++ List.replicate (4 - (lg_sl ([.ref a0, .int a1, .int a2, .int a3])).length) Slot.unset).toArray = ls at hl ⊢
  have hl : lv_has ls 4 [(0, .ref a0), (1, .int a1), (2, .int a2), (3, .int a3)] := hl
  refine lv_aload_n hx hb dX12_folded_0 rfl (lv_at hl 0 rfl) (hp_n (n := 1) rfl ?_)
  refine lv_iconst (v := 0) hx hb dX12_folded_1 (by decide) (hp_n (n := 2) rfl ?_)
  refine m_puti (k := 8) (φ := 658) (pc' := 5) C B hM fl_X12_168 rfl rfl rfl rfl rfl dX12_folded_2 rfl (fun αh1 Hh1 Lh1 σh1 eh1 Bh1 Mh1 => ?_)
  replace hf := ms_lE eh1 hf
  refine lv_aload_n hx hb dX12_folded_5 rfl (lv_at hl 0 rfl) (hp_n (n := 6) rfl ?_)
  refine lv_iload_n hx hb dX12_folded_6 rfl (lv_at hl 1 rfl) (hp_n (n := 7) rfl ?_)
  refine lv_iload_n hx hb dX12_folded_7 rfl (lv_at hl 2 rfl) (hp_n (n := 8) rfl ?_)
  refine lv_iload_n hx hb dX12_folded_8 rfl (lv_at hl 3 rfl) (hp_n (n := 9) rfl ?_)
  obtain ⟨rh2, σh2, qh2, hf⟩ := ms_cE hf
  refine m_ci (pc' := 12) (a := a0) (ρ := ρ) Bh1 (hp_runV (As := [.int a1, .int a2, .int a3]) (rest := []) C Bh1 (m_X12_foldsIn n 40 Γ l αh1 a0 ρ σh1 Mh1 a1 a2 a3 (rh2, σh2) qh2) lb_X12_foldsIn lv_X12_foldsIn lk_X12_165 Mh1.1 rfl (by decide) rfl hl.1 rfl (Nat.le_of_ble_eq_true rfl) dX12_folded_9 ⟨Nat.le_refl _, Nat.le_refl _⟩) rfl (fun αh2 Hh2 Lh2 Bh2 Mh2 => ?_)
  cases hf
  exact q_iret C Bh2 hr hlk ⟨rfl, Bh2.2.2, Mh2⟩ dX12_folded_12
def f_X12_why (n : Nat) (σ : ms_T) (a1 : Int32) (a2 : Int32) (a3 : Int32) : Option Int32 :=
  if a2 ≤ a1 then
    if a1 ≤ a2 then
      if a3 = 0 then
        some (3 : Int32)
      else
        some (0 : Int32)
    else
      some (2 : Int32)
  else
    some (1 : Int32)
set_option maxRecDepth 100000 in
set_option maxHeartbeats 4000000 in
theorem m_X12_why (n : Nat) (Γ : hp_G) (l : Launch) (α : hp_T) (a0 : Nat) (ρ : Nat → Nat) (σ : ms_T) (hM : hm_M α a0 ρ σ) (a1 : Int32) (a2 : Int32) (a3 : Int32) (res : Int32) (hf : f_X12_why n σ a1 a2 a3 = some res) : Met l yX12_why (hp_ws yX12_why cX12_why 4 (some .int)) (hp_rm 0 0 0) (hp_Pc Γ α [.ref a0, .int a1, .int a2, .int a3]) (hp_Qi Γ (fun r β => β = α ∧ r = res)) 0 0 (hp_A Γ) := by
  unfold f_X12_why at hf
  refine hp_start (by decide) ?_
  intro p e s m below meth c C hr hlk B0 hnm
  have C : hp_C Γ p m c cX12_why 4 s ([.ref a0, .int a1, .int a2, .int a3] : List Value).toArray RX12 := C
  have hx := C.1.1
  have hb := C.1.2.1
  have hown := C.1.2.2.2.1
  have hts := C.1.2.2.2.2
  have B : hp_B Γ (fun _ _ => True) s α α s.heap [] := ⟨B0.1, B0.2.1, trivial⟩
  have hl := lv_entry ([.ref a0, .int a1, .int a2, .int a3]) (n := 4) (Nat.le_of_ble_eq_true rfl)
  show W p l e (hp_rm 0 0 0) s m ([.ref a0, .int a1, .int a2, .int a3] : List Value).toArray below meth c s.heap [] 0 0 (MQ below (hp_Qi Γ (fun r β => β = α ∧ r = res)) ([.ref a0, .int a1, .int a2, .int a3] : List Value).toArray s 0 0 (hp_A Γ)) (entryFrame m ([.ref a0, .int a1, .int a2, .int a3] : List Value).toArray 4)
  rw [lg_entry_eq]
  generalize (lg_sl ([.ref a0, .int a1, .int a2, .int a3]) ++ List.replicate (4 - (lg_sl ([.ref a0, .int a1, .int a2, .int a3])).length) Slot.unset).toArray = ls at hl ⊢
  have hl : lv_has ls 4 [(0, .ref a0), (1, .int a1), (2, .int a2), (3, .int a3)] := hl
  refine lv_iload_n hx hb dX12_why_0 rfl (lv_at hl 1 rfl) (hp_n (n := 1) rfl ?_)
  refine lv_iload_n hx hb dX12_why_1 rfl (lv_at hl 2 rfl) (hp_n (n := 2) rfl ?_)
  refine lv_icmp_ge (tgt := 9) hx hb dX12_why_2 (by decide) (fun c1 => ?_) (fun c1 => hp_n (n := 5) rfl ?_)
  ·
    replace hf := ms_iT c1 hf
    refine lv_iload_n hx hb dX12_why_9 rfl (lv_at hl 1 rfl) (hp_n (n := 10) rfl ?_)
    refine lv_iload_n hx hb dX12_why_10 rfl (lv_at hl 2 rfl) (hp_n (n := 11) rfl ?_)
    refine lv_icmp_le (tgt := 18) hx hb dX12_why_11 (by decide) (fun c2 => ?_) (fun c2 => hp_n (n := 14) rfl ?_)
    ·
      replace hf := ms_iT c2 hf
      refine lv_iload_n hx hb dX12_why_18 rfl (lv_at hl 3 rfl) (hp_n (n := 19) rfl ?_)
      refine lv_if_eq (tgt := 26) hx hb dX12_why_19 (by decide) (fun c3 => ?_) (fun c3 => hp_n (n := 22) rfl ?_)
      ·
        replace hf := ms_iT c3 hf
        refine lv_iconst (v := 3) hx hb dX12_why_26 (by decide) (hp_n (n := 27) rfl ?_)
        cases hf
        exact q_iret C B hr hlk ⟨rfl, rfl⟩ dX12_why_27
      ·
        replace hf := ms_iF c3 hf
        refine lv_iconst (v := 0) hx hb dX12_why_22 (by decide) (hp_n (n := 23) rfl ?_)
        refine lv_goto (tgt := 27) hx hb dX12_why_23 (by decide) ?_
        cases hf
        exact q_iret C B hr hlk ⟨rfl, rfl⟩ dX12_why_27
    ·
      replace hf := ms_iF c2 hf
      refine lv_iconst (v := 2) hx hb dX12_why_14 (by decide) (hp_n (n := 15) rfl ?_)
      refine lv_goto (tgt := 27) hx hb dX12_why_15 (by decide) ?_
      cases hf
      exact q_iret C B hr hlk ⟨rfl, rfl⟩ dX12_why_27
  ·
    replace hf := ms_iF c1 hf
    refine lv_iconst (v := 1) hx hb dX12_why_5 (by decide) (hp_n (n := 6) rfl ?_)
    refine lv_goto (tgt := 27) hx hb dX12_why_6 (by decide) ?_
    cases hf
    exact q_iret C B hr hlk ⟨rfl, rfl⟩ dX12_why_27
def f_X12_whyIn_J41 (n : Nat) (σh3 : ms_T) (w0_h3 : Int32) (w1_h3 : Int32) (w2_h3 : Int32) : Option (Int32 × ms_T) :=
  ms_b (f_X12_why n σh3 w2_h3 w1_h3 w0_h3) fun rh4 =>
  some (rh4, σh3)
def f_X12_whyIn_J36 (n : Nat) (σh5 : ms_T) (w0_h5 : Int32) (w1_h5 : Int32) : Option (Int32 × ms_T) :=
  f_X12_whyIn_J41 n σh5 (1 : Int32) w0_h5 w1_h5
def f_X12_whyIn (n : Nat) (σ : ms_T) (a1 : Int32) (a2 : Int32) (a3 : Int32) (a4 : Int32) (a5 : Int32) : Option (Int32 × ms_T) :=
  ms_b (f_X12_inclusion n σ a3 a4) fun σh1 =>
  ms_l ((ms_I σh1 657)) fun x2 =>
  if a1 = x2 then
    ms_c (f_X12_folded n σh1 a2 a3 a4) fun rh7 σh7 =>
    if rh7 = a5 then
      f_X12_whyIn_J36 n σh7 x2 a1
    else
      f_X12_whyIn_J41 n σh7 (0 : Int32) x2 a1
  else
    f_X12_whyIn_J36 n σh1 x2 a1
set_option maxRecDepth 100000 in
set_option maxHeartbeats 4000000 in
theorem m_X12_whyIn (n : Nat) (Γ : hp_G) (l : Launch) (α : hp_T) (a0 : Nat) (ρ : Nat → Nat) (σ : ms_T) (hM : hm_M α a0 ρ σ) (a1 : Int32) (a2 : Int32) (a3 : Int32) (a4 : Int32) (a5 : Int32) (res : (Int32 × ms_T)) (hf : f_X12_whyIn n σ a1 a2 a3 a4 a5 = some res) : Met l yX12_whyIn (hp_ws yX12_whyIn cX12_whyIn 7 (some .int)) (hp_rm 43 0 0) (hp_Pc Γ α [.ref a0, .int a1, .int a2, .int a3, .int a4, .int a5]) (hp_Qi Γ (fun r β => r = res.1 ∧ mo α β ∧ hm_M β a0 ρ res.2)) 0 0 (hp_A Γ) := by
  unfold f_X12_whyIn at hf
  refine hp_start (by decide) ?_
  intro p e s m below meth c C hr hlk B0 hnm
  have C : hp_C Γ p m c cX12_whyIn 7 s ([.ref a0, .int a1, .int a2, .int a3, .int a4, .int a5] : List Value).toArray RX12 := C
  have hx := C.1.1
  have hb := C.1.2.1
  have hown := C.1.2.2.2.1
  have hts := C.1.2.2.2.2
  have B : hp_B Γ mo s α α s.heap [] := ⟨B0.1, B0.2.1, mo_rf⟩
  have hl := lv_entry ([.ref a0, .int a1, .int a2, .int a3, .int a4, .int a5]) (n := 7) (Nat.le_of_ble_eq_true rfl)
  show W p l e (hp_rm 43 0 0) s m ([.ref a0, .int a1, .int a2, .int a3, .int a4, .int a5] : List Value).toArray below meth c s.heap [] 0 0 (MQ below (hp_Qi Γ (fun r β => r = res.1 ∧ mo α β ∧ hm_M β a0 ρ res.2)) ([.ref a0, .int a1, .int a2, .int a3, .int a4, .int a5] : List Value).toArray s 0 0 (hp_A Γ)) (entryFrame m ([.ref a0, .int a1, .int a2, .int a3, .int a4, .int a5] : List Value).toArray 7)
  rw [lg_entry_eq]
  generalize (lg_sl ([.ref a0, .int a1, .int a2, .int a3, .int a4, .int a5]) ++ List.replicate (7 - (lg_sl ([.ref a0, .int a1, .int a2, .int a3, .int a4, .int a5])).length) Slot.unset).toArray = ls at hl ⊢
  have hl : lv_has ls 7 [(0, .ref a0), (1, .int a1), (2, .int a2), (3, .int a3), (4, .int a4), (5, .int a5)] := hl
  refine lv_aload_n hx hb dX12_whyIn_0 rfl (lv_at hl 0 rfl) (hp_n (n := 1) rfl ?_)
  refine lv_iload_n hx hb dX12_whyIn_1 rfl (lv_at hl 3 rfl) (hp_n (n := 2) rfl ?_)
  refine lv_iload hx hb dX12_whyIn_2 (lv_at hl 4 rfl) (hp_n (n := 4) rfl ?_)
  obtain ⟨σh1, qh1, hf⟩ := ms_bE hf
  refine m_cv (pc' := 7) (a := a0) (ρ := ρ) B (hp_runV (As := [.int a3, .int a4]) (rest := []) C B (m_X12_inclusion n Γ l α a0 ρ σ hM a3 a4 σh1 qh1) lb_X12_inclusion lv_X12_inclusion lk_X12_171 hM.1 rfl (by decide) rfl hl.1 rfl (Nat.le_of_ble_eq_true rfl) dX12_whyIn_4 ⟨Nat.le_refl _, Nat.le_refl _⟩) rfl (fun αh1 Hh1 Lh1 Bh1 Mh1 => ?_)
  refine lv_aload_n hx hb dX12_whyIn_7 rfl (lv_at hl 0 rfl) (hp_n (n := 8) rfl ?_)
  refine m_geti (k := 7) (φ := 657) (pc' := 11) C Bh1 Mh1 fl_X12_139 rfl rfl dX12_whyIn_8 rfl ?_
  refine lv_topi (fun x2 ex2 => ?_)
  replace hf := ms_lE ex2 hf
  refine lv_istore (lv' := [(6, .int x2), (0, .ref a0), (1, .int a1), (2, .int a2), (3, .int a3), (4, .int a4), (5, .int a5)]) hx hb dX12_whyIn_11 hl (by decide) rfl (fun ls hl => hp_n (n := 13) rfl ?_)
  refine lv_aload_n hx hb dX12_whyIn_13 rfl (lv_at hl 1 rfl) (hp_n (n := 14) rfl ?_)
  refine lv_iload_n hx hb dX12_whyIn_14 rfl (lv_at hl 2 rfl) (hp_n (n := 15) rfl ?_)
  refine lv_iload hx hb dX12_whyIn_15 (lv_at hl 0 rfl) (hp_n (n := 17) rfl ?_)
  refine lv_iload_n hx hb dX12_whyIn_17 rfl (lv_at hl 2 rfl) (hp_n (n := 18) rfl ?_)
  refine lv_iload hx hb dX12_whyIn_18 (lv_at hl 0 rfl) (hp_n (n := 20) rfl ?_)
  have J41 : ∀ (αh3 : hp_T) (Hh3 : Heap) (Lh3 : List Loc) (Bh3 : hp_B Γ mo s α αh3 Hh3 Lh3) (σh3 : ms_T) (Mh3 : hm_M αh3 a0 ρ σh3) (w0_h3 : Int32) (w1_h3 : Int32) (w2_h3 : Int32) (ls : Array Slot) (hl : lv_has ls 7 []) (hf : f_X12_whyIn_J41 n σh3 w0_h3 w1_h3 w2_h3 = some res), W p l e (hp_rm 43 0 0) s m ([.ref a0, .int a1, .int a2, .int a3, .int a4, .int a5] : List Value).toArray below meth c Hh3 Lh3 0 0 (MQ below (hp_Qi Γ (fun r β => r = res.1 ∧ mo α β ∧ hm_M β a0 ρ res.2)) ([.ref a0, .int a1, .int a2, .int a3, .int a4, .int a5] : List Value).toArray s 0 0 (hp_A Γ)) (F0 m 41 ls [.int w0_h3, .int w1_h3, .int w2_h3, .ref a0]) := by
    intro αh3 Hh3 Lh3 Bh3 σh3 Mh3 w0_h3 w1_h3 w2_h3 ls hl hf
    unfold f_X12_whyIn_J41 at hf
    obtain ⟨rh4, qh4, hf⟩ := ms_bE hf
    refine m_cp (pc' := 44) Bh3 (hp_runV (As := [.int w2_h3, .int w1_h3, .int w0_h3]) (rest := []) C Bh3 (m_X12_why n Γ l αh3 a0 ρ σh3 Mh3 w2_h3 w1_h3 w0_h3 rh4 qh4) lb_X12_why lv_X12_why lk_X12_177 Mh3.1 rfl (by decide) rfl hl.1 rfl (Nat.le_of_ble_eq_true rfl) dX12_whyIn_41 ⟨Nat.le_refl _, Nat.le_refl _⟩) rfl (fun Hh4 Lh4 Bh4 => ?_)
    cases hf
    exact q_iret C Bh4 hr hlk ⟨rfl, Bh4.2.2, Mh3⟩ dX12_whyIn_44
  have J36 : ∀ (αh5 : hp_T) (Hh5 : Heap) (Lh5 : List Loc) (Bh5 : hp_B Γ mo s α αh5 Hh5 Lh5) (σh5 : ms_T) (Mh5 : hm_M αh5 a0 ρ σh5) (w0_h5 : Int32) (w1_h5 : Int32) (ls : Array Slot) (hl : lv_has ls 7 []) (hf : f_X12_whyIn_J36 n σh5 w0_h5 w1_h5 = some res), W p l e (hp_rm 43 0 0) s m ([.ref a0, .int a1, .int a2, .int a3, .int a4, .int a5] : List Value).toArray below meth c Hh5 Lh5 0 0 (MQ below (hp_Qi Γ (fun r β => r = res.1 ∧ mo α β ∧ hm_M β a0 ρ res.2)) ([.ref a0, .int a1, .int a2, .int a3, .int a4, .int a5] : List Value).toArray s 0 0 (hp_A Γ)) (F0 m 36 ls [.int w0_h5, .int w1_h5, .ref a0]) := by
    intro αh5 Hh5 Lh5 Bh5 σh5 Mh5 w0_h5 w1_h5 ls hl hf
    unfold f_X12_whyIn_J36 at hf
    refine lv_iconst (v := 1) hx hb dX12_whyIn_36 (by decide) (hp_n (n := 37) rfl ?_)
    refine lv_goto (tgt := 41) hx hb dX12_whyIn_37 (by decide) ?_
    exact J41 αh5 Hh5 Lh5 Bh5 σh5 Mh5 (1 : Int32) w0_h5 w1_h5 ls (lv_sub hl [] rfl) hf
  refine lv_icmp_ne (tgt := 36) hx hb dX12_whyIn_20 (by decide) (fun c6 => ?_) (fun c6 => hp_n (n := 23) rfl ?_)
  ·
    replace hf := ms_iF c6 hf
    exact J36 αh1 Hh1 Lh1 Bh1 σh1 Mh1 x2 a1 ls (lv_sub hl [] rfl) hf
  ·
    replace hf := ms_iT c6 hf
    refine lv_aload_n hx hb dX12_whyIn_23 rfl (lv_at hl 1 rfl) (hp_n (n := 24) rfl ?_)
    refine lv_iload_n hx hb dX12_whyIn_24 rfl (lv_at hl 3 rfl) (hp_n (n := 25) rfl ?_)
    refine lv_iload_n hx hb dX12_whyIn_25 rfl (lv_at hl 4 rfl) (hp_n (n := 26) rfl ?_)
    refine lv_iload hx hb dX12_whyIn_26 (lv_at hl 5 rfl) (hp_n (n := 28) rfl ?_)
    obtain ⟨rh7, σh7, qh7, hf⟩ := ms_cE hf
    refine m_ci (pc' := 31) (a := a0) (ρ := ρ) Bh1 (hp_runV (As := [.int a2, .int a3, .int a4]) (rest := [.int x2, .int a1, .ref a0]) C Bh1 (m_X12_folded n Γ l αh1 a0 ρ σh1 Mh1 a2 a3 a4 (rh7, σh7) qh7) lb_X12_folded lv_X12_folded lk_X12_174 Mh1.1 rfl (by decide) rfl hl.1 rfl (Nat.le_of_ble_eq_true rfl) dX12_whyIn_28 ⟨Nat.le_refl _, Nat.le_refl _⟩) rfl (fun αh7 Hh7 Lh7 Bh7 Mh7 => ?_)
    refine lv_iload hx hb dX12_whyIn_31 (lv_at hl 6 rfl) (hp_n (n := 33) rfl ?_)
    refine lv_icmp_ne (tgt := 40) hx hb dX12_whyIn_33 (by decide) (fun c8 => ?_) (fun c8 => hp_n (n := 36) rfl ?_)
    ·
      replace hf := ms_iF c8 hf
      refine lv_iconst (v := 0) hx hb dX12_whyIn_40 (by decide) (hp_n (n := 41) rfl ?_)
      exact J41 αh7 Hh7 Lh7 Bh7 σh7 Mh7 (0 : Int32) x2 a1 ls (lv_sub hl [] rfl) hf
    ·
      replace hf := ms_iT c8 hf
      exact J36 αh7 Hh7 Lh7 Bh7 σh7 Mh7 x2 a1 ls (lv_sub hl [] rfl) hf
def f_X12_foldsGrowth_J157 (n : Nat) (recM : ms_T → Int32 → Int32 → Int32 → Int32 → Option ms_T) (σh3 : ms_T) : Option ms_T :=
  ms_l (ms_sI σh3 658 ((ms_I σh3 658) + (1 : Int32))) fun σh4 =>
  some σh4
def f_X12_foldsGrowth_J50 (n : Nat) (recM : ms_T → Int32 → Int32 → Int32 → Int32 → Option ms_T) (σh20 : ms_T) (w0_h20 : Int32) (w1_h20 : Int32) : Option ms_T :=
  ms_l (ms_sI σh20 658 (w1_h20 + w0_h20)) fun σh21 =>
  some σh21
def f_X12_foldsGrowth_J24 (n : Nat) (recM : ms_T → Int32 → Int32 → Int32 → Int32 → Option ms_T) (σh17 : ms_T) (v4_h17 : Int32) (w0_h17 : Int32) : Option ms_T :=
  ms_l (ms_sI σh17 659 w0_h17) fun σh18 =>
  ms_l (ms_sI σh18 660 (ms_I σh18 659)) fun σh19 =>
  if v4_h17 = 0 then
    f_X12_foldsGrowth_J50 n recM σh19 (1 : Int32) (ms_I σh19 658)
  else
    f_X12_foldsGrowth_J50 n recM σh19 (0 : Int32) (ms_I σh19 658)
def f_X12_foldsGrowth (n : Nat) : Nat → ms_T → Int32 → Int32 → Int32 → Int32 → Option ms_T
  | 0, _, _, _, _, _ => none
  | d + 1, σ, a1, a2, a3, a4 =>
    if a2 = a3 then
      if a4 = 0 then
        ms_g (ms_I σ 658) 128 <|
        f_X12_foldsGrowth_J24 n (f_X12_foldsGrowth n d) σ a4 (ms_E σ 44 ((ms_I σ 658)).toNatClampNeg)
      else
        f_X12_foldsGrowth_J24 n (f_X12_foldsGrowth n d) σ a4 a1
    else
      ms_b (f_X12_part0 n a3) fun rh2 =>
      if rh2 < a2 then
        ms_b ((f_X12_foldsGrowth n d) σ a1 (a2 - rh2) (a3 - rh2) (0 : Int32)) fun σh6 =>
        ms_g (ms_I σh6 658) 128 <|
        ms_b (f_X12_both n σh6 (ms_E σh6 44 ((ms_I σh6 658)).toNatClampNeg) (ms_I σh6 659)) fun rh8 =>
        ms_l (ms_sI σh6 659 rh8) fun σh9 =>
        ms_g (ms_I σh9 658) 128 <|
        ms_b (f_X12_both n σh9 (ms_E σh9 44 ((ms_I σh9 658)).toNatClampNeg) (ms_I σh9 660)) fun rh11 =>
        ms_l (ms_sI σh9 660 rh11) fun σh12 =>
        f_X12_foldsGrowth_J157 n (f_X12_foldsGrowth n d) σh12
      else
        ms_b ((f_X12_foldsGrowth n d) σ a1 a2 rh2 a4) fun σh13 =>
        ms_g (ms_I σh13 658) 128 <|
        ms_b (f_X12_both n σh13 (ms_I σh13 660) (ms_E σh13 44 ((ms_I σh13 658)).toNatClampNeg)) fun rh15 =>
        ms_l (ms_sI σh13 660 rh15) fun σh16 =>
        f_X12_foldsGrowth_J157 n (f_X12_foldsGrowth n d) σh16
set_option maxRecDepth 100000 in
set_option maxHeartbeats 4000000 in
theorem m_X12_foldsGrowth (n : Nat) : ∀ (d : Nat) (Γ : hp_G) (l : Launch) (α : hp_T) (a0 : Nat) (ρ : Nat → Nat) (σ : ms_T) (hM : hm_M α a0 ρ σ) (a1 : Int32) (a2 : Int32) (a3 : Int32) (a4 : Int32) (res : ms_T) (hf : f_X12_foldsGrowth n d σ a1 a2 a3 a4 = some res), Met l yX12_foldsGrowth (hp_ws yX12_foldsGrowth cX12_foldsGrowth 6 none) (hp_rm (d + 1) 0 0) (hp_Pc Γ α [.ref a0, .int a1, .int a2, .int a3, .int a4]) (hp_Qv Γ (fun β => mo α β ∧ hm_M β a0 ρ res)) 0 0 (hp_A Γ) := by
  intro d
  induction d with
  | zero => intro Γ l α a0 ρ σ hM a1 a2 a3 a4 res hf; rw [f_X12_foldsGrowth.eq_1] at hf; cases hf
  | succ d ihM =>
    intro Γ l α a0 ρ σ hM a1 a2 a3 a4 res hf
    rw [f_X12_foldsGrowth.eq_2] at hf
    refine hp_start (by decide) ?_
    intro p e s m below meth c C hr hlk B0 hnm
    have C : hp_C Γ p m c cX12_foldsGrowth 6 s ([.ref a0, .int a1, .int a2, .int a3, .int a4] : List Value).toArray RX12 := C
    have hx := C.1.1
    have hb := C.1.2.1
    have hown := C.1.2.2.2.1
    have hts := C.1.2.2.2.2
    have B : hp_B Γ mo s α α s.heap [] := ⟨B0.1, B0.2.1, mo_rf⟩
    have hl := lv_entry ([.ref a0, .int a1, .int a2, .int a3, .int a4]) (n := 6) (Nat.le_of_ble_eq_true rfl)
    show W p l e (hp_rm (d + 1 + 1) 0 0) s m ([.ref a0, .int a1, .int a2, .int a3, .int a4] : List Value).toArray below meth c s.heap [] 0 0 (MQ below (hp_Qv Γ (fun β => mo α β ∧ hm_M β a0 ρ res)) ([.ref a0, .int a1, .int a2, .int a3, .int a4] : List Value).toArray s 0 0 (hp_A Γ)) (entryFrame m ([.ref a0, .int a1, .int a2, .int a3, .int a4] : List Value).toArray 6)
    rw [lg_entry_eq]
    generalize (lg_sl ([.ref a0, .int a1, .int a2, .int a3, .int a4]) ++ List.replicate (6 - (lg_sl ([.ref a0, .int a1, .int a2, .int a3, .int a4])).length) Slot.unset).toArray = ls at hl ⊢
    have hl : lv_has ls 6 [(0, .ref a0), (1, .int a1), (2, .int a2), (3, .int a3), (4, .int a4)] := hl
    refine lv_iload_n hx hb dX12_foldsGrowth_0 rfl (lv_at hl 2 rfl) (hp_n (n := 1) rfl ?_)
    refine lv_iload_n hx hb dX12_foldsGrowth_1 rfl (lv_at hl 3 rfl) (hp_n (n := 2) rfl ?_)
    refine lv_icmp_ne (tgt := 55) hx hb dX12_foldsGrowth_2 (by decide) (fun c1 => ?_) (fun c1 => hp_n (n := 5) rfl ?_)
    ·
      replace hf := ms_iF c1 hf
      refine lv_iload_n hx hb dX12_foldsGrowth_55 rfl (lv_at hl 3 rfl) (hp_n (n := 56) rfl ?_)
      obtain ⟨rh2, qh2, hf⟩ := ms_bE hf
      refine m_cp (pc' := 59) B (hp_runS (As := [.int a3]) (rest := []) C B (m_X12_part0 n Γ l α a3 rh2 qh2) lb_X12_part0 ls_X12_part0 lk_X12_128 rfl (by omega) rfl hl.1 rfl (Nat.le_of_ble_eq_true rfl) dX12_foldsGrowth_56 ⟨Nat.le_refl _, Nat.le_refl _⟩) rfl (fun Hh2 Lh2 Bh2 => ?_)
      refine lv_istore (lv' := [(5, .int rh2), (0, .ref a0), (1, .int a1), (2, .int a2), (3, .int a3), (4, .int a4)]) hx hb dX12_foldsGrowth_59 hl (by decide) rfl (fun ls hl => hp_n (n := 61) rfl ?_)
      refine lv_iload_n hx hb dX12_foldsGrowth_61 rfl (lv_at hl 3 rfl) (hp_n (n := 62) rfl ?_)
      refine lv_iload hx hb dX12_foldsGrowth_62 (lv_at hl 0 rfl) (hp_n (n := 64) rfl ?_)
      have J157 : ∀ (αh3 : hp_T) (Hh3 : Heap) (Lh3 : List Loc) (Bh3 : hp_B Γ mo s α αh3 Hh3 Lh3) (σh3 : ms_T) (Mh3 : hm_M αh3 a0 ρ σh3) (ls : Array Slot) (hl : lv_has ls 6 [(0, .ref a0)]) (hf : f_X12_foldsGrowth_J157 n (f_X12_foldsGrowth n d) σh3 = some res), W p l e (hp_rm (d + 1 + 1) 0 0) s m ([.ref a0, .int a1, .int a2, .int a3, .int a4] : List Value).toArray below meth c Hh3 Lh3 0 0 (MQ below (hp_Qv Γ (fun β => mo α β ∧ hm_M β a0 ρ res)) ([.ref a0, .int a1, .int a2, .int a3, .int a4] : List Value).toArray s 0 0 (hp_A Γ)) (F0 m 157 ls []) := by
        intro αh3 Hh3 Lh3 Bh3 σh3 Mh3 ls hl hf
        unfold f_X12_foldsGrowth_J157 at hf
        refine lv_aload_n hx hb dX12_foldsGrowth_157 rfl (lv_at hl 0 rfl) (hp_n (n := 158) rfl ?_)
        refine lv_dup hx hb dX12_foldsGrowth_158 rfl (hp_n (n := 159) rfl ?_)
        refine m_geti (k := 8) (φ := 658) (pc' := 162) C Bh3 Mh3 fl_X12_168 rfl rfl dX12_foldsGrowth_159 rfl ?_
        refine lv_iconst (v := 1) hx hb dX12_foldsGrowth_162 (by decide) (hp_n (n := 163) rfl ?_)
        refine lv_iadd hx hb dX12_foldsGrowth_163 (hp_n (n := 164) rfl ?_)
        refine m_puti (k := 8) (φ := 658) (pc' := 167) C Bh3 Mh3 fl_X12_168 rfl rfl rfl rfl rfl dX12_foldsGrowth_164 rfl (fun αh4 Hh4 Lh4 σh4 eh4 Bh4 Mh4 => ?_)
        replace hf := ms_lE eh4 hf
        cases hf
        exact q_vret C Bh4 hr hlk ⟨Bh4.2.2, Mh4⟩ dX12_foldsGrowth_167
      refine lv_icmp_gt (tgt := 101) hx hb dX12_foldsGrowth_64 (by decide) (fun c5 => ?_) (fun c5 => hp_n (n := 67) rfl ?_)
      ·
        replace hf := ms_iT c5 hf
        refine lv_aload_n hx hb dX12_foldsGrowth_101 rfl (lv_at hl 1 rfl) (hp_n (n := 102) rfl ?_)
        refine lv_iload_n hx hb dX12_foldsGrowth_102 rfl (lv_at hl 2 rfl) (hp_n (n := 103) rfl ?_)
        refine lv_iload_n hx hb dX12_foldsGrowth_103 rfl (lv_at hl 3 rfl) (hp_n (n := 104) rfl ?_)
        refine lv_iload hx hb dX12_foldsGrowth_104 (lv_at hl 0 rfl) (hp_n (n := 106) rfl ?_)
        refine lv_isub hx hb dX12_foldsGrowth_106 (hp_n (n := 107) rfl ?_)
        refine lv_iload_n hx hb dX12_foldsGrowth_107 rfl (lv_at hl 4 rfl) (hp_n (n := 108) rfl ?_)
        refine lv_iload hx hb dX12_foldsGrowth_108 (lv_at hl 0 rfl) (hp_n (n := 110) rfl ?_)
        refine lv_isub hx hb dX12_foldsGrowth_110 (hp_n (n := 111) rfl ?_)
        refine lv_iconst (v := 0) hx hb dX12_foldsGrowth_111 (by decide) (hp_n (n := 112) rfl ?_)
        obtain ⟨σh6, qh6, hf⟩ := ms_bE hf
        refine m_cv (pc' := 115) (a := a0) (ρ := ρ) Bh2 (hp_runV (As := [.int a1, .int (a2 - rh2), .int (a3 - rh2), .int (0 : Int32)]) (rest := []) C Bh2 (ihM Γ l α a0 ρ σ hM a1 (a2 - rh2) (a3 - rh2) (0 : Int32) σh6 qh6) lb_X12_foldsGrowth lv_X12_foldsGrowth lk_X12_187 hM.1 rfl (by omega) rfl hl.1 rfl (Nat.le_of_ble_eq_true rfl) dX12_foldsGrowth_112 ⟨Nat.le_refl _, Nat.le_refl _⟩) rfl (fun αh6 Hh6 Lh6 Bh6 Mh6 => ?_)
        refine lv_aload_n hx hb dX12_foldsGrowth_115 rfl (lv_at hl 1 rfl) (hp_n (n := 116) rfl ?_)
        refine lv_aload_n hx hb dX12_foldsGrowth_116 rfl (lv_at hl 1 rfl) (hp_n (n := 117) rfl ?_)
        refine lv_aload_n hx hb dX12_foldsGrowth_117 rfl (lv_at hl 1 rfl) (hp_n (n := 118) rfl ?_)
        refine m_getr (κ := 44) (k := 6) (pc' := 121) C Bh6 Mh6 fl_X12_22 rfl (by decide) dX12_foldsGrowth_118 rfl ?_
        refine lv_aload_n hx hb dX12_foldsGrowth_121 rfl (lv_at hl 1 rfl) (hp_n (n := 122) rfl ?_)
        refine m_geti (k := 8) (φ := 658) (pc' := 125) C Bh6 Mh6 fl_X12_168 rfl rfl dX12_foldsGrowth_122 rfl ?_
        obtain ⟨g7, hf⟩ := ms_gE hf
        refine m_ial (κ := 44) (φ := 656) (n := 128) (pc' := 126) C Bh6 Mh6 (by decide) (by decide) rfl g7 dX12_foldsGrowth_125 rfl ?_
        refine lv_aload_n hx hb dX12_foldsGrowth_126 rfl (lv_at hl 1 rfl) (hp_n (n := 127) rfl ?_)
        refine m_geti (k := 9) (φ := 659) (pc' := 130) C Bh6 Mh6 fl_X12_181 rfl rfl dX12_foldsGrowth_127 rfl ?_
        obtain ⟨rh8, qh8, hf⟩ := ms_bE hf
        refine m_cp (pc' := 133) Bh6 (hp_runV (As := [.int (ms_E σh6 44 ((ms_I σh6 658)).toNatClampNeg), .int (ms_I σh6 659)]) (rest := [.ref a0]) C Bh6 (m_X12_both n Γ l αh6 a0 ρ σh6 Mh6 (ms_E σh6 44 ((ms_I σh6 658)).toNatClampNeg) (ms_I σh6 659) rh8 qh8) lb_X12_both lv_X12_both lk_X12_136 Mh6.1 rfl (by omega) rfl hl.1 rfl (Nat.le_of_ble_eq_true rfl) dX12_foldsGrowth_130 ⟨Nat.le_refl _, Nat.le_refl _⟩) rfl (fun Hh8 Lh8 Bh8 => ?_)
        refine m_puti (k := 9) (φ := 659) (pc' := 136) C Bh8 Mh6 fl_X12_181 rfl rfl rfl rfl rfl dX12_foldsGrowth_133 rfl (fun αh9 Hh9 Lh9 σh9 eh9 Bh9 Mh9 => ?_)
        replace hf := ms_lE eh9 hf
        refine lv_aload_n hx hb dX12_foldsGrowth_136 rfl (lv_at hl 1 rfl) (hp_n (n := 137) rfl ?_)
        refine lv_aload_n hx hb dX12_foldsGrowth_137 rfl (lv_at hl 1 rfl) (hp_n (n := 138) rfl ?_)
        refine lv_aload_n hx hb dX12_foldsGrowth_138 rfl (lv_at hl 1 rfl) (hp_n (n := 139) rfl ?_)
        refine m_getr (κ := 44) (k := 6) (pc' := 142) C Bh9 Mh9 fl_X12_22 rfl (by decide) dX12_foldsGrowth_139 rfl ?_
        refine lv_aload_n hx hb dX12_foldsGrowth_142 rfl (lv_at hl 1 rfl) (hp_n (n := 143) rfl ?_)
        refine m_geti (k := 8) (φ := 658) (pc' := 146) C Bh9 Mh9 fl_X12_168 rfl rfl dX12_foldsGrowth_143 rfl ?_
        obtain ⟨g10, hf⟩ := ms_gE hf
        refine m_ial (κ := 44) (φ := 656) (n := 128) (pc' := 147) C Bh9 Mh9 (by decide) (by decide) rfl g10 dX12_foldsGrowth_146 rfl ?_
        refine lv_aload_n hx hb dX12_foldsGrowth_147 rfl (lv_at hl 1 rfl) (hp_n (n := 148) rfl ?_)
        refine m_geti (k := 10) (φ := 660) (pc' := 151) C Bh9 Mh9 fl_X12_184 rfl rfl dX12_foldsGrowth_148 rfl ?_
        obtain ⟨rh11, qh11, hf⟩ := ms_bE hf
        refine m_cp (pc' := 154) Bh9 (hp_runV (As := [.int (ms_E σh9 44 ((ms_I σh9 658)).toNatClampNeg), .int (ms_I σh9 660)]) (rest := [.ref a0]) C Bh9 (m_X12_both n Γ l αh9 a0 ρ σh9 Mh9 (ms_E σh9 44 ((ms_I σh9 658)).toNatClampNeg) (ms_I σh9 660) rh11 qh11) lb_X12_both lv_X12_both lk_X12_136 Mh9.1 rfl (by omega) rfl hl.1 rfl (Nat.le_of_ble_eq_true rfl) dX12_foldsGrowth_151 ⟨Nat.le_refl _, Nat.le_refl _⟩) rfl (fun Hh11 Lh11 Bh11 => ?_)
        refine m_puti (k := 10) (φ := 660) (pc' := 157) C Bh11 Mh9 fl_X12_184 rfl rfl rfl rfl rfl dX12_foldsGrowth_154 rfl (fun αh12 Hh12 Lh12 σh12 eh12 Bh12 Mh12 => ?_)
        replace hf := ms_lE eh12 hf
        exact J157 αh12 Hh12 Lh12 Bh12 σh12 Mh12 ls (lv_sub hl [1] rfl) hf
      ·
        replace hf := ms_iF c5 hf
        refine lv_aload_n hx hb dX12_foldsGrowth_67 rfl (lv_at hl 1 rfl) (hp_n (n := 68) rfl ?_)
        refine lv_iload_n hx hb dX12_foldsGrowth_68 rfl (lv_at hl 2 rfl) (hp_n (n := 69) rfl ?_)
        refine lv_iload_n hx hb dX12_foldsGrowth_69 rfl (lv_at hl 3 rfl) (hp_n (n := 70) rfl ?_)
        refine lv_iload hx hb dX12_foldsGrowth_70 (lv_at hl 0 rfl) (hp_n (n := 72) rfl ?_)
        refine lv_iload hx hb dX12_foldsGrowth_72 (lv_at hl 5 rfl) (hp_n (n := 74) rfl ?_)
        obtain ⟨σh13, qh13, hf⟩ := ms_bE hf
        refine m_cv (pc' := 77) (a := a0) (ρ := ρ) Bh2 (hp_runV (As := [.int a1, .int a2, .int rh2, .int a4]) (rest := []) C Bh2 (ihM Γ l α a0 ρ σ hM a1 a2 rh2 a4 σh13 qh13) lb_X12_foldsGrowth lv_X12_foldsGrowth lk_X12_187 hM.1 rfl (by omega) rfl hl.1 rfl (Nat.le_of_ble_eq_true rfl) dX12_foldsGrowth_74 ⟨Nat.le_refl _, Nat.le_refl _⟩) rfl (fun αh13 Hh13 Lh13 Bh13 Mh13 => ?_)
        refine lv_aload_n hx hb dX12_foldsGrowth_77 rfl (lv_at hl 1 rfl) (hp_n (n := 78) rfl ?_)
        refine lv_aload_n hx hb dX12_foldsGrowth_78 rfl (lv_at hl 1 rfl) (hp_n (n := 79) rfl ?_)
        refine lv_aload_n hx hb dX12_foldsGrowth_79 rfl (lv_at hl 1 rfl) (hp_n (n := 80) rfl ?_)
        refine m_geti (k := 10) (φ := 660) (pc' := 83) C Bh13 Mh13 fl_X12_184 rfl rfl dX12_foldsGrowth_80 rfl ?_
        refine lv_aload_n hx hb dX12_foldsGrowth_83 rfl (lv_at hl 1 rfl) (hp_n (n := 84) rfl ?_)
        refine m_getr (κ := 44) (k := 6) (pc' := 87) C Bh13 Mh13 fl_X12_22 rfl (by decide) dX12_foldsGrowth_84 rfl ?_
        refine lv_aload_n hx hb dX12_foldsGrowth_87 rfl (lv_at hl 1 rfl) (hp_n (n := 88) rfl ?_)
        refine m_geti (k := 8) (φ := 658) (pc' := 91) C Bh13 Mh13 fl_X12_168 rfl rfl dX12_foldsGrowth_88 rfl ?_
        obtain ⟨g14, hf⟩ := ms_gE hf
        refine m_ial (κ := 44) (φ := 656) (n := 128) (pc' := 92) C Bh13 Mh13 (by decide) (by decide) rfl g14 dX12_foldsGrowth_91 rfl ?_
        obtain ⟨rh15, qh15, hf⟩ := ms_bE hf
        refine m_cp (pc' := 95) Bh13 (hp_runV (As := [.int (ms_I σh13 660), .int (ms_E σh13 44 ((ms_I σh13 658)).toNatClampNeg)]) (rest := [.ref a0]) C Bh13 (m_X12_both n Γ l αh13 a0 ρ σh13 Mh13 (ms_I σh13 660) (ms_E σh13 44 ((ms_I σh13 658)).toNatClampNeg) rh15 qh15) lb_X12_both lv_X12_both lk_X12_136 Mh13.1 rfl (by omega) rfl hl.1 rfl (Nat.le_of_ble_eq_true rfl) dX12_foldsGrowth_92 ⟨Nat.le_refl _, Nat.le_refl _⟩) rfl (fun Hh15 Lh15 Bh15 => ?_)
        refine m_puti (k := 10) (φ := 660) (pc' := 98) C Bh15 Mh13 fl_X12_184 rfl rfl rfl rfl rfl dX12_foldsGrowth_95 rfl (fun αh16 Hh16 Lh16 σh16 eh16 Bh16 Mh16 => ?_)
        replace hf := ms_lE eh16 hf
        refine lv_goto (tgt := 157) hx hb dX12_foldsGrowth_98 (by decide) ?_
        exact J157 αh16 Hh16 Lh16 Bh16 σh16 Mh16 ls (lv_sub hl [1] rfl) hf
    ·
      replace hf := ms_iT c1 hf
      refine lv_aload_n hx hb dX12_foldsGrowth_5 rfl (lv_at hl 0 rfl) (hp_n (n := 6) rfl ?_)
      refine lv_iload hx hb dX12_foldsGrowth_6 (lv_at hl 4 rfl) (hp_n (n := 8) rfl ?_)
      have J24 : ∀ (αh17 : hp_T) (Hh17 : Heap) (Lh17 : List Loc) (Bh17 : hp_B Γ mo s α αh17 Hh17 Lh17) (σh17 : ms_T) (Mh17 : hm_M αh17 a0 ρ σh17) (v4_h17 : Int32) (w0_h17 : Int32) (ls : Array Slot) (hl : lv_has ls 6 [(0, .ref a0), (4, .int v4_h17)]) (hf : f_X12_foldsGrowth_J24 n (f_X12_foldsGrowth n d) σh17 v4_h17 w0_h17 = some res), W p l e (hp_rm (d + 1 + 1) 0 0) s m ([.ref a0, .int a1, .int a2, .int a3, .int a4] : List Value).toArray below meth c Hh17 Lh17 0 0 (MQ below (hp_Qv Γ (fun β => mo α β ∧ hm_M β a0 ρ res)) ([.ref a0, .int a1, .int a2, .int a3, .int a4] : List Value).toArray s 0 0 (hp_A Γ)) (F0 m 24 ls [.int w0_h17, .ref a0]) := by
        intro αh17 Hh17 Lh17 Bh17 σh17 Mh17 v4_h17 w0_h17 ls hl hf
        unfold f_X12_foldsGrowth_J24 at hf
        refine m_puti (k := 9) (φ := 659) (pc' := 27) C Bh17 Mh17 fl_X12_181 rfl rfl rfl rfl rfl dX12_foldsGrowth_24 rfl (fun αh18 Hh18 Lh18 σh18 eh18 Bh18 Mh18 => ?_)
        replace hf := ms_lE eh18 hf
        refine lv_aload_n hx hb dX12_foldsGrowth_27 rfl (lv_at hl 0 rfl) (hp_n (n := 28) rfl ?_)
        refine lv_aload_n hx hb dX12_foldsGrowth_28 rfl (lv_at hl 0 rfl) (hp_n (n := 29) rfl ?_)
        refine m_geti (k := 9) (φ := 659) (pc' := 32) C Bh18 Mh18 fl_X12_181 rfl rfl dX12_foldsGrowth_29 rfl ?_
        refine m_puti (k := 10) (φ := 660) (pc' := 35) C Bh18 Mh18 fl_X12_184 rfl rfl rfl rfl rfl dX12_foldsGrowth_32 rfl (fun αh19 Hh19 Lh19 σh19 eh19 Bh19 Mh19 => ?_)
        replace hf := ms_lE eh19 hf
        refine lv_aload_n hx hb dX12_foldsGrowth_35 rfl (lv_at hl 0 rfl) (hp_n (n := 36) rfl ?_)
        refine lv_dup hx hb dX12_foldsGrowth_36 rfl (hp_n (n := 37) rfl ?_)
        refine m_geti (k := 8) (φ := 658) (pc' := 40) C Bh19 Mh19 fl_X12_168 rfl rfl dX12_foldsGrowth_37 rfl ?_
        refine lv_iload hx hb dX12_foldsGrowth_40 (lv_at hl 1 rfl) (hp_n (n := 42) rfl ?_)
        have J50 : ∀ (αh20 : hp_T) (Hh20 : Heap) (Lh20 : List Loc) (Bh20 : hp_B Γ mo s α αh20 Hh20 Lh20) (σh20 : ms_T) (Mh20 : hm_M αh20 a0 ρ σh20) (w0_h20 : Int32) (w1_h20 : Int32) (ls : Array Slot) (hl : lv_has ls 6 []) (hf : f_X12_foldsGrowth_J50 n (f_X12_foldsGrowth n d) σh20 w0_h20 w1_h20 = some res), W p l e (hp_rm (d + 1 + 1) 0 0) s m ([.ref a0, .int a1, .int a2, .int a3, .int a4] : List Value).toArray below meth c Hh20 Lh20 0 0 (MQ below (hp_Qv Γ (fun β => mo α β ∧ hm_M β a0 ρ res)) ([.ref a0, .int a1, .int a2, .int a3, .int a4] : List Value).toArray s 0 0 (hp_A Γ)) (F0 m 50 ls [.int w0_h20, .int w1_h20, .ref a0]) := by
          intro αh20 Hh20 Lh20 Bh20 σh20 Mh20 w0_h20 w1_h20 ls hl hf
          unfold f_X12_foldsGrowth_J50 at hf
          refine lv_iadd hx hb dX12_foldsGrowth_50 (hp_n (n := 51) rfl ?_)
          refine m_puti (k := 8) (φ := 658) (pc' := 54) C Bh20 Mh20 fl_X12_168 rfl rfl rfl rfl rfl dX12_foldsGrowth_51 rfl (fun αh21 Hh21 Lh21 σh21 eh21 Bh21 Mh21 => ?_)
          replace hf := ms_lE eh21 hf
          cases hf
          exact q_vret C Bh21 hr hlk ⟨Bh21.2.2, Mh21⟩ dX12_foldsGrowth_54
        refine lv_if_eq (tgt := 49) hx hb dX12_foldsGrowth_42 (by decide) (fun c22 => ?_) (fun c22 => hp_n (n := 45) rfl ?_)
        ·
          replace hf := ms_iT c22 hf
          refine lv_iconst (v := 1) hx hb dX12_foldsGrowth_49 (by decide) (hp_n (n := 50) rfl ?_)
          exact J50 αh19 Hh19 Lh19 Bh19 σh19 Mh19 (1 : Int32) (ms_I σh19 658) ls (lv_sub hl [] rfl) hf
        ·
          replace hf := ms_iF c22 hf
          refine lv_iconst (v := 0) hx hb dX12_foldsGrowth_45 (by decide) (hp_n (n := 46) rfl ?_)
          refine lv_goto (tgt := 50) hx hb dX12_foldsGrowth_46 (by decide) ?_
          exact J50 αh19 Hh19 Lh19 Bh19 σh19 Mh19 (0 : Int32) (ms_I σh19 658) ls (lv_sub hl [] rfl) hf
      refine lv_if_eq (tgt := 15) hx hb dX12_foldsGrowth_8 (by decide) (fun c23 => ?_) (fun c23 => hp_n (n := 11) rfl ?_)
      ·
        replace hf := ms_iT c23 hf
        refine lv_aload_n hx hb dX12_foldsGrowth_15 rfl (lv_at hl 0 rfl) (hp_n (n := 16) rfl ?_)
        refine m_getr (κ := 44) (k := 6) (pc' := 19) C B hM fl_X12_22 rfl (by decide) dX12_foldsGrowth_16 rfl ?_
        refine lv_aload_n hx hb dX12_foldsGrowth_19 rfl (lv_at hl 0 rfl) (hp_n (n := 20) rfl ?_)
        refine m_geti (k := 8) (φ := 658) (pc' := 23) C B hM fl_X12_168 rfl rfl dX12_foldsGrowth_20 rfl ?_
        obtain ⟨g24, hf⟩ := ms_gE hf
        refine m_ial (κ := 44) (φ := 656) (n := 128) (pc' := 24) C B hM (by decide) (by decide) rfl g24 dX12_foldsGrowth_23 rfl ?_
        exact J24 α s.heap [] B σ hM a4 (ms_E σ 44 ((ms_I σ 658)).toNatClampNeg) ls (lv_sub hl [0, 4] rfl) hf
      ·
        replace hf := ms_iF c23 hf
        refine lv_iload_n hx hb dX12_foldsGrowth_11 rfl (lv_at hl 1 rfl) (hp_n (n := 12) rfl ?_)
        refine lv_goto (tgt := 24) hx hb dX12_foldsGrowth_12 (by decide) ?_
        exact J24 α s.heap [] B σ hM a4 a1 ls (lv_sub hl [0, 4] rfl) hf
end JN2_22
section JN2_23
def f_X12_whyGrown_J39 (n : Nat) (σh3 : ms_T) (v2_h3 : Int32) (v3_h3 : Int32) (v4_h3 : Int32) (v5_h3 : Int32) : Option (Int32 × ms_T) :=
  if v2_h3 = v4_h3 then
    if v3_h3 = v5_h3 then
      some ((0 : Int32), σh3)
    else
      some ((3 : Int32), σh3)
  else
    if v2_h3 = 0 then
      some ((0 : Int32), σh3)
    else
      ms_l (ms_sI σh3 658 (0 : Int32)) fun σh6 =>
      ms_b (f_X12_foldsGrowth n 40 σh6 v3_h3 v2_h3 v4_h3 (1 : Int32)) fun σh7 =>
      if (ms_I σh7 659) = v3_h3 then
        if (ms_I σh7 660) = v5_h3 then
          some ((0 : Int32), σh7)
        else
          some ((4 : Int32), σh7)
      else
        some ((3 : Int32), σh7)
def f_X12_whyGrown (n : Nat) (σ : ms_T) (a1 : Int32) (a2 : Int32) (a3 : Int32) (a4 : Int32) (a5 : Int32) : Option (Int32 × ms_T) :=
  ms_b (f_X12_growth n σ a2 a4) fun σh1 =>
  if a1 = (ms_I σh1 657) then
    if a2 = 0 then
      if a3 = 0 then
        f_X12_whyGrown_J39 n σh1 a2 a3 a4 a5
      else
        some ((3 : Int32), σh1)
    else
      f_X12_whyGrown_J39 n σh1 a2 a3 a4 a5
  else
    if (ms_I σh1 657) ≤ a1 then
      some ((2 : Int32), σh1)
    else
      some ((1 : Int32), σh1)
set_option maxRecDepth 100000 in
set_option maxHeartbeats 4000000 in
theorem m_X12_whyGrown (n : Nat) (Γ : hp_G) (l : Launch) (α : hp_T) (a0 : Nat) (ρ : Nat → Nat) (σ : ms_T) (hM : hm_M α a0 ρ σ) (a1 : Int32) (a2 : Int32) (a3 : Int32) (a4 : Int32) (a5 : Int32) (res : (Int32 × ms_T)) (hf : f_X12_whyGrown n σ a1 a2 a3 a4 a5 = some res) : Met l yX12_whyGrown (hp_ws yX12_whyGrown cX12_whyGrown 6 (some .int)) (hp_rm 42 0 0) (hp_Pc Γ α [.ref a0, .int a1, .int a2, .int a3, .int a4, .int a5]) (hp_Qi Γ (fun r β => r = res.1 ∧ mo α β ∧ hm_M β a0 ρ res.2)) 0 0 (hp_A Γ) := by
  unfold f_X12_whyGrown at hf
  refine hp_start (by decide) ?_
  intro p e s m below meth c C hr hlk B0 hnm
  have C : hp_C Γ p m c cX12_whyGrown 6 s ([.ref a0, .int a1, .int a2, .int a3, .int a4, .int a5] : List Value).toArray RX12 := C
  have hx := C.1.1
  have hb := C.1.2.1
  have hown := C.1.2.2.2.1
  have hts := C.1.2.2.2.2
  have B : hp_B Γ mo s α α s.heap [] := ⟨B0.1, B0.2.1, mo_rf⟩
  have hl := lv_entry ([.ref a0, .int a1, .int a2, .int a3, .int a4, .int a5]) (n := 6) (Nat.le_of_ble_eq_true rfl)
  show W p l e (hp_rm 42 0 0) s m ([.ref a0, .int a1, .int a2, .int a3, .int a4, .int a5] : List Value).toArray below meth c s.heap [] 0 0 (MQ below (hp_Qi Γ (fun r β => r = res.1 ∧ mo α β ∧ hm_M β a0 ρ res.2)) ([.ref a0, .int a1, .int a2, .int a3, .int a4, .int a5] : List Value).toArray s 0 0 (hp_A Γ)) (entryFrame m ([.ref a0, .int a1, .int a2, .int a3, .int a4, .int a5] : List Value).toArray 6)
  rw [lg_entry_eq]
  generalize (lg_sl ([.ref a0, .int a1, .int a2, .int a3, .int a4, .int a5]) ++ List.replicate (6 - (lg_sl ([.ref a0, .int a1, .int a2, .int a3, .int a4, .int a5])).length) Slot.unset).toArray = ls at hl ⊢
  have hl : lv_has ls 6 [(0, .ref a0), (1, .int a1), (2, .int a2), (3, .int a3), (4, .int a4), (5, .int a5)] := hl
  refine lv_aload_n hx hb dX12_whyGrown_0 rfl (lv_at hl 0 rfl) (hp_n (n := 1) rfl ?_)
  refine lv_iload_n hx hb dX12_whyGrown_1 rfl (lv_at hl 2 rfl) (hp_n (n := 2) rfl ?_)
  refine lv_iload hx hb dX12_whyGrown_2 (lv_at hl 4 rfl) (hp_n (n := 4) rfl ?_)
  obtain ⟨σh1, qh1, hf⟩ := ms_bE hf
  refine m_cv (pc' := 7) (a := a0) (ρ := ρ) B (hp_runV (As := [.int a2, .int a4]) (rest := []) C B (m_X12_growth n Γ l α a0 ρ σ hM a2 a4 σh1 qh1) lb_X12_growth lv_X12_growth lk_X12_190 hM.1 rfl (by decide) rfl hl.1 rfl (Nat.le_of_ble_eq_true rfl) dX12_whyGrown_4 ⟨Nat.le_refl _, Nat.le_refl _⟩) rfl (fun αh1 Hh1 Lh1 Bh1 Mh1 => ?_)
  refine lv_iload_n hx hb dX12_whyGrown_7 rfl (lv_at hl 1 rfl) (hp_n (n := 8) rfl ?_)
  refine lv_aload_n hx hb dX12_whyGrown_8 rfl (lv_at hl 0 rfl) (hp_n (n := 9) rfl ?_)
  refine m_geti (k := 7) (φ := 657) (pc' := 12) C Bh1 Mh1 fl_X12_139 rfl rfl dX12_whyGrown_9 rfl ?_
  refine lv_icmp_eq (tgt := 29) hx hb dX12_whyGrown_12 (by decide) (fun c2 => ?_) (fun c2 => hp_n (n := 15) rfl ?_)
  ·
    replace hf := ms_iT c2 hf
    refine lv_iload_n hx hb dX12_whyGrown_29 rfl (lv_at hl 2 rfl) (hp_n (n := 30) rfl ?_)
    have J39 : ∀ (αh3 : hp_T) (Hh3 : Heap) (Lh3 : List Loc) (Bh3 : hp_B Γ mo s α αh3 Hh3 Lh3) (σh3 : ms_T) (Mh3 : hm_M αh3 a0 ρ σh3) (v2_h3 : Int32) (v3_h3 : Int32) (v4_h3 : Int32) (v5_h3 : Int32) (ls : Array Slot) (hl : lv_has ls 6 [(0, .ref a0), (2, .int v2_h3), (3, .int v3_h3), (4, .int v4_h3), (5, .int v5_h3)]) (hf : f_X12_whyGrown_J39 n σh3 v2_h3 v3_h3 v4_h3 v5_h3 = some res), W p l e (hp_rm 42 0 0) s m ([.ref a0, .int a1, .int a2, .int a3, .int a4, .int a5] : List Value).toArray below meth c Hh3 Lh3 0 0 (MQ below (hp_Qi Γ (fun r β => r = res.1 ∧ mo α β ∧ hm_M β a0 ρ res.2)) ([.ref a0, .int a1, .int a2, .int a3, .int a4, .int a5] : List Value).toArray s 0 0 (hp_A Γ)) (F0 m 39 ls []) := by
      intro αh3 Hh3 Lh3 Bh3 σh3 Mh3 v2_h3 v3_h3 v4_h3 v5_h3 ls hl hf
      unfold f_X12_whyGrown_J39 at hf
      refine lv_iload_n hx hb dX12_whyGrown_39 rfl (lv_at hl 1 rfl) (hp_n (n := 40) rfl ?_)
      refine lv_iload hx hb dX12_whyGrown_40 (lv_at hl 3 rfl) (hp_n (n := 42) rfl ?_)
      refine lv_icmp_ne (tgt := 57) hx hb dX12_whyGrown_42 (by decide) (fun c4 => ?_) (fun c4 => hp_n (n := 45) rfl ?_)
      ·
        replace hf := ms_iF c4 hf
        refine lv_iload_n hx hb dX12_whyGrown_57 rfl (lv_at hl 1 rfl) (hp_n (n := 58) rfl ?_)
        refine lv_if_ne (tgt := 63) hx hb dX12_whyGrown_58 (by decide) (fun c5 => ?_) (fun c5 => hp_n (n := 61) rfl ?_)
        ·
          replace hf := ms_iF c5 hf
          refine lv_aload_n hx hb dX12_whyGrown_63 rfl (lv_at hl 0 rfl) (hp_n (n := 64) rfl ?_)
          refine lv_iconst (v := 0) hx hb dX12_whyGrown_64 (by decide) (hp_n (n := 65) rfl ?_)
          refine m_puti (k := 8) (φ := 658) (pc' := 68) C Bh3 Mh3 fl_X12_168 rfl rfl rfl rfl rfl dX12_whyGrown_65 rfl (fun αh6 Hh6 Lh6 σh6 eh6 Bh6 Mh6 => ?_)
          replace hf := ms_lE eh6 hf
          refine lv_aload_n hx hb dX12_whyGrown_68 rfl (lv_at hl 0 rfl) (hp_n (n := 69) rfl ?_)
          refine lv_iload_n hx hb dX12_whyGrown_69 rfl (lv_at hl 2 rfl) (hp_n (n := 70) rfl ?_)
          refine lv_iload_n hx hb dX12_whyGrown_70 rfl (lv_at hl 1 rfl) (hp_n (n := 71) rfl ?_)
          refine lv_iload hx hb dX12_whyGrown_71 (lv_at hl 3 rfl) (hp_n (n := 73) rfl ?_)
          refine lv_iconst (v := 1) hx hb dX12_whyGrown_73 (by decide) (hp_n (n := 74) rfl ?_)
          obtain ⟨σh7, qh7, hf⟩ := ms_bE hf
          refine m_cv (pc' := 77) (a := a0) (ρ := ρ) Bh6 (hp_runV (As := [.int v3_h3, .int v2_h3, .int v4_h3, .int (1 : Int32)]) (rest := []) C Bh6 (m_X12_foldsGrowth n 40 Γ l αh6 a0 ρ σh6 Mh6 v3_h3 v2_h3 v4_h3 (1 : Int32) σh7 qh7) lb_X12_foldsGrowth lv_X12_foldsGrowth lk_X12_187 Mh6.1 rfl (by decide) rfl hl.1 rfl (Nat.le_of_ble_eq_true rfl) dX12_whyGrown_74 ⟨Nat.le_refl _, Nat.le_refl _⟩) rfl (fun αh7 Hh7 Lh7 Bh7 Mh7 => ?_)
          refine lv_aload_n hx hb dX12_whyGrown_77 rfl (lv_at hl 0 rfl) (hp_n (n := 78) rfl ?_)
          refine m_geti (k := 9) (φ := 659) (pc' := 81) C Bh7 Mh7 fl_X12_181 rfl rfl dX12_whyGrown_78 rfl ?_
          refine lv_iload_n hx hb dX12_whyGrown_81 rfl (lv_at hl 2 rfl) (hp_n (n := 82) rfl ?_)
          refine lv_icmp_eq (tgt := 89) hx hb dX12_whyGrown_82 (by decide) (fun c8 => ?_) (fun c8 => hp_n (n := 85) rfl ?_)
          ·
            replace hf := ms_iT c8 hf
            refine lv_aload_n hx hb dX12_whyGrown_89 rfl (lv_at hl 0 rfl) (hp_n (n := 90) rfl ?_)
            refine m_geti (k := 10) (φ := 660) (pc' := 93) C Bh7 Mh7 fl_X12_184 rfl rfl dX12_whyGrown_90 rfl ?_
            refine lv_iload hx hb dX12_whyGrown_93 (lv_at hl 4 rfl) (hp_n (n := 95) rfl ?_)
            refine lv_icmp_eq (tgt := 102) hx hb dX12_whyGrown_95 (by decide) (fun c9 => ?_) (fun c9 => hp_n (n := 98) rfl ?_)
            ·
              replace hf := ms_iT c9 hf
              refine lv_iconst (v := 0) hx hb dX12_whyGrown_102 (by decide) (hp_n (n := 103) rfl ?_)
              cases hf
              exact q_iret C Bh7 hr hlk ⟨rfl, Bh7.2.2, Mh7⟩ dX12_whyGrown_103
            ·
              replace hf := ms_iF c9 hf
              refine lv_iconst (v := 4) hx hb dX12_whyGrown_98 (by decide) (hp_n (n := 99) rfl ?_)
              refine lv_goto (tgt := 103) hx hb dX12_whyGrown_99 (by decide) ?_
              cases hf
              exact q_iret C Bh7 hr hlk ⟨rfl, Bh7.2.2, Mh7⟩ dX12_whyGrown_103
          ·
            replace hf := ms_iF c8 hf
            refine lv_iconst (v := 3) hx hb dX12_whyGrown_85 (by decide) (hp_n (n := 86) rfl ?_)
            refine lv_goto (tgt := 103) hx hb dX12_whyGrown_86 (by decide) ?_
            cases hf
            exact q_iret C Bh7 hr hlk ⟨rfl, Bh7.2.2, Mh7⟩ dX12_whyGrown_103
        ·
          replace hf := ms_iT c5 hf
          refine lv_iconst (v := 0) hx hb dX12_whyGrown_61 (by decide) (hp_n (n := 62) rfl ?_)
          cases hf
          exact q_iret C Bh3 hr hlk ⟨rfl, Bh3.2.2, Mh3⟩ dX12_whyGrown_62
      ·
        replace hf := ms_iT c4 hf
        refine lv_iload_n hx hb dX12_whyGrown_45 rfl (lv_at hl 2 rfl) (hp_n (n := 46) rfl ?_)
        refine lv_iload hx hb dX12_whyGrown_46 (lv_at hl 4 rfl) (hp_n (n := 48) rfl ?_)
        refine lv_icmp_ne (tgt := 55) hx hb dX12_whyGrown_48 (by decide) (fun c10 => ?_) (fun c10 => hp_n (n := 51) rfl ?_)
        ·
          replace hf := ms_iF c10 hf
          refine lv_iconst (v := 3) hx hb dX12_whyGrown_55 (by decide) (hp_n (n := 56) rfl ?_)
          cases hf
          exact q_iret C Bh3 hr hlk ⟨rfl, Bh3.2.2, Mh3⟩ dX12_whyGrown_56
        ·
          replace hf := ms_iT c10 hf
          refine lv_iconst (v := 0) hx hb dX12_whyGrown_51 (by decide) (hp_n (n := 52) rfl ?_)
          refine lv_goto (tgt := 56) hx hb dX12_whyGrown_52 (by decide) ?_
          cases hf
          exact q_iret C Bh3 hr hlk ⟨rfl, Bh3.2.2, Mh3⟩ dX12_whyGrown_56
    refine lv_if_ne (tgt := 39) hx hb dX12_whyGrown_30 (by decide) (fun c11 => ?_) (fun c11 => hp_n (n := 33) rfl ?_)
    ·
      replace hf := ms_iF c11 hf
      exact J39 αh1 Hh1 Lh1 Bh1 σh1 Mh1 a2 a3 a4 a5 ls (lv_sub hl [0, 2, 3, 4, 5] rfl) hf
    ·
      replace hf := ms_iT c11 hf
      refine lv_iload_n hx hb dX12_whyGrown_33 rfl (lv_at hl 3 rfl) (hp_n (n := 34) rfl ?_)
      refine lv_if_eq (tgt := 39) hx hb dX12_whyGrown_34 (by decide) (fun c12 => ?_) (fun c12 => hp_n (n := 37) rfl ?_)
      ·
        replace hf := ms_iT c12 hf
        exact J39 αh1 Hh1 Lh1 Bh1 σh1 Mh1 a2 a3 a4 a5 ls (lv_sub hl [0, 2, 3, 4, 5] rfl) hf
      ·
        replace hf := ms_iF c12 hf
        refine lv_iconst (v := 3) hx hb dX12_whyGrown_37 (by decide) (hp_n (n := 38) rfl ?_)
        cases hf
        exact q_iret C Bh1 hr hlk ⟨rfl, Bh1.2.2, Mh1⟩ dX12_whyGrown_38
  ·
    replace hf := ms_iF c2 hf
    refine lv_iload_n hx hb dX12_whyGrown_15 rfl (lv_at hl 1 rfl) (hp_n (n := 16) rfl ?_)
    refine lv_aload_n hx hb dX12_whyGrown_16 rfl (lv_at hl 0 rfl) (hp_n (n := 17) rfl ?_)
    refine m_geti (k := 7) (φ := 657) (pc' := 20) C Bh1 Mh1 fl_X12_139 rfl rfl dX12_whyGrown_17 rfl ?_
    refine lv_icmp_ge (tgt := 27) hx hb dX12_whyGrown_20 (by decide) (fun c13 => ?_) (fun c13 => hp_n (n := 23) rfl ?_)
    ·
      replace hf := ms_iT c13 hf
      refine lv_iconst (v := 2) hx hb dX12_whyGrown_27 (by decide) (hp_n (n := 28) rfl ?_)
      cases hf
      exact q_iret C Bh1 hr hlk ⟨rfl, Bh1.2.2, Mh1⟩ dX12_whyGrown_28
    ·
      replace hf := ms_iF c13 hf
      refine lv_iconst (v := 1) hx hb dX12_whyGrown_23 (by decide) (hp_n (n := 24) rfl ?_)
      refine lv_goto (tgt := 28) hx hb dX12_whyGrown_24 (by decide) ?_
      cases hf
      exact q_iret C Bh1 hr hlk ⟨rfl, Bh1.2.2, Mh1⟩ dX12_whyGrown_28
def f_X12_foldsBundle (n : Nat) : Nat → ms_T → Int32 → Int32 → Int32 → Option (Int32 × ms_T)
  | 0, _, _, _, _ => none
  | d + 1, σ, a1, a2, a3 =>
    ms_b (f_X12_hasAny n a1 a2 a3) fun rh1 =>
    if rh1 = 0 then
      ms_l (ms_sI σ 658 ((ms_I σ 658) + (1 : Int32))) fun σh10 =>
      ms_g ((ms_I σh10 658) - (1 : Int32)) 128 <|
      some ((ms_E σh10 44 (((ms_I σh10 658) - (1 : Int32))).toNatClampNeg), σh10)
    else
      if a3 = (1 : Int32) then
        ms_l (ms_sI σ 661 ((ms_I σ 661) + (1 : Int32))) fun σh8 =>
        ms_g ((ms_I σh8 661) - (1 : Int32)) 128 <|
        some ((ms_E σh8 44 (((ms_I σh8 661) - (1 : Int32))).toNatClampNeg), σh8)
      else
        ms_b (f_X12_part0 n a3) fun rh4 =>
        ms_c ((f_X12_foldsBundle n d) σ a1 a2 rh4) fun rh5 σh5 =>
        ms_c ((f_X12_foldsBundle n d) σh5 a1 (a2 + rh4) (a3 - rh4)) fun rh6 σh6 =>
        ms_b (f_X12_both n σh6 rh5 rh6) fun rh7 =>
        some (rh7, σh6)
set_option maxRecDepth 100000 in
set_option maxHeartbeats 4000000 in
theorem m_X12_foldsBundle (n : Nat) : ∀ (d : Nat) (Γ : hp_G) (l : Launch) (α : hp_T) (a0 : Nat) (ρ : Nat → Nat) (σ : ms_T) (hM : hm_M α a0 ρ σ) (a1 : Int32) (a2 : Int32) (a3 : Int32) (res : (Int32 × ms_T)) (hf : f_X12_foldsBundle n d σ a1 a2 a3 = some res), Met l yX12_foldsBundle (hp_ws yX12_foldsBundle cX12_foldsBundle 6 (some .int)) (hp_rm (d + 1) 0 0) (hp_Pc Γ α [.ref a0, .int a1, .int a2, .int a3]) (hp_Qi Γ (fun r β => r = res.1 ∧ mo α β ∧ hm_M β a0 ρ res.2)) 0 0 (hp_A Γ) := by
  intro d
  induction d with
  | zero => intro Γ l α a0 ρ σ hM a1 a2 a3 res hf; rw [f_X12_foldsBundle.eq_1] at hf; cases hf
  | succ d ihM =>
    intro Γ l α a0 ρ σ hM a1 a2 a3 res hf
    rw [f_X12_foldsBundle.eq_2] at hf
    refine hp_start (by decide) ?_
    intro p e s m below meth c C hr hlk B0 hnm
    have C : hp_C Γ p m c cX12_foldsBundle 6 s ([.ref a0, .int a1, .int a2, .int a3] : List Value).toArray RX12 := C
    have hx := C.1.1
    have hb := C.1.2.1
    have hown := C.1.2.2.2.1
    have hts := C.1.2.2.2.2
    have B : hp_B Γ mo s α α s.heap [] := ⟨B0.1, B0.2.1, mo_rf⟩
    have hl := lv_entry ([.ref a0, .int a1, .int a2, .int a3]) (n := 6) (Nat.le_of_ble_eq_true rfl)
    show W p l e (hp_rm (d + 1 + 1) 0 0) s m ([.ref a0, .int a1, .int a2, .int a3] : List Value).toArray below meth c s.heap [] 0 0 (MQ below (hp_Qi Γ (fun r β => r = res.1 ∧ mo α β ∧ hm_M β a0 ρ res.2)) ([.ref a0, .int a1, .int a2, .int a3] : List Value).toArray s 0 0 (hp_A Γ)) (entryFrame m ([.ref a0, .int a1, .int a2, .int a3] : List Value).toArray 6)
    rw [lg_entry_eq]
    generalize (lg_sl ([.ref a0, .int a1, .int a2, .int a3]) ++ List.replicate (6 - (lg_sl ([.ref a0, .int a1, .int a2, .int a3])).length) Slot.unset).toArray = ls at hl ⊢
    have hl : lv_has ls 6 [(0, .ref a0), (1, .int a1), (2, .int a2), (3, .int a3)] := hl
    refine lv_iload_n hx hb dX12_foldsBundle_0 rfl (lv_at hl 1 rfl) (hp_n (n := 1) rfl ?_)
    refine lv_iload_n hx hb dX12_foldsBundle_1 rfl (lv_at hl 2 rfl) (hp_n (n := 2) rfl ?_)
    refine lv_iload_n hx hb dX12_foldsBundle_2 rfl (lv_at hl 3 rfl) (hp_n (n := 3) rfl ?_)
    obtain ⟨rh1, qh1, hf⟩ := ms_bE hf
    refine m_cp (pc' := 6) B (hp_runS (As := [.int a1, .int a2, .int a3]) (rest := []) C B (m_X12_hasAny n Γ l α a1 a2 a3 rh1 qh1) lb_X12_hasAny ls_X12_hasAny lk_X12_154 rfl (by omega) rfl hl.1 rfl (Nat.le_of_ble_eq_true rfl) dX12_foldsBundle_3 ⟨Nat.le_refl _, Nat.le_refl _⟩) rfl (fun Hh1 Lh1 Bh1 => ?_)
    refine lv_if_ne (tgt := 31) hx hb dX12_foldsBundle_6 (by decide) (fun c2 => ?_) (fun c2 => hp_n (n := 9) rfl ?_)
    ·
      replace hf := ms_iF c2 hf
      refine lv_iload_n hx hb dX12_foldsBundle_31 rfl (lv_at hl 3 rfl) (hp_n (n := 32) rfl ?_)
      refine lv_iconst (v := 1) hx hb dX12_foldsBundle_32 (by decide) (hp_n (n := 33) rfl ?_)
      refine lv_icmp_ne (tgt := 58) hx hb dX12_foldsBundle_33 (by decide) (fun c3 => ?_) (fun c3 => hp_n (n := 36) rfl ?_)
      ·
        replace hf := ms_iF c3 hf
        refine lv_iload_n hx hb dX12_foldsBundle_58 rfl (lv_at hl 3 rfl) (hp_n (n := 59) rfl ?_)
        obtain ⟨rh4, qh4, hf⟩ := ms_bE hf
        refine m_cp (pc' := 62) Bh1 (hp_runS (As := [.int a3]) (rest := []) C Bh1 (m_X12_part0 n Γ l α a3 rh4 qh4) lb_X12_part0 ls_X12_part0 lk_X12_128 rfl (by omega) rfl hl.1 rfl (Nat.le_of_ble_eq_true rfl) dX12_foldsBundle_59 ⟨Nat.le_refl _, Nat.le_refl _⟩) rfl (fun Hh4 Lh4 Bh4 => ?_)
        refine lv_istore (lv' := [(4, .int rh4), (0, .ref a0), (1, .int a1), (2, .int a2), (3, .int a3)]) hx hb dX12_foldsBundle_62 hl (by decide) rfl (fun ls hl => hp_n (n := 64) rfl ?_)
        refine lv_aload_n hx hb dX12_foldsBundle_64 rfl (lv_at hl 1 rfl) (hp_n (n := 65) rfl ?_)
        refine lv_iload_n hx hb dX12_foldsBundle_65 rfl (lv_at hl 2 rfl) (hp_n (n := 66) rfl ?_)
        refine lv_iload_n hx hb dX12_foldsBundle_66 rfl (lv_at hl 3 rfl) (hp_n (n := 67) rfl ?_)
        refine lv_iload hx hb dX12_foldsBundle_67 (lv_at hl 0 rfl) (hp_n (n := 69) rfl ?_)
        obtain ⟨rh5, σh5, qh5, hf⟩ := ms_cE hf
        refine m_ci (pc' := 72) (a := a0) (ρ := ρ) Bh4 (hp_runV (As := [.int a1, .int a2, .int rh4]) (rest := []) C Bh4 (ihM Γ l α a0 ρ σ hM a1 a2 rh4 (rh5, σh5) qh5) lb_X12_foldsBundle lv_X12_foldsBundle lk_X12_196 hM.1 rfl (by omega) rfl hl.1 rfl (Nat.le_of_ble_eq_true rfl) dX12_foldsBundle_69 ⟨Nat.le_refl _, Nat.le_refl _⟩) rfl (fun αh5 Hh5 Lh5 Bh5 Mh5 => ?_)
        refine lv_istore (lv' := [(5, .int rh5), (4, .int rh4), (0, .ref a0), (1, .int a1), (2, .int a2), (3, .int a3)]) hx hb dX12_foldsBundle_72 hl (by decide) rfl (fun ls hl => hp_n (n := 74) rfl ?_)
        refine lv_aload_n hx hb dX12_foldsBundle_74 rfl (lv_at hl 2 rfl) (hp_n (n := 75) rfl ?_)
        refine lv_iload hx hb dX12_foldsBundle_75 (lv_at hl 0 rfl) (hp_n (n := 77) rfl ?_)
        refine lv_aload_n hx hb dX12_foldsBundle_77 rfl (lv_at hl 2 rfl) (hp_n (n := 78) rfl ?_)
        refine lv_iload_n hx hb dX12_foldsBundle_78 rfl (lv_at hl 3 rfl) (hp_n (n := 79) rfl ?_)
        refine lv_iload_n hx hb dX12_foldsBundle_79 rfl (lv_at hl 4 rfl) (hp_n (n := 80) rfl ?_)
        refine lv_iload hx hb dX12_foldsBundle_80 (lv_at hl 1 rfl) (hp_n (n := 82) rfl ?_)
        refine lv_iadd hx hb dX12_foldsBundle_82 (hp_n (n := 83) rfl ?_)
        refine lv_iload_n hx hb dX12_foldsBundle_83 rfl (lv_at hl 5 rfl) (hp_n (n := 84) rfl ?_)
        refine lv_iload hx hb dX12_foldsBundle_84 (lv_at hl 1 rfl) (hp_n (n := 86) rfl ?_)
        refine lv_isub hx hb dX12_foldsBundle_86 (hp_n (n := 87) rfl ?_)
        obtain ⟨rh6, σh6, qh6, hf⟩ := ms_cE hf
        refine m_ci (pc' := 90) (a := a0) (ρ := ρ) Bh5 (hp_runV (As := [.int a1, .int (a2 + rh4), .int (a3 - rh4)]) (rest := [.int rh5, .ref a0]) C Bh5 (ihM Γ l αh5 a0 ρ σh5 Mh5 a1 (a2 + rh4) (a3 - rh4) (rh6, σh6) qh6) lb_X12_foldsBundle lv_X12_foldsBundle lk_X12_196 Mh5.1 rfl (by omega) rfl hl.1 rfl (Nat.le_of_ble_eq_true rfl) dX12_foldsBundle_87 ⟨Nat.le_refl _, Nat.le_refl _⟩) rfl (fun αh6 Hh6 Lh6 Bh6 Mh6 => ?_)
        obtain ⟨rh7, qh7, hf⟩ := ms_bE hf
        refine m_cp (pc' := 93) Bh6 (hp_runV (As := [.int rh5, .int rh6]) (rest := []) C Bh6 (m_X12_both n Γ l αh6 a0 ρ σh6 Mh6 rh5 rh6 rh7 qh7) lb_X12_both lv_X12_both lk_X12_136 Mh6.1 rfl (by omega) rfl hl.1 rfl (Nat.le_of_ble_eq_true rfl) dX12_foldsBundle_90 ⟨Nat.le_refl _, Nat.le_refl _⟩) rfl (fun Hh7 Lh7 Bh7 => ?_)
        cases hf
        exact q_iret C Bh7 hr hlk ⟨rfl, Bh7.2.2, Mh6⟩ dX12_foldsBundle_93
      ·
        replace hf := ms_iT c3 hf
        refine lv_aload_n hx hb dX12_foldsBundle_36 rfl (lv_at hl 0 rfl) (hp_n (n := 37) rfl ?_)
        refine lv_dup hx hb dX12_foldsBundle_37 rfl (hp_n (n := 38) rfl ?_)
        refine m_geti (k := 11) (φ := 661) (pc' := 41) C Bh1 hM fl_X12_193 rfl rfl dX12_foldsBundle_38 rfl ?_
        refine lv_iconst (v := 1) hx hb dX12_foldsBundle_41 (by decide) (hp_n (n := 42) rfl ?_)
        refine lv_iadd hx hb dX12_foldsBundle_42 (hp_n (n := 43) rfl ?_)
        refine m_puti (k := 11) (φ := 661) (pc' := 46) C Bh1 hM fl_X12_193 rfl rfl rfl rfl rfl dX12_foldsBundle_43 rfl (fun αh8 Hh8 Lh8 σh8 eh8 Bh8 Mh8 => ?_)
        replace hf := ms_lE eh8 hf
        refine lv_aload_n hx hb dX12_foldsBundle_46 rfl (lv_at hl 0 rfl) (hp_n (n := 47) rfl ?_)
        refine m_getr (κ := 44) (k := 6) (pc' := 50) C Bh8 Mh8 fl_X12_22 rfl (by decide) dX12_foldsBundle_47 rfl ?_
        refine lv_aload_n hx hb dX12_foldsBundle_50 rfl (lv_at hl 0 rfl) (hp_n (n := 51) rfl ?_)
        refine m_geti (k := 11) (φ := 661) (pc' := 54) C Bh8 Mh8 fl_X12_193 rfl rfl dX12_foldsBundle_51 rfl ?_
        refine lv_iconst (v := 1) hx hb dX12_foldsBundle_54 (by decide) (hp_n (n := 55) rfl ?_)
        refine lv_isub hx hb dX12_foldsBundle_55 (hp_n (n := 56) rfl ?_)
        obtain ⟨g9, hf⟩ := ms_gE hf
        refine m_ial (κ := 44) (φ := 656) (n := 128) (pc' := 57) C Bh8 Mh8 (by decide) (by decide) rfl g9 dX12_foldsBundle_56 rfl ?_
        cases hf
        exact q_iret C Bh8 hr hlk ⟨rfl, Bh8.2.2, Mh8⟩ dX12_foldsBundle_57
    ·
      replace hf := ms_iT c2 hf
      refine lv_aload_n hx hb dX12_foldsBundle_9 rfl (lv_at hl 0 rfl) (hp_n (n := 10) rfl ?_)
      refine lv_dup hx hb dX12_foldsBundle_10 rfl (hp_n (n := 11) rfl ?_)
      refine m_geti (k := 8) (φ := 658) (pc' := 14) C Bh1 hM fl_X12_168 rfl rfl dX12_foldsBundle_11 rfl ?_
      refine lv_iconst (v := 1) hx hb dX12_foldsBundle_14 (by decide) (hp_n (n := 15) rfl ?_)
      refine lv_iadd hx hb dX12_foldsBundle_15 (hp_n (n := 16) rfl ?_)
      refine m_puti (k := 8) (φ := 658) (pc' := 19) C Bh1 hM fl_X12_168 rfl rfl rfl rfl rfl dX12_foldsBundle_16 rfl (fun αh10 Hh10 Lh10 σh10 eh10 Bh10 Mh10 => ?_)
      replace hf := ms_lE eh10 hf
      refine lv_aload_n hx hb dX12_foldsBundle_19 rfl (lv_at hl 0 rfl) (hp_n (n := 20) rfl ?_)
      refine m_getr (κ := 44) (k := 6) (pc' := 23) C Bh10 Mh10 fl_X12_22 rfl (by decide) dX12_foldsBundle_20 rfl ?_
      refine lv_aload_n hx hb dX12_foldsBundle_23 rfl (lv_at hl 0 rfl) (hp_n (n := 24) rfl ?_)
      refine m_geti (k := 8) (φ := 658) (pc' := 27) C Bh10 Mh10 fl_X12_168 rfl rfl dX12_foldsBundle_24 rfl ?_
      refine lv_iconst (v := 1) hx hb dX12_foldsBundle_27 (by decide) (hp_n (n := 28) rfl ?_)
      refine lv_isub hx hb dX12_foldsBundle_28 (hp_n (n := 29) rfl ?_)
      obtain ⟨g11, hf⟩ := ms_gE hf
      refine m_ial (κ := 44) (φ := 656) (n := 128) (pc' := 30) C Bh10 Mh10 (by decide) (by decide) rfl g11 dX12_foldsBundle_29 rfl ?_
      cases hf
      exact q_iret C Bh10 hr hlk ⟨rfl, Bh10.2.2, Mh10⟩ dX12_foldsBundle_30
def f_X12_whyByRecord (n : Nat) (σ : ms_T) (a1 : Int32) (a2 : Int32) (a3 : Int32) (a4 : Int32) (a5 : Int32) : Option (Int32 × ms_T) :=
  ms_b (f_X12_growth n σ a2 a4) fun σh1 =>
  ms_b (f_X12_fetches n σh1 a1) fun σh2 =>
  ms_c (f_X12_whyGrown n σh2 (ms_I σh2 657) a2 a3 a4 a5) fun rh3 σh3 =>
  some (rh3, σh3)
set_option maxRecDepth 100000 in
set_option maxHeartbeats 4000000 in
theorem m_X12_whyByRecord (n : Nat) (Γ : hp_G) (l : Launch) (α : hp_T) (a0 : Nat) (ρ : Nat → Nat) (σ : ms_T) (hM : hm_M α a0 ρ σ) (a1 : Int32) (a2 : Int32) (a3 : Int32) (a4 : Int32) (a5 : Int32) (res : (Int32 × ms_T)) (hf : f_X12_whyByRecord n σ a1 a2 a3 a4 a5 = some res) : Met l yX12_whyByRecord (hp_ws yX12_whyByRecord cX12_whyByRecord 6 (some .int)) (hp_rm 43 0 0) (hp_Pc Γ α [.ref a0, .int a1, .int a2, .int a3, .int a4, .int a5]) (hp_Qi Γ (fun r β => r = res.1 ∧ mo α β ∧ hm_M β a0 ρ res.2)) 0 0 (hp_A Γ) := by
  unfold f_X12_whyByRecord at hf
  refine hp_start (by decide) ?_
  intro p e s m below meth c C hr hlk B0 hnm
  have C : hp_C Γ p m c cX12_whyByRecord 6 s ([.ref a0, .int a1, .int a2, .int a3, .int a4, .int a5] : List Value).toArray RX12 := C
  have hx := C.1.1
  have hb := C.1.2.1
  have hown := C.1.2.2.2.1
  have hts := C.1.2.2.2.2
  have B : hp_B Γ mo s α α s.heap [] := ⟨B0.1, B0.2.1, mo_rf⟩
  have hl := lv_entry ([.ref a0, .int a1, .int a2, .int a3, .int a4, .int a5]) (n := 6) (Nat.le_of_ble_eq_true rfl)
  show W p l e (hp_rm 43 0 0) s m ([.ref a0, .int a1, .int a2, .int a3, .int a4, .int a5] : List Value).toArray below meth c s.heap [] 0 0 (MQ below (hp_Qi Γ (fun r β => r = res.1 ∧ mo α β ∧ hm_M β a0 ρ res.2)) ([.ref a0, .int a1, .int a2, .int a3, .int a4, .int a5] : List Value).toArray s 0 0 (hp_A Γ)) (entryFrame m ([.ref a0, .int a1, .int a2, .int a3, .int a4, .int a5] : List Value).toArray 6)
  rw [lg_entry_eq]
  generalize (lg_sl ([.ref a0, .int a1, .int a2, .int a3, .int a4, .int a5]) ++ List.replicate (6 - (lg_sl ([.ref a0, .int a1, .int a2, .int a3, .int a4, .int a5])).length) Slot.unset).toArray = ls at hl ⊢
  have hl : lv_has ls 6 [(0, .ref a0), (1, .int a1), (2, .int a2), (3, .int a3), (4, .int a4), (5, .int a5)] := hl
  refine lv_aload_n hx hb dX12_whyByRecord_0 rfl (lv_at hl 0 rfl) (hp_n (n := 1) rfl ?_)
  refine lv_iload_n hx hb dX12_whyByRecord_1 rfl (lv_at hl 2 rfl) (hp_n (n := 2) rfl ?_)
  refine lv_iload hx hb dX12_whyByRecord_2 (lv_at hl 4 rfl) (hp_n (n := 4) rfl ?_)
  obtain ⟨σh1, qh1, hf⟩ := ms_bE hf
  refine m_cv (pc' := 7) (a := a0) (ρ := ρ) B (hp_runV (As := [.int a2, .int a4]) (rest := []) C B (m_X12_growth n Γ l α a0 ρ σ hM a2 a4 σh1 qh1) lb_X12_growth lv_X12_growth lk_X12_190 hM.1 rfl (by decide) rfl hl.1 rfl (Nat.le_of_ble_eq_true rfl) dX12_whyByRecord_4 ⟨Nat.le_refl _, Nat.le_refl _⟩) rfl (fun αh1 Hh1 Lh1 Bh1 Mh1 => ?_)
  refine lv_aload_n hx hb dX12_whyByRecord_7 rfl (lv_at hl 0 rfl) (hp_n (n := 8) rfl ?_)
  refine lv_iload_n hx hb dX12_whyByRecord_8 rfl (lv_at hl 1 rfl) (hp_n (n := 9) rfl ?_)
  obtain ⟨σh2, qh2, hf⟩ := ms_bE hf
  refine m_cv (pc' := 12) (a := a0) (ρ := ρ) Bh1 (hp_runV (As := [.int a1]) (rest := []) C Bh1 (m_X12_fetches n Γ l αh1 a0 ρ σh1 Mh1 a1 σh2 qh2) lb_X12_fetches lv_X12_fetches lk_X12_161 Mh1.1 rfl (by decide) rfl hl.1 rfl (Nat.le_of_ble_eq_true rfl) dX12_whyByRecord_9 ⟨Nat.le_refl _, Nat.le_refl _⟩) rfl (fun αh2 Hh2 Lh2 Bh2 Mh2 => ?_)
  refine lv_aload_n hx hb dX12_whyByRecord_12 rfl (lv_at hl 0 rfl) (hp_n (n := 13) rfl ?_)
  refine lv_aload_n hx hb dX12_whyByRecord_13 rfl (lv_at hl 0 rfl) (hp_n (n := 14) rfl ?_)
  refine m_geti (k := 7) (φ := 657) (pc' := 17) C Bh2 Mh2 fl_X12_139 rfl rfl dX12_whyByRecord_14 rfl ?_
  refine lv_iload_n hx hb dX12_whyByRecord_17 rfl (lv_at hl 2 rfl) (hp_n (n := 18) rfl ?_)
  refine lv_iload_n hx hb dX12_whyByRecord_18 rfl (lv_at hl 3 rfl) (hp_n (n := 19) rfl ?_)
  refine lv_iload hx hb dX12_whyByRecord_19 (lv_at hl 4 rfl) (hp_n (n := 21) rfl ?_)
  refine lv_iload hx hb dX12_whyByRecord_21 (lv_at hl 5 rfl) (hp_n (n := 23) rfl ?_)
  obtain ⟨rh3, σh3, qh3, hf⟩ := ms_cE hf
  refine m_ci (pc' := 26) (a := a0) (ρ := ρ) Bh2 (hp_runV (As := [.int (ms_I σh2 657), .int a2, .int a3, .int a4, .int a5]) (rest := []) C Bh2 (m_X12_whyGrown n Γ l αh2 a0 ρ σh2 Mh2 (ms_I σh2 657) a2 a3 a4 a5 (rh3, σh3) qh3) lb_X12_whyGrown lv_X12_whyGrown lk_X12_199 Mh2.1 rfl (by decide) rfl hl.1 rfl (Nat.le_of_ble_eq_true rfl) dX12_whyByRecord_23 ⟨Nat.le_refl _, Nat.le_refl _⟩) rfl (fun αh3 Hh3 Lh3 Bh3 Mh3 => ?_)
  cases hf
  exact q_iret C Bh3 hr hlk ⟨rfl, Bh3.2.2, Mh3⟩ dX12_whyByRecord_26
def f_X12_type_L102 (n : Nat) : Nat → ms_T → Int32 → Int32 → Option (Int32 × ms_T)
  | 0, _, _, _ => none
  | k102 + 1, σh4, v3_h4, v5_h4 =>
    if v3_h4 ≤ v5_h4 then
      ms_l (ms_sI σh4 664 v3_h4) fun σh6 =>
      some (v3_h4, σh6)
    else
      ms_g v5_h4 8 <|
      ms_g v5_h4 8 <|
      ms_l (ms_sE σh4 45 (v5_h4).toNatClampNeg (ms_E σh4 46 (v5_h4).toNatClampNeg)) fun σh9 =>
      ms_l (v5_h4 + 1) fun x10 =>
      (f_X12_type_L102 n k102) σh9 v3_h4 x10
def f_X12_type_J99 (n : Nat) (σh3 : ms_T) (v3_h3 : Int32) : Option (Int32 × ms_T) :=
  f_X12_type_L102 n n σh3 v3_h3 (0 : Int32)
def f_X12_type_J91 (n : Nat) (rec13 : ms_T → Int32 → Int32 → Int32 → Int32 → Int32 → Option (Int32 × ms_T)) (σh19 : ms_T) (v1_h19 : Int32) (v2_h19 : Int32) (v4_h19 : Int32) (v5_h19 : Int32) (w0_h19 : Int32) (w1_h19 : Int32) : Option (Int32 × ms_T) :=
  ms_l ((w1_h19 + w0_h19)) fun x20 =>
  ms_l (v5_h19 + 1) fun x21 =>
  rec13 σh19 v1_h19 v2_h19 x20 v4_h19 x21
def f_X12_type_J69 (n : Nat) (rec13 : ms_T → Int32 → Int32 → Int32 → Int32 → Int32 → Option (Int32 × ms_T)) (σh16 : ms_T) (v1_h16 : Int32) (v2_h16 : Int32) (v3_h16 : Int32) (v5_h16 : Int32) (v6_h16 : Int32) (w0_h16 : Int32) : Option (Int32 × ms_T) :=
  ms_g v5_h16 8 <|
  ms_l (ms_sE σh16 46 (v5_h16).toNatClampNeg v6_h16) fun σh18 =>
  if w0_h16 = 0 then
    f_X12_type_J91 n rec13 σh18 v1_h16 v2_h16 w0_h16 v5_h16 (0 : Int32) v3_h16
  else
    f_X12_type_J91 n rec13 σh18 v1_h16 v2_h16 w0_h16 v5_h16 (1 : Int32) v3_h16
def f_X12_type_J37 (n : Nat) (rec13 : ms_T → Int32 → Int32 → Int32 → Int32 → Int32 → Option (Int32 × ms_T)) (σh13 : ms_T) (v1_h13 : Int32) (v2_h13 : Int32) (v3_h13 : Int32) (v5_h13 : Int32) (w0_h13 : Int32) : Option (Int32 × ms_T) :=
  ms_l ((((w0_h13).toUInt32 >>> ((((5 : Int32) * (v5_h13 - v5_h13 / (6 : Int32) * (6 : Int32)))).toUInt32 &&& Int32.toUInt32 31)).toInt32 &&& (31 : Int32))) fun x14 =>
  if x14 ≤ (26 : Int32) then
    if x14 ≤ 0 then
      f_X12_type_J69 n rec13 σh13 v1_h13 v2_h13 v3_h13 v5_h13 x14 (0 : Int32)
    else
      f_X12_type_J69 n rec13 σh13 v1_h13 v2_h13 v3_h13 v5_h13 x14 (1 : Int32)
  else
    some ((-1 : Int32), σh13)
def f_X12_type_L13 (n : Nat) : Nat → ms_T → Int32 → Int32 → Int32 → Int32 → Int32 → Option (Int32 × ms_T)
  | 0, _, _, _, _, _, _ => none
  | k13 + 1, σh2, v1_h2, v2_h2, v3_h2, v4_h2, v5_h2 =>
    if (8 : Int32) ≤ v5_h2 then
      f_X12_type_J99 n σh2 v3_h2
    else
      if v4_h2 = 0 then
        f_X12_type_J99 n σh2 v3_h2
      else
        if (6 : Int32) ≤ v5_h2 then
          f_X12_type_J37 n (f_X12_type_L13 n k13) σh2 v1_h2 v2_h2 v3_h2 v5_h2 v2_h2
        else
          f_X12_type_J37 n (f_X12_type_L13 n k13) σh2 v1_h2 v2_h2 v3_h2 v5_h2 v1_h2
def f_X12_type (n : Nat) (σ : ms_T) (a1 : Int32) (a2 : Int32) : Option (Int32 × ms_T) :=
  ms_l (ms_sI σ 653 (0 : Int32)) fun σh1 =>
  f_X12_type_L13 n n σh1 a1 a2 (0 : Int32) (1 : Int32) (0 : Int32)
set_option maxRecDepth 100000 in
set_option maxHeartbeats 4000000 in
theorem m_X12_type (n : Nat) (Γ : hp_G) (l : Launch) (α : hp_T) (a0 : Nat) (ρ : Nat → Nat) (σ : ms_T) (hM : hm_M α a0 ρ σ) (a1 : Int32) (a2 : Int32) (res : (Int32 × ms_T)) (hf : f_X12_type n σ a1 a2 = some res) : Met l yX12_type (hp_ws yX12_type cX12_type 7 (some .int)) (hp_rm 0 0 0) (hp_Pc Γ α [.ref a0, .int a1, .int a2]) (hp_Qi Γ (fun r β => r = res.1 ∧ mo α β ∧ hm_M β a0 ρ res.2)) 0 0 (hp_A Γ) := by
  unfold f_X12_type at hf
  refine hp_start (by decide) ?_
  intro p e s m below meth c C hr hlk B0 hnm
  have C : hp_C Γ p m c cX12_type 7 s ([.ref a0, .int a1, .int a2] : List Value).toArray RX12 := C
  have hx := C.1.1
  have hb := C.1.2.1
  have hown := C.1.2.2.2.1
  have hts := C.1.2.2.2.2
  have B : hp_B Γ mo s α α s.heap [] := ⟨B0.1, B0.2.1, mo_rf⟩
  have hl := lv_entry ([.ref a0, .int a1, .int a2]) (n := 7) (Nat.le_of_ble_eq_true rfl)
  show W p l e (hp_rm 0 0 0) s m ([.ref a0, .int a1, .int a2] : List Value).toArray below meth c s.heap [] 0 0 (MQ below (hp_Qi Γ (fun r β => r = res.1 ∧ mo α β ∧ hm_M β a0 ρ res.2)) ([.ref a0, .int a1, .int a2] : List Value).toArray s 0 0 (hp_A Γ)) (entryFrame m ([.ref a0, .int a1, .int a2] : List Value).toArray 7)
  rw [lg_entry_eq]
  generalize (lg_sl ([.ref a0, .int a1, .int a2]) ++ List.replicate (7 - (lg_sl ([.ref a0, .int a1, .int a2])).length) Slot.unset).toArray = ls at hl ⊢
  have hl : lv_has ls 7 [(0, .ref a0), (1, .int a1), (2, .int a2)] := hl
  refine lv_aload_n hx hb dX12_type_0 rfl (lv_at hl 0 rfl) (hp_n (n := 1) rfl ?_)
  refine lv_iconst (v := 0) hx hb dX12_type_1 (by decide) (hp_n (n := 2) rfl ?_)
  refine m_puti (k := 3) (φ := 653) (pc' := 5) C B hM fl_X12_106 rfl rfl rfl rfl rfl dX12_type_2 rfl (fun αh1 Hh1 Lh1 σh1 eh1 Bh1 Mh1 => ?_)
  replace hf := ms_lE eh1 hf
  refine lv_iconst (v := 0) hx hb dX12_type_5 (by decide) (hp_n (n := 6) rfl ?_)
  refine lv_istore_n (lv' := [(3, .int (0 : Int32)), (0, .ref a0), (1, .int a1), (2, .int a2)]) hx hb dX12_type_6 rfl hl (by decide) rfl (fun ls hl => hp_n (n := 7) rfl ?_)
  refine lv_iconst (v := 1) hx hb dX12_type_7 (by decide) (hp_n (n := 8) rfl ?_)
  refine lv_istore (lv' := [(4, .int (1 : Int32)), (3, .int (0 : Int32)), (0, .ref a0), (1, .int a1), (2, .int a2)]) hx hb dX12_type_8 hl (by decide) rfl (fun ls hl => hp_n (n := 10) rfl ?_)
  refine lv_iconst (v := 0) hx hb dX12_type_10 (by decide) (hp_n (n := 11) rfl ?_)
  have J13 : ∀ (k13 : Nat) (αh2 : hp_T) (Hh2 : Heap) (Lh2 : List Loc) (Bh2 : hp_B Γ mo s α αh2 Hh2 Lh2) (σh2 : ms_T) (Mh2 : hm_M αh2 a0 ρ σh2) (v1_h2 : Int32) (v2_h2 : Int32) (v3_h2 : Int32) (v4_h2 : Int32) (v5_h2 : Int32) (ls : Array Slot) (hl : lv_has ls 7 [(0, .ref a0), (1, .int v1_h2), (2, .int v2_h2), (3, .int v3_h2), (4, .int v4_h2), (5, .int v5_h2)]) (hf : f_X12_type_L13 n k13 σh2 v1_h2 v2_h2 v3_h2 v4_h2 v5_h2 = some res), W p l e (hp_rm 0 0 0) s m ([.ref a0, .int a1, .int a2] : List Value).toArray below meth c Hh2 Lh2 0 0 (MQ below (hp_Qi Γ (fun r β => r = res.1 ∧ mo α β ∧ hm_M β a0 ρ res.2)) ([.ref a0, .int a1, .int a2] : List Value).toArray s 0 0 (hp_A Γ)) (F0 m 13 ls []) := by
    intro k13
    induction k13 with
    | zero => intro αh2 Hh2 Lh2 Bh2 σh2 Mh2 v1_h2 v2_h2 v3_h2 v4_h2 v5_h2 ls hl hf; rw [f_X12_type_L13.eq_1] at hf; cases hf
    | succ k13 ih13 =>
      intro αh2 Hh2 Lh2 Bh2 σh2 Mh2 v1_h2 v2_h2 v3_h2 v4_h2 v5_h2 ls hl hf
      rw [f_X12_type_L13.eq_2] at hf
      refine lv_iload hx hb dX12_type_13 (lv_at hl 5 rfl) (hp_n (n := 15) rfl ?_)
      refine lv_bipush (v := 8) hx hb dX12_type_15 (by decide) (hp_n (n := 17) rfl ?_)
      have J99 : ∀ (αh3 : hp_T) (Hh3 : Heap) (Lh3 : List Loc) (Bh3 : hp_B Γ mo s α αh3 Hh3 Lh3) (σh3 : ms_T) (Mh3 : hm_M αh3 a0 ρ σh3) (v3_h3 : Int32) (ls : Array Slot) (hl : lv_has ls 7 [(0, .ref a0), (3, .int v3_h3)]) (hf : f_X12_type_J99 n σh3 v3_h3 = some res), W p l e (hp_rm 0 0 0) s m ([.ref a0, .int a1, .int a2] : List Value).toArray below meth c Hh3 Lh3 0 0 (MQ below (hp_Qi Γ (fun r β => r = res.1 ∧ mo α β ∧ hm_M β a0 ρ res.2)) ([.ref a0, .int a1, .int a2] : List Value).toArray s 0 0 (hp_A Γ)) (F0 m 99 ls []) := by
        intro αh3 Hh3 Lh3 Bh3 σh3 Mh3 v3_h3 ls hl hf
        unfold f_X12_type_J99 at hf
        refine lv_iconst (v := 0) hx hb dX12_type_99 (by decide) (hp_n (n := 100) rfl ?_)
        have J102 : ∀ (k102 : Nat) (αh4 : hp_T) (Hh4 : Heap) (Lh4 : List Loc) (Bh4 : hp_B Γ mo s α αh4 Hh4 Lh4) (σh4 : ms_T) (Mh4 : hm_M αh4 a0 ρ σh4) (v3_h4 : Int32) (v5_h4 : Int32) (ls : Array Slot) (hl : lv_has ls 7 [(0, .ref a0), (3, .int v3_h4), (5, .int v5_h4)]) (hf : f_X12_type_L102 n k102 σh4 v3_h4 v5_h4 = some res), W p l e (hp_rm 0 0 0) s m ([.ref a0, .int a1, .int a2] : List Value).toArray below meth c Hh4 Lh4 0 0 (MQ below (hp_Qi Γ (fun r β => r = res.1 ∧ mo α β ∧ hm_M β a0 ρ res.2)) ([.ref a0, .int a1, .int a2] : List Value).toArray s 0 0 (hp_A Γ)) (F0 m 102 ls []) := by
          intro k102
          induction k102 with
          | zero => intro αh4 Hh4 Lh4 Bh4 σh4 Mh4 v3_h4 v5_h4 ls hl hf; rw [f_X12_type_L102.eq_1] at hf; cases hf
          | succ k102 ih102 =>
            intro αh4 Hh4 Lh4 Bh4 σh4 Mh4 v3_h4 v5_h4 ls hl hf
            rw [f_X12_type_L102.eq_2] at hf
            refine lv_iload hx hb dX12_type_102 (lv_at hl 2 rfl) (hp_n (n := 104) rfl ?_)
            refine lv_iload_n hx hb dX12_type_104 rfl (lv_at hl 1 rfl) (hp_n (n := 105) rfl ?_)
            refine lv_icmp_ge (tgt := 128) hx hb dX12_type_105 (by decide) (fun c5 => ?_) (fun c5 => hp_n (n := 108) rfl ?_)
            ·
              replace hf := ms_iT c5 hf
              refine lv_aload_n hx hb dX12_type_128 rfl (lv_at hl 0 rfl) (hp_n (n := 129) rfl ?_)
              refine lv_iload_n hx hb dX12_type_129 rfl (lv_at hl 1 rfl) (hp_n (n := 130) rfl ?_)
              refine m_puti (k := 14) (φ := 664) (pc' := 133) C Bh4 Mh4 fl_X12_203 rfl rfl rfl rfl rfl dX12_type_130 rfl (fun αh6 Hh6 Lh6 σh6 eh6 Bh6 Mh6 => ?_)
              replace hf := ms_lE eh6 hf
              refine lv_iload_n hx hb dX12_type_133 rfl (lv_at hl 1 rfl) (hp_n (n := 134) rfl ?_)
              cases hf
              exact q_iret C Bh6 hr hlk ⟨rfl, Bh6.2.2, Mh6⟩ dX12_type_134
            ·
              replace hf := ms_iF c5 hf
              refine lv_aload_n hx hb dX12_type_108 rfl (lv_at hl 0 rfl) (hp_n (n := 109) rfl ?_)
              refine m_getr (κ := 45) (k := 12) (pc' := 112) C Bh4 Mh4 fl_X12_25 rfl (by decide) dX12_type_109 rfl ?_
              refine lv_iload hx hb dX12_type_112 (lv_at hl 2 rfl) (hp_n (n := 114) rfl ?_)
              refine lv_aload_n hx hb dX12_type_114 rfl (lv_at hl 0 rfl) (hp_n (n := 115) rfl ?_)
              refine m_getr (κ := 46) (k := 13) (pc' := 118) C Bh4 Mh4 fl_X12_28 rfl (by decide) dX12_type_115 rfl ?_
              refine lv_iload hx hb dX12_type_118 (lv_at hl 2 rfl) (hp_n (n := 120) rfl ?_)
              obtain ⟨g7, hf⟩ := ms_gE hf
              refine m_ial (κ := 46) (φ := 663) (n := 8) (pc' := 121) C Bh4 Mh4 (by decide) (by decide) rfl g7 dX12_type_120 rfl ?_
              obtain ⟨g8, hf⟩ := ms_gE hf
              refine m_ias (κ := 45) (φ := 662) (n := 8) (pc' := 122) C Bh4 Mh4 (by decide) (by decide) rfl g8 dX12_type_121 rfl (fun αh9 Hh9 Lh9 σh9 eh9 Bh9 Mh9 => ?_)
              replace hf := ms_lE eh9 hf
              obtain ⟨x10, ex10⟩ : ∃ y : Int32, y = v5_h4 + 1 := ⟨_, rfl⟩
              replace hf := ms_lE ex10 hf
              refine lv_iinc (v := x10) (lv' := [(5, .int x10), (0, .ref a0), (3, .int v3_h4)]) hx hb dX12_type_122 hl (k := 2) rfl (by rw [ex10]; rfl) (by decide) rfl (fun ls hl => hp_n (n := 125) rfl ?_)
              refine lv_goto (tgt := 102) hx hb dX12_type_125 (by decide) ?_
              exact ih102 αh9 Hh9 Lh9 Bh9 σh9 Mh9 v3_h4 x10 ls (lv_sub hl [1, 2, 0] rfl) hf
        refine lv_istore (lv' := [(5, .int (0 : Int32)), (0, .ref a0), (3, .int v3_h3)]) hx hb dX12_type_100 hl (by decide) rfl (fun ls hl => hp_n (n := 102) rfl ?_)
        exact J102 n αh3 Hh3 Lh3 Bh3 σh3 Mh3 v3_h3 (0 : Int32) ls (lv_sub hl [1, 2, 0] rfl) hf
      refine lv_icmp_ge (tgt := 99) hx hb dX12_type_17 (by decide) (fun c11 => ?_) (fun c11 => hp_n (n := 20) rfl ?_)
      ·
        replace hf := ms_iT c11 hf
        exact J99 αh2 Hh2 Lh2 Bh2 σh2 Mh2 v3_h2 ls (lv_sub hl [0, 3] rfl) hf
      ·
        replace hf := ms_iF c11 hf
        refine lv_iload hx hb dX12_type_20 (lv_at hl 4 rfl) (hp_n (n := 22) rfl ?_)
        refine lv_if_eq (tgt := 99) hx hb dX12_type_22 (by decide) (fun c12 => ?_) (fun c12 => hp_n (n := 25) rfl ?_)
        ·
          replace hf := ms_iT c12 hf
          exact J99 αh2 Hh2 Lh2 Bh2 σh2 Mh2 v3_h2 ls (lv_sub hl [0, 3] rfl) hf
        ·
          replace hf := ms_iF c12 hf
          refine lv_iload hx hb dX12_type_25 (lv_at hl 5 rfl) (hp_n (n := 27) rfl ?_)
          refine lv_bipush (v := 6) hx hb dX12_type_27 (by decide) (hp_n (n := 29) rfl ?_)
          have J37 : ∀ (αh13 : hp_T) (Hh13 : Heap) (Lh13 : List Loc) (Bh13 : hp_B Γ mo s α αh13 Hh13 Lh13) (σh13 : ms_T) (Mh13 : hm_M αh13 a0 ρ σh13) (v1_h13 : Int32) (v2_h13 : Int32) (v3_h13 : Int32) (v5_h13 : Int32) (w0_h13 : Int32) (ls : Array Slot) (hl : lv_has ls 7 [(0, .ref a0), (1, .int v1_h13), (2, .int v2_h13), (3, .int v3_h13), (5, .int v5_h13)]) (hf : f_X12_type_J37 n (f_X12_type_L13 n k13) σh13 v1_h13 v2_h13 v3_h13 v5_h13 w0_h13 = some res), W p l e (hp_rm 0 0 0) s m ([.ref a0, .int a1, .int a2] : List Value).toArray below meth c Hh13 Lh13 0 0 (MQ below (hp_Qi Γ (fun r β => r = res.1 ∧ mo α β ∧ hm_M β a0 ρ res.2)) ([.ref a0, .int a1, .int a2] : List Value).toArray s 0 0 (hp_A Γ)) (F0 m 37 ls [.int w0_h13]) := by
            intro αh13 Hh13 Lh13 Bh13 σh13 Mh13 v1_h13 v2_h13 v3_h13 v5_h13 w0_h13 ls hl hf
            unfold f_X12_type_J37 at hf
            refine lv_iconst (v := 5) hx hb dX12_type_37 (by decide) (hp_n (n := 38) rfl ?_)
            refine lv_iload hx hb dX12_type_38 (lv_at hl 4 rfl) (hp_n (n := 40) rfl ?_)
            refine lv_bipush (v := 6) hx hb dX12_type_40 (by decide) (hp_n (n := 42) rfl ?_)
            refine lv_irem hx hb dX12_type_42 (by decide) (hp_n (n := 43) rfl ?_)
            refine lv_imul hx hb dX12_type_43 (hp_n (n := 44) rfl ?_)
            refine lv_iushr hx hb dX12_type_44 rfl (hp_n (n := 45) rfl ?_)
            refine lv_bipush (v := 31) hx hb dX12_type_45 (by decide) (hp_n (n := 47) rfl ?_)
            refine lv_iand hx hb dX12_type_47 (hp_n (n := 48) rfl ?_)
            refine lv_topi (fun x14 ex14 => ?_)
            replace hf := ms_lE ex14 hf
            refine lv_istore (lv' := [(6, .int x14), (0, .ref a0), (1, .int v1_h13), (2, .int v2_h13), (3, .int v3_h13), (5, .int v5_h13)]) hx hb dX12_type_48 hl (by decide) rfl (fun ls hl => hp_n (n := 50) rfl ?_)
            refine lv_iload hx hb dX12_type_50 (lv_at hl 0 rfl) (hp_n (n := 52) rfl ?_)
            refine lv_bipush (v := 26) hx hb dX12_type_52 (by decide) (hp_n (n := 54) rfl ?_)
            refine lv_icmp_le (tgt := 59) hx hb dX12_type_54 (by decide) (fun c15 => ?_) (fun c15 => hp_n (n := 57) rfl ?_)
            ·
              replace hf := ms_iT c15 hf
              refine lv_iload hx hb dX12_type_59 (lv_at hl 0 rfl) (hp_n (n := 61) rfl ?_)
              have J69 : ∀ (αh16 : hp_T) (Hh16 : Heap) (Lh16 : List Loc) (Bh16 : hp_B Γ mo s α αh16 Hh16 Lh16) (σh16 : ms_T) (Mh16 : hm_M αh16 a0 ρ σh16) (v1_h16 : Int32) (v2_h16 : Int32) (v3_h16 : Int32) (v5_h16 : Int32) (v6_h16 : Int32) (w0_h16 : Int32) (ls : Array Slot) (hl : lv_has ls 7 [(0, .ref a0), (1, .int v1_h16), (2, .int v2_h16), (3, .int v3_h16), (5, .int v5_h16), (6, .int v6_h16)]) (hf : f_X12_type_J69 n (f_X12_type_L13 n k13) σh16 v1_h16 v2_h16 v3_h16 v5_h16 v6_h16 w0_h16 = some res), W p l e (hp_rm 0 0 0) s m ([.ref a0, .int a1, .int a2] : List Value).toArray below meth c Hh16 Lh16 0 0 (MQ below (hp_Qi Γ (fun r β => r = res.1 ∧ mo α β ∧ hm_M β a0 ρ res.2)) ([.ref a0, .int a1, .int a2] : List Value).toArray s 0 0 (hp_A Γ)) (F0 m 69 ls [.int w0_h16]) := by
                intro αh16 Hh16 Lh16 Bh16 σh16 Mh16 v1_h16 v2_h16 v3_h16 v5_h16 v6_h16 w0_h16 ls hl hf
                unfold f_X12_type_J69 at hf
                refine lv_istore (lv' := [(4, .int w0_h16), (0, .ref a0), (1, .int v1_h16), (2, .int v2_h16), (3, .int v3_h16), (5, .int v5_h16), (6, .int v6_h16)]) hx hb dX12_type_69 hl (by decide) rfl (fun ls hl => hp_n (n := 71) rfl ?_)
                refine lv_aload_n hx hb dX12_type_71 rfl (lv_at hl 1 rfl) (hp_n (n := 72) rfl ?_)
                refine m_getr (κ := 46) (k := 13) (pc' := 75) C Bh16 Mh16 fl_X12_28 rfl (by decide) dX12_type_72 rfl ?_
                refine lv_iload hx hb dX12_type_75 (lv_at hl 5 rfl) (hp_n (n := 77) rfl ?_)
                refine lv_iload hx hb dX12_type_77 (lv_at hl 6 rfl) (hp_n (n := 79) rfl ?_)
                obtain ⟨g17, hf⟩ := ms_gE hf
                refine m_ias (κ := 46) (φ := 663) (n := 8) (pc' := 80) C Bh16 Mh16 (by decide) (by decide) rfl g17 dX12_type_79 rfl (fun αh18 Hh18 Lh18 σh18 eh18 Bh18 Mh18 => ?_)
                replace hf := ms_lE eh18 hf
                refine lv_iload_n hx hb dX12_type_80 rfl (lv_at hl 4 rfl) (hp_n (n := 81) rfl ?_)
                refine lv_iload hx hb dX12_type_81 (lv_at hl 0 rfl) (hp_n (n := 83) rfl ?_)
                have J91 : ∀ (αh19 : hp_T) (Hh19 : Heap) (Lh19 : List Loc) (Bh19 : hp_B Γ mo s α αh19 Hh19 Lh19) (σh19 : ms_T) (Mh19 : hm_M αh19 a0 ρ σh19) (v1_h19 : Int32) (v2_h19 : Int32) (v4_h19 : Int32) (v5_h19 : Int32) (w0_h19 : Int32) (w1_h19 : Int32) (ls : Array Slot) (hl : lv_has ls 7 [(0, .ref a0), (1, .int v1_h19), (2, .int v2_h19), (4, .int v4_h19), (5, .int v5_h19)]) (hf : f_X12_type_J91 n (f_X12_type_L13 n k13) σh19 v1_h19 v2_h19 v4_h19 v5_h19 w0_h19 w1_h19 = some res), W p l e (hp_rm 0 0 0) s m ([.ref a0, .int a1, .int a2] : List Value).toArray below meth c Hh19 Lh19 0 0 (MQ below (hp_Qi Γ (fun r β => r = res.1 ∧ mo α β ∧ hm_M β a0 ρ res.2)) ([.ref a0, .int a1, .int a2] : List Value).toArray s 0 0 (hp_A Γ)) (F0 m 91 ls [.int w0_h19, .int w1_h19]) := by
                  intro αh19 Hh19 Lh19 Bh19 σh19 Mh19 v1_h19 v2_h19 v4_h19 v5_h19 w0_h19 w1_h19 ls hl hf
                  unfold f_X12_type_J91 at hf
                  refine lv_iadd hx hb dX12_type_91 (hp_n (n := 92) rfl ?_)
                  refine lv_topi (fun x20 ex20 => ?_)
                  replace hf := ms_lE ex20 hf
                  refine lv_istore_n (lv' := [(3, .int x20), (0, .ref a0), (1, .int v1_h19), (2, .int v2_h19), (4, .int v4_h19), (5, .int v5_h19)]) hx hb dX12_type_92 rfl hl (by decide) rfl (fun ls hl => hp_n (n := 93) rfl ?_)
                  obtain ⟨x21, ex21⟩ : ∃ y : Int32, y = v5_h19 + 1 := ⟨_, rfl⟩
                  replace hf := ms_lE ex21 hf
                  refine lv_iinc (v := x21) (lv' := [(5, .int x21), (3, .int x20), (0, .ref a0), (1, .int v1_h19), (2, .int v2_h19), (4, .int v4_h19)]) hx hb dX12_type_93 hl (k := 5) rfl (by rw [ex21]; rfl) (by decide) rfl (fun ls hl => hp_n (n := 96) rfl ?_)
                  refine lv_goto (tgt := 13) hx hb dX12_type_96 (by decide) ?_
                  exact ih13 αh19 Hh19 Lh19 Bh19 σh19 Mh19 v1_h19 v2_h19 x20 v4_h19 x21 ls (lv_sub hl [2, 3, 4, 1, 5, 0] rfl) hf
                refine lv_if_eq (tgt := 90) hx hb dX12_type_83 (by decide) (fun c22 => ?_) (fun c22 => hp_n (n := 86) rfl ?_)
                ·
                  replace hf := ms_iT c22 hf
                  refine lv_iconst (v := 0) hx hb dX12_type_90 (by decide) (hp_n (n := 91) rfl ?_)
                  exact J91 αh18 Hh18 Lh18 Bh18 σh18 Mh18 v1_h16 v2_h16 w0_h16 v5_h16 (0 : Int32) v3_h16 ls (lv_sub hl [1, 2, 3, 0, 5] rfl) hf
                ·
                  replace hf := ms_iF c22 hf
                  refine lv_iconst (v := 1) hx hb dX12_type_86 (by decide) (hp_n (n := 87) rfl ?_)
                  refine lv_goto (tgt := 91) hx hb dX12_type_87 (by decide) ?_
                  exact J91 αh18 Hh18 Lh18 Bh18 σh18 Mh18 v1_h16 v2_h16 w0_h16 v5_h16 (1 : Int32) v3_h16 ls (lv_sub hl [1, 2, 3, 0, 5] rfl) hf
              refine lv_if_le (tgt := 68) hx hb dX12_type_61 (by decide) (fun c23 => ?_) (fun c23 => hp_n (n := 64) rfl ?_)
              ·
                replace hf := ms_iT c23 hf
                refine lv_iconst (v := 0) hx hb dX12_type_68 (by decide) (hp_n (n := 69) rfl ?_)
                exact J69 αh13 Hh13 Lh13 Bh13 σh13 Mh13 v1_h13 v2_h13 v3_h13 v5_h13 x14 (0 : Int32) ls (lv_sub hl [1, 2, 3, 4, 5, 0] rfl) hf
              ·
                replace hf := ms_iF c23 hf
                refine lv_iconst (v := 1) hx hb dX12_type_64 (by decide) (hp_n (n := 65) rfl ?_)
                refine lv_goto (tgt := 69) hx hb dX12_type_65 (by decide) ?_
                exact J69 αh13 Hh13 Lh13 Bh13 σh13 Mh13 v1_h13 v2_h13 v3_h13 v5_h13 x14 (1 : Int32) ls (lv_sub hl [1, 2, 3, 4, 5, 0] rfl) hf
            ·
              replace hf := ms_iF c15 hf
              refine lv_iconst (v := (-1)) hx hb dX12_type_57 (by decide) (hp_n (n := 58) rfl ?_)
              cases hf
              exact q_iret C Bh13 hr hlk ⟨rfl, Bh13.2.2, Mh13⟩ dX12_type_58
          refine lv_icmp_ge (tgt := 36) hx hb dX12_type_29 (by decide) (fun c24 => ?_) (fun c24 => hp_n (n := 32) rfl ?_)
          ·
            replace hf := ms_iT c24 hf
            refine lv_iload_n hx hb dX12_type_36 rfl (lv_at hl 2 rfl) (hp_n (n := 37) rfl ?_)
            exact J37 αh2 Hh2 Lh2 Bh2 σh2 Mh2 v1_h2 v2_h2 v3_h2 v5_h2 v2_h2 ls (lv_sub hl [0, 1, 2, 3, 5] rfl) hf
          ·
            replace hf := ms_iF c24 hf
            refine lv_iload_n hx hb dX12_type_32 rfl (lv_at hl 1 rfl) (hp_n (n := 33) rfl ?_)
            refine lv_goto (tgt := 37) hx hb dX12_type_33 (by decide) ?_
            exact J37 αh2 Hh2 Lh2 Bh2 σh2 Mh2 v1_h2 v2_h2 v3_h2 v5_h2 v1_h2 ls (lv_sub hl [0, 1, 2, 3, 5] rfl) hf
  refine lv_istore (lv' := [(5, .int (0 : Int32)), (4, .int (1 : Int32)), (3, .int (0 : Int32)), (0, .ref a0), (1, .int a1), (2, .int a2)]) hx hb dX12_type_11 hl (by decide) rfl (fun ls hl => hp_n (n := 13) rfl ?_)
  exact J13 n αh1 Hh1 Lh1 Bh1 σh1 Mh1 a1 a2 (0 : Int32) (1 : Int32) (0 : Int32) ls (lv_sub hl [3, 4, 5, 2, 1, 0] rfl) hf
def f_X12_hand_L2 (n : Nat) : Nat → ms_T → Int32 → Option ms_T
  | 0, _, _ => none
  | k2 + 1, σh1, v1_h1 =>
    if (ms_I σh1 664) ≤ v1_h1 then
      ms_l (ms_sI σh1 665 (ms_I σh1 664)) fun σh3 =>
      some σh3
    else
      ms_g v1_h1 8 <|
      ms_g v1_h1 8 <|
      ms_l (ms_sE σh1 46 (v1_h1).toNatClampNeg (ms_E σh1 45 (v1_h1).toNatClampNeg)) fun σh6 =>
      ms_l (v1_h1 + 1) fun x7 =>
      (f_X12_hand_L2 n k2) σh6 x7
def f_X12_hand (n : Nat) (σ : ms_T) : Option ms_T :=
  f_X12_hand_L2 n n σ (0 : Int32)
set_option maxRecDepth 100000 in
set_option maxHeartbeats 4000000 in
theorem m_X12_hand (n : Nat) (Γ : hp_G) (l : Launch) (α : hp_T) (a0 : Nat) (ρ : Nat → Nat) (σ : ms_T) (hM : hm_M α a0 ρ σ)  (res : ms_T) (hf : f_X12_hand n σ = some res) : Met l yX12_hand (hp_ws yX12_hand cX12_hand 2 none) (hp_rm 0 0 0) (hp_Pc Γ α [.ref a0]) (hp_Qv Γ (fun β => mo α β ∧ hm_M β a0 ρ res)) 0 0 (hp_A Γ) := by
  unfold f_X12_hand at hf
  refine hp_start (by decide) ?_
  intro p e s m below meth c C hr hlk B0 hnm
  have C : hp_C Γ p m c cX12_hand 2 s ([.ref a0] : List Value).toArray RX12 := C
  have hx := C.1.1
  have hb := C.1.2.1
  have hown := C.1.2.2.2.1
  have hts := C.1.2.2.2.2
  have B : hp_B Γ mo s α α s.heap [] := ⟨B0.1, B0.2.1, mo_rf⟩
  have hl := lv_entry ([.ref a0]) (n := 2) (Nat.le_of_ble_eq_true rfl)
  show W p l e (hp_rm 0 0 0) s m ([.ref a0] : List Value).toArray below meth c s.heap [] 0 0 (MQ below (hp_Qv Γ (fun β => mo α β ∧ hm_M β a0 ρ res)) ([.ref a0] : List Value).toArray s 0 0 (hp_A Γ)) (entryFrame m ([.ref a0] : List Value).toArray 2)
  rw [lg_entry_eq]
  generalize (lg_sl ([.ref a0]) ++ List.replicate (2 - (lg_sl ([.ref a0])).length) Slot.unset).toArray = ls at hl ⊢
  have hl : lv_has ls 2 [(0, .ref a0)] := hl
  refine lv_iconst (v := 0) hx hb dX12_hand_0 (by decide) (hp_n (n := 1) rfl ?_)
  have J2 : ∀ (k2 : Nat) (αh1 : hp_T) (Hh1 : Heap) (Lh1 : List Loc) (Bh1 : hp_B Γ mo s α αh1 Hh1 Lh1) (σh1 : ms_T) (Mh1 : hm_M αh1 a0 ρ σh1) (v1_h1 : Int32) (ls : Array Slot) (hl : lv_has ls 2 [(0, .ref a0), (1, .int v1_h1)]) (hf : f_X12_hand_L2 n k2 σh1 v1_h1 = some res), W p l e (hp_rm 0 0 0) s m ([.ref a0] : List Value).toArray below meth c Hh1 Lh1 0 0 (MQ below (hp_Qv Γ (fun β => mo α β ∧ hm_M β a0 ρ res)) ([.ref a0] : List Value).toArray s 0 0 (hp_A Γ)) (F0 m 2 ls []) := by
    intro k2
    induction k2 with
    | zero => intro αh1 Hh1 Lh1 Bh1 σh1 Mh1 v1_h1 ls hl hf; rw [f_X12_hand_L2.eq_1] at hf; cases hf
    | succ k2 ih2 =>
      intro αh1 Hh1 Lh1 Bh1 σh1 Mh1 v1_h1 ls hl hf
      rw [f_X12_hand_L2.eq_2] at hf
      refine lv_iload_n hx hb dX12_hand_2 rfl (lv_at hl 1 rfl) (hp_n (n := 3) rfl ?_)
      refine lv_aload_n hx hb dX12_hand_3 rfl (lv_at hl 0 rfl) (hp_n (n := 4) rfl ?_)
      refine m_geti (k := 14) (φ := 664) (pc' := 7) C Bh1 Mh1 fl_X12_203 rfl rfl dX12_hand_4 rfl ?_
      refine lv_icmp_ge (tgt := 28) hx hb dX12_hand_7 (by decide) (fun c2 => ?_) (fun c2 => hp_n (n := 10) rfl ?_)
      ·
        replace hf := ms_iT c2 hf
        refine lv_aload_n hx hb dX12_hand_28 rfl (lv_at hl 0 rfl) (hp_n (n := 29) rfl ?_)
        refine lv_aload_n hx hb dX12_hand_29 rfl (lv_at hl 0 rfl) (hp_n (n := 30) rfl ?_)
        refine m_geti (k := 14) (φ := 664) (pc' := 33) C Bh1 Mh1 fl_X12_203 rfl rfl dX12_hand_30 rfl ?_
        refine m_puti (k := 15) (φ := 665) (pc' := 36) C Bh1 Mh1 fl_X12_206 rfl rfl rfl rfl rfl dX12_hand_33 rfl (fun αh3 Hh3 Lh3 σh3 eh3 Bh3 Mh3 => ?_)
        replace hf := ms_lE eh3 hf
        cases hf
        exact q_vret C Bh3 hr hlk ⟨Bh3.2.2, Mh3⟩ dX12_hand_36
      ·
        replace hf := ms_iF c2 hf
        refine lv_aload_n hx hb dX12_hand_10 rfl (lv_at hl 0 rfl) (hp_n (n := 11) rfl ?_)
        refine m_getr (κ := 46) (k := 13) (pc' := 14) C Bh1 Mh1 fl_X12_28 rfl (by decide) dX12_hand_11 rfl ?_
        refine lv_iload_n hx hb dX12_hand_14 rfl (lv_at hl 1 rfl) (hp_n (n := 15) rfl ?_)
        refine lv_aload_n hx hb dX12_hand_15 rfl (lv_at hl 0 rfl) (hp_n (n := 16) rfl ?_)
        refine m_getr (κ := 45) (k := 12) (pc' := 19) C Bh1 Mh1 fl_X12_25 rfl (by decide) dX12_hand_16 rfl ?_
        refine lv_iload_n hx hb dX12_hand_19 rfl (lv_at hl 1 rfl) (hp_n (n := 20) rfl ?_)
        obtain ⟨g4, hf⟩ := ms_gE hf
        refine m_ial (κ := 45) (φ := 662) (n := 8) (pc' := 21) C Bh1 Mh1 (by decide) (by decide) rfl g4 dX12_hand_20 rfl ?_
        obtain ⟨g5, hf⟩ := ms_gE hf
        refine m_ias (κ := 46) (φ := 663) (n := 8) (pc' := 22) C Bh1 Mh1 (by decide) (by decide) rfl g5 dX12_hand_21 rfl (fun αh6 Hh6 Lh6 σh6 eh6 Bh6 Mh6 => ?_)
        replace hf := ms_lE eh6 hf
        obtain ⟨x7, ex7⟩ : ∃ y : Int32, y = v1_h1 + 1 := ⟨_, rfl⟩
        replace hf := ms_lE ex7 hf
        refine lv_iinc (v := x7) (lv' := [(1, .int x7), (0, .ref a0)]) hx hb dX12_hand_22 hl (k := 1) rfl (by rw [ex7]; rfl) (by decide) rfl (fun ls hl => hp_n (n := 25) rfl ?_)
        refine lv_goto (tgt := 2) hx hb dX12_hand_25 (by decide) ?_
        exact ih2 αh6 Hh6 Lh6 Bh6 σh6 Mh6 x7 ls (lv_sub hl [1, 0] rfl) hf
  refine lv_istore_n (lv' := [(1, .int (0 : Int32)), (0, .ref a0)]) hx hb dX12_hand_1 rfl hl (by decide) rfl (fun ls hl => hp_n (n := 2) rfl ?_)
  exact J2 n α s.heap [] B σ hM (0 : Int32) ls (lv_sub hl [1, 0] rfl) hf
def f_X12_adds_L43 (n : Nat) : Nat → ms_T → Int32 → Int32 → Int32 → Option (Int32 × ms_T)
  | 0, _, _, _, _ => none
  | k43 + 1, σh7, v1_h7, v2_h7, v3_h7 =>
    if (ms_I σh7 665) ≤ v3_h7 then
      ms_l (((72 : Int32) + v1_h7)) fun x9 =>
      ms_g x9 1980 <|
      ms_g x9 1980 <|
      ms_l (ms_sE σh7 40 (x9).toNatClampNeg ((ms_E σh7 40 (x9).toNatClampNeg) + (1 : Int32))) fun σh12 =>
      ms_g (4 : Int32) 1980 <|
      ms_g (4 : Int32) 1980 <|
      ms_l (ms_sE σh12 40 ((4 : Int32)).toNatClampNeg ((ms_E σh12 40 ((4 : Int32)).toNatClampNeg) + (1 : Int32))) fun σh15 =>
      ms_b (f_X12_sizeOf n σh15 v1_h7) fun rh16 =>
      some ((rh16 - (1 : Int32)), σh15)
    else
      ms_g v3_h7 8 <|
      ms_g (((444 : Int32) + ((8 : Int32) * v2_h7)) + v3_h7) 1980 <|
      ms_l (ms_sE σh7 40 ((((444 : Int32) + ((8 : Int32) * v2_h7)) + v3_h7)).toNatClampNeg (ms_E σh7 46 (v3_h7).toNatClampNeg)) fun σh19 =>
      ms_l (v3_h7 + 1) fun x20 =>
      (f_X12_adds_L43 n k43) σh19 v1_h7 v2_h7 x20
def f_X12_adds (n : Nat) (σ : ms_T) (a1 : Int32) : Option (Int32 × ms_T) :=
  ms_b (f_X12_sizeOf n σ a1) fun rh1 =>
  if rh1 = (48 : Int32) then
    ms_c (f_X12_refuse n σ (3 : Int32)) fun rh21 σh21 =>
    some (rh21, σh21)
  else
    ms_b (f_X12_sizeOf n σ a1) fun rh3 =>
    ms_l ((((48 : Int32) * a1) + rh3)) fun x4 =>
    ms_g ((252 : Int32) + x4) 1980 <|
    ms_l (ms_sE σ 40 (((252 : Int32) + x4)).toNatClampNeg (ms_I σ 665)) fun σh6 =>
    f_X12_adds_L43 n n σh6 a1 x4 (0 : Int32)
set_option maxRecDepth 100000 in
set_option maxHeartbeats 4000000 in
theorem m_X12_adds (n : Nat) (Γ : hp_G) (l : Launch) (α : hp_T) (a0 : Nat) (ρ : Nat → Nat) (σ : ms_T) (hM : hm_M α a0 ρ σ) (a1 : Int32) (res : (Int32 × ms_T)) (hf : f_X12_adds n σ a1 = some res) : Met l yX12_adds (hp_ws yX12_adds cX12_adds 4 (some .int)) (hp_rm 1 0 0) (hp_Pc Γ α [.ref a0, .int a1]) (hp_Qi Γ (fun r β => r = res.1 ∧ mo α β ∧ hm_M β a0 ρ res.2)) 0 0 (hp_A Γ) := by
  unfold f_X12_adds at hf
  refine hp_start (by decide) ?_
  intro p e s m below meth c C hr hlk B0 hnm
  have C : hp_C Γ p m c cX12_adds 4 s ([.ref a0, .int a1] : List Value).toArray RX12 := C
  have hx := C.1.1
  have hb := C.1.2.1
  have hown := C.1.2.2.2.1
  have hts := C.1.2.2.2.2
  have B : hp_B Γ mo s α α s.heap [] := ⟨B0.1, B0.2.1, mo_rf⟩
  have hl := lv_entry ([.ref a0, .int a1]) (n := 4) (Nat.le_of_ble_eq_true rfl)
  show W p l e (hp_rm 1 0 0) s m ([.ref a0, .int a1] : List Value).toArray below meth c s.heap [] 0 0 (MQ below (hp_Qi Γ (fun r β => r = res.1 ∧ mo α β ∧ hm_M β a0 ρ res.2)) ([.ref a0, .int a1] : List Value).toArray s 0 0 (hp_A Γ)) (entryFrame m ([.ref a0, .int a1] : List Value).toArray 4)
  rw [lg_entry_eq]
  generalize (lg_sl ([.ref a0, .int a1]) ++ List.replicate (4 - (lg_sl ([.ref a0, .int a1])).length) Slot.unset).toArray = ls at hl ⊢
  have hl : lv_has ls 4 [(0, .ref a0), (1, .int a1)] := hl
  refine lv_aload_n hx hb dX12_adds_0 rfl (lv_at hl 0 rfl) (hp_n (n := 1) rfl ?_)
  refine lv_iload_n hx hb dX12_adds_1 rfl (lv_at hl 1 rfl) (hp_n (n := 2) rfl ?_)
  obtain ⟨rh1, qh1, hf⟩ := ms_bE hf
  refine m_cp (pc' := 5) B (hp_runV (As := [.int a1]) (rest := []) C B (m_X12_sizeOf n Γ l α a0 ρ σ hM a1 rh1 qh1) lb_X12_sizeOf lv_X12_sizeOf lk_X12_209 hM.1 rfl (by decide) rfl hl.1 rfl (Nat.le_of_ble_eq_true rfl) dX12_adds_2 ⟨Nat.le_refl _, Nat.le_refl _⟩) rfl (fun Hh1 Lh1 Bh1 => ?_)
  refine lv_bipush (v := 48) hx hb dX12_adds_5 (by decide) (hp_n (n := 7) rfl ?_)
  refine lv_icmp_ne (tgt := 16) hx hb dX12_adds_7 (by decide) (fun c2 => ?_) (fun c2 => hp_n (n := 10) rfl ?_)
  ·
    replace hf := ms_iF c2 hf
    refine lv_bipush (v := 48) hx hb dX12_adds_16 (by decide) (hp_n (n := 18) rfl ?_)
    refine lv_iload_n hx hb dX12_adds_18 rfl (lv_at hl 1 rfl) (hp_n (n := 19) rfl ?_)
    refine lv_imul hx hb dX12_adds_19 (hp_n (n := 20) rfl ?_)
    refine lv_aload_n hx hb dX12_adds_20 rfl (lv_at hl 0 rfl) (hp_n (n := 21) rfl ?_)
    refine lv_iload_n hx hb dX12_adds_21 rfl (lv_at hl 1 rfl) (hp_n (n := 22) rfl ?_)
    obtain ⟨rh3, qh3, hf⟩ := ms_bE hf
    refine m_cp (pc' := 25) Bh1 (hp_runV (As := [.int a1]) (rest := [.int ((48 : Int32) * a1)]) C Bh1 (m_X12_sizeOf n Γ l α a0 ρ σ hM a1 rh3 qh3) lb_X12_sizeOf lv_X12_sizeOf lk_X12_209 hM.1 rfl (by decide) rfl hl.1 rfl (Nat.le_of_ble_eq_true rfl) dX12_adds_22 ⟨Nat.le_refl _, Nat.le_refl _⟩) rfl (fun Hh3 Lh3 Bh3 => ?_)
    refine lv_iadd hx hb dX12_adds_25 (hp_n (n := 26) rfl ?_)
    refine lv_topi (fun x4 ex4 => ?_)
    replace hf := ms_lE ex4 hf
    refine lv_istore_n (lv' := [(2, .int x4), (0, .ref a0), (1, .int a1)]) hx hb dX12_adds_26 rfl hl (by decide) rfl (fun ls hl => hp_n (n := 27) rfl ?_)
    refine lv_aload_n hx hb dX12_adds_27 rfl (lv_at hl 1 rfl) (hp_n (n := 28) rfl ?_)
    refine m_getr (κ := 40) (k := 0) (pc' := 31) C Bh3 hM fl_X12_7 rfl (by decide) dX12_adds_28 rfl ?_
    refine lv_sipush (v := 252) hx hb dX12_adds_31 (by decide) (hp_n (n := 34) rfl ?_)
    refine lv_iload_n hx hb dX12_adds_34 rfl (lv_at hl 0 rfl) (hp_n (n := 35) rfl ?_)
    refine lv_iadd hx hb dX12_adds_35 (hp_n (n := 36) rfl ?_)
    refine lv_aload_n hx hb dX12_adds_36 rfl (lv_at hl 1 rfl) (hp_n (n := 37) rfl ?_)
    refine m_geti (k := 15) (φ := 665) (pc' := 40) C Bh3 hM fl_X12_206 rfl rfl dX12_adds_37 rfl ?_
    obtain ⟨g5, hf⟩ := ms_gE hf
    refine m_ias (κ := 40) (φ := 650) (n := 1980) (pc' := 41) C Bh3 hM (by decide) (by decide) rfl g5 dX12_adds_40 rfl (fun αh6 Hh6 Lh6 σh6 eh6 Bh6 Mh6 => ?_)
    replace hf := ms_lE eh6 hf
    refine lv_iconst (v := 0) hx hb dX12_adds_41 (by decide) (hp_n (n := 42) rfl ?_)
    have J43 : ∀ (k43 : Nat) (αh7 : hp_T) (Hh7 : Heap) (Lh7 : List Loc) (Bh7 : hp_B Γ mo s α αh7 Hh7 Lh7) (σh7 : ms_T) (Mh7 : hm_M αh7 a0 ρ σh7) (v1_h7 : Int32) (v2_h7 : Int32) (v3_h7 : Int32) (ls : Array Slot) (hl : lv_has ls 4 [(0, .ref a0), (1, .int v1_h7), (2, .int v2_h7), (3, .int v3_h7)]) (hf : f_X12_adds_L43 n k43 σh7 v1_h7 v2_h7 v3_h7 = some res), W p l e (hp_rm 1 0 0) s m ([.ref a0, .int a1] : List Value).toArray below meth c Hh7 Lh7 0 0 (MQ below (hp_Qi Γ (fun r β => r = res.1 ∧ mo α β ∧ hm_M β a0 ρ res.2)) ([.ref a0, .int a1] : List Value).toArray s 0 0 (hp_A Γ)) (F0 m 43 ls []) := by
      intro k43
      induction k43 with
      | zero => intro αh7 Hh7 Lh7 Bh7 σh7 Mh7 v1_h7 v2_h7 v3_h7 ls hl hf; rw [f_X12_adds_L43.eq_1] at hf; cases hf
      | succ k43 ih43 =>
        intro αh7 Hh7 Lh7 Bh7 σh7 Mh7 v1_h7 v2_h7 v3_h7 ls hl hf
        rw [f_X12_adds_L43.eq_2] at hf
        refine lv_iload_n hx hb dX12_adds_43 rfl (lv_at hl 3 rfl) (hp_n (n := 44) rfl ?_)
        refine lv_aload_n hx hb dX12_adds_44 rfl (lv_at hl 0 rfl) (hp_n (n := 45) rfl ?_)
        refine m_geti (k := 15) (φ := 665) (pc' := 48) C Bh7 Mh7 fl_X12_206 rfl rfl dX12_adds_45 rfl ?_
        refine lv_icmp_ge (tgt := 78) hx hb dX12_adds_48 (by decide) (fun c8 => ?_) (fun c8 => hp_n (n := 51) rfl ?_)
        ·
          replace hf := ms_iT c8 hf
          refine lv_aload_n hx hb dX12_adds_78 rfl (lv_at hl 0 rfl) (hp_n (n := 79) rfl ?_)
          refine m_getr (κ := 40) (k := 0) (pc' := 82) C Bh7 Mh7 fl_X12_7 rfl (by decide) dX12_adds_79 rfl ?_
          refine lv_bipush (v := 72) hx hb dX12_adds_82 (by decide) (hp_n (n := 84) rfl ?_)
          refine lv_iload_n hx hb dX12_adds_84 rfl (lv_at hl 1 rfl) (hp_n (n := 85) rfl ?_)
          refine lv_iadd hx hb dX12_adds_85 (hp_n (n := 86) rfl ?_)
          refine lv_topi (fun x9 ex9 => ?_)
          replace hf := ms_lE ex9 hf
          refine lv_dup2_11 hx hb dX12_adds_86 rfl rfl (hp_n (n := 87) rfl ?_)
          obtain ⟨g10, hf⟩ := ms_gE hf
          refine m_ial (κ := 40) (φ := 650) (n := 1980) (pc' := 88) C Bh7 Mh7 (by decide) (by decide) rfl g10 dX12_adds_87 rfl ?_
          refine lv_iconst (v := 1) hx hb dX12_adds_88 (by decide) (hp_n (n := 89) rfl ?_)
          refine lv_iadd hx hb dX12_adds_89 (hp_n (n := 90) rfl ?_)
          obtain ⟨g11, hf⟩ := ms_gE hf
          refine m_ias (κ := 40) (φ := 650) (n := 1980) (pc' := 91) C Bh7 Mh7 (by decide) (by decide) rfl g11 dX12_adds_90 rfl (fun αh12 Hh12 Lh12 σh12 eh12 Bh12 Mh12 => ?_)
          replace hf := ms_lE eh12 hf
          refine lv_aload_n hx hb dX12_adds_91 rfl (lv_at hl 0 rfl) (hp_n (n := 92) rfl ?_)
          refine m_getr (κ := 40) (k := 0) (pc' := 95) C Bh12 Mh12 fl_X12_7 rfl (by decide) dX12_adds_92 rfl ?_
          refine lv_iconst (v := 4) hx hb dX12_adds_95 (by decide) (hp_n (n := 96) rfl ?_)
          refine lv_dup2_11 hx hb dX12_adds_96 rfl rfl (hp_n (n := 97) rfl ?_)
          obtain ⟨g13, hf⟩ := ms_gE hf
          refine m_ial (κ := 40) (φ := 650) (n := 1980) (pc' := 98) C Bh12 Mh12 (by decide) (by decide) rfl g13 dX12_adds_97 rfl ?_
          refine lv_iconst (v := 1) hx hb dX12_adds_98 (by decide) (hp_n (n := 99) rfl ?_)
          refine lv_iadd hx hb dX12_adds_99 (hp_n (n := 100) rfl ?_)
          obtain ⟨g14, hf⟩ := ms_gE hf
          refine m_ias (κ := 40) (φ := 650) (n := 1980) (pc' := 101) C Bh12 Mh12 (by decide) (by decide) rfl g14 dX12_adds_100 rfl (fun αh15 Hh15 Lh15 σh15 eh15 Bh15 Mh15 => ?_)
          replace hf := ms_lE eh15 hf
          refine lv_aload_n hx hb dX12_adds_101 rfl (lv_at hl 0 rfl) (hp_n (n := 102) rfl ?_)
          refine lv_iload_n hx hb dX12_adds_102 rfl (lv_at hl 1 rfl) (hp_n (n := 103) rfl ?_)
          obtain ⟨rh16, qh16, hf⟩ := ms_bE hf
          refine m_cp (pc' := 106) Bh15 (hp_runV (As := [.int v1_h7]) (rest := []) C Bh15 (m_X12_sizeOf n Γ l αh15 a0 ρ σh15 Mh15 v1_h7 rh16 qh16) lb_X12_sizeOf lv_X12_sizeOf lk_X12_209 Mh15.1 rfl (by decide) rfl hl.1 rfl (Nat.le_of_ble_eq_true rfl) dX12_adds_103 ⟨Nat.le_refl _, Nat.le_refl _⟩) rfl (fun Hh16 Lh16 Bh16 => ?_)
          refine lv_iconst (v := 1) hx hb dX12_adds_106 (by decide) (hp_n (n := 107) rfl ?_)
          refine lv_isub hx hb dX12_adds_107 (hp_n (n := 108) rfl ?_)
          cases hf
          exact q_iret C Bh16 hr hlk ⟨rfl, Bh16.2.2, Mh15⟩ dX12_adds_108
        ·
          replace hf := ms_iF c8 hf
          refine lv_aload_n hx hb dX12_adds_51 rfl (lv_at hl 0 rfl) (hp_n (n := 52) rfl ?_)
          refine m_getr (κ := 40) (k := 0) (pc' := 55) C Bh7 Mh7 fl_X12_7 rfl (by decide) dX12_adds_52 rfl ?_
          refine lv_sipush (v := 444) hx hb dX12_adds_55 (by decide) (hp_n (n := 58) rfl ?_)
          refine lv_bipush (v := 8) hx hb dX12_adds_58 (by decide) (hp_n (n := 60) rfl ?_)
          refine lv_iload_n hx hb dX12_adds_60 rfl (lv_at hl 2 rfl) (hp_n (n := 61) rfl ?_)
          refine lv_imul hx hb dX12_adds_61 (hp_n (n := 62) rfl ?_)
          refine lv_iadd hx hb dX12_adds_62 (hp_n (n := 63) rfl ?_)
          refine lv_iload_n hx hb dX12_adds_63 rfl (lv_at hl 3 rfl) (hp_n (n := 64) rfl ?_)
          refine lv_iadd hx hb dX12_adds_64 (hp_n (n := 65) rfl ?_)
          refine lv_aload_n hx hb dX12_adds_65 rfl (lv_at hl 0 rfl) (hp_n (n := 66) rfl ?_)
          refine m_getr (κ := 46) (k := 13) (pc' := 69) C Bh7 Mh7 fl_X12_28 rfl (by decide) dX12_adds_66 rfl ?_
          refine lv_iload_n hx hb dX12_adds_69 rfl (lv_at hl 3 rfl) (hp_n (n := 70) rfl ?_)
          obtain ⟨g17, hf⟩ := ms_gE hf
          refine m_ial (κ := 46) (φ := 663) (n := 8) (pc' := 71) C Bh7 Mh7 (by decide) (by decide) rfl g17 dX12_adds_70 rfl ?_
          obtain ⟨g18, hf⟩ := ms_gE hf
          refine m_ias (κ := 40) (φ := 650) (n := 1980) (pc' := 72) C Bh7 Mh7 (by decide) (by decide) rfl g18 dX12_adds_71 rfl (fun αh19 Hh19 Lh19 σh19 eh19 Bh19 Mh19 => ?_)
          replace hf := ms_lE eh19 hf
          obtain ⟨x20, ex20⟩ : ∃ y : Int32, y = v3_h7 + 1 := ⟨_, rfl⟩
          replace hf := ms_lE ex20 hf
          refine lv_iinc (v := x20) (lv' := [(3, .int x20), (0, .ref a0), (1, .int v1_h7), (2, .int v2_h7)]) hx hb dX12_adds_72 hl (k := 3) rfl (by rw [ex20]; rfl) (by decide) rfl (fun ls hl => hp_n (n := 75) rfl ?_)
          refine lv_goto (tgt := 43) hx hb dX12_adds_75 (by decide) ?_
          exact ih43 αh19 Hh19 Lh19 Bh19 σh19 Mh19 v1_h7 v2_h7 x20 ls (lv_sub hl [1, 2, 3, 0] rfl) hf
    refine lv_istore_n (lv' := [(3, .int (0 : Int32)), (2, .int x4), (0, .ref a0), (1, .int a1)]) hx hb dX12_adds_42 rfl hl (by decide) rfl (fun ls hl => hp_n (n := 43) rfl ?_)
    exact J43 n αh6 Hh6 Lh6 Bh6 σh6 Mh6 a1 x4 (0 : Int32) ls (lv_sub hl [2, 3, 1, 0] rfl) hf
  ·
    replace hf := ms_iT c2 hf
    refine lv_aload_n hx hb dX12_adds_10 rfl (lv_at hl 0 rfl) (hp_n (n := 11) rfl ?_)
    refine lv_iconst (v := 3) hx hb dX12_adds_11 (by decide) (hp_n (n := 12) rfl ?_)
    obtain ⟨rh21, σh21, qh21, hf⟩ := ms_cE hf
    refine m_ci (pc' := 15) (a := a0) (ρ := ρ) Bh1 (hp_runV (As := [.int (3 : Int32)]) (rest := []) C Bh1 (m_X12_refuse n Γ l α a0 ρ σ hM (3 : Int32) (rh21, σh21) qh21) lb_X12_refuse lv_X12_refuse lk_X12_212 hM.1 rfl (by decide) rfl hl.1 rfl (Nat.le_of_ble_eq_true rfl) dX12_adds_12 ⟨Nat.le_refl _, Nat.le_refl _⟩) rfl (fun αh21 Hh21 Lh21 Bh21 Mh21 => ?_)
    cases hf
    exact q_iret C Bh21 hr hlk ⟨rfl, Bh21.2.2, Mh21⟩ dX12_adds_15
def f_X12_forks_L82 (n : Nat) (rec41 : ms_T → Int32 → Int32 → Int32 → Int32 → Option (Int32 × ms_T)) : Nat → ms_T → Int32 → Int32 → Int32 → Int32 → Int32 → Option (Int32 × ms_T)
  | 0, _, _, _, _, _, _ => none
  | k82 + 1, σh20, v1_h20, v2_h20, v3_h20, v4_h20, v5_h20 =>
    if (8 : Int32) ≤ v5_h20 then
      ms_l (v4_h20 + 1) fun x22 =>
      rec41 σh20 v1_h20 v2_h20 v3_h20 x22
    else
      ms_g (((444 : Int32) + ((8 : Int32) * (((48 : Int32) * v1_h20) + v4_h20))) + v5_h20) 1980 <|
      ms_g (((444 : Int32) + ((8 : Int32) * (((48 : Int32) * v3_h20) + v4_h20))) + v5_h20) 1980 <|
      ms_l (ms_sE σh20 40 ((((444 : Int32) + ((8 : Int32) * (((48 : Int32) * v3_h20) + v4_h20))) + v5_h20)).toNatClampNeg (ms_E σh20 40 ((((444 : Int32) + ((8 : Int32) * (((48 : Int32) * v1_h20) + v4_h20))) + v5_h20)).toNatClampNeg)) fun σh25 =>
      ms_l (v5_h20 + 1) fun x26 =>
      (f_X12_forks_L82 n rec41 k82) σh25 v1_h20 v2_h20 v3_h20 v4_h20 x26
def f_X12_forks_L41 (n : Nat) : Nat → ms_T → Int32 → Int32 → Int32 → Int32 → Option (Int32 × ms_T)
  | 0, _, _, _, _, _ => none
  | k41 + 1, σh7, v1_h7, v2_h7, v3_h7, v4_h7 =>
    if v2_h7 ≤ v4_h7 then
      ms_g ((72 : Int32) + v3_h7) 1980 <|
      ms_l (ms_sE σh7 40 (((72 : Int32) + v3_h7)).toNatClampNeg v2_h7) fun σh10 =>
      ms_g (0 : Int32) 1980 <|
      ms_g (0 : Int32) 1980 <|
      ms_l (ms_sE σh10 40 ((0 : Int32)).toNatClampNeg ((ms_E σh10 40 ((0 : Int32)).toNatClampNeg) + (1 : Int32))) fun σh13 =>
      ms_g (4 : Int32) 1980 <|
      ms_g (4 : Int32) 1980 <|
      ms_l (ms_sE σh13 40 ((4 : Int32)).toNatClampNeg ((ms_E σh13 40 ((4 : Int32)).toNatClampNeg) + (1 : Int32))) fun σh16 =>
      some (v3_h7, σh16)
    else
      ms_g (((252 : Int32) + ((48 : Int32) * v1_h7)) + v4_h7) 1980 <|
      ms_g (((252 : Int32) + ((48 : Int32) * v3_h7)) + v4_h7) 1980 <|
      ms_l (ms_sE σh7 40 ((((252 : Int32) + ((48 : Int32) * v3_h7)) + v4_h7)).toNatClampNeg (ms_E σh7 40 ((((252 : Int32) + ((48 : Int32) * v1_h7)) + v4_h7)).toNatClampNeg)) fun σh19 =>
      f_X12_forks_L82 n (f_X12_forks_L41 n k41) n σh19 v1_h7 v2_h7 v3_h7 v4_h7 (0 : Int32)
def f_X12_forks (n : Nat) (σ : ms_T) (a1 : Int32) (a2 : Int32) : Option (Int32 × ms_T) :=
  ms_b (f_X12_sizeOf n σ a1) fun rh1 =>
  if a2 ≤ rh1 then
    ms_g (0 : Int32) 1980 <|
    if (ms_E σ 40 ((0 : Int32)).toNatClampNeg) = (4 : Int32) then
      ms_c (f_X12_refuse n σ (3 : Int32)) fun rh27 σh27 =>
      some (rh27, σh27)
    else
      ms_g (0 : Int32) 1980 <|
      ms_l ((ms_E σ 40 ((0 : Int32)).toNatClampNeg)) fun x6 =>
      f_X12_forks_L41 n n σ a1 a2 x6 (0 : Int32)
  else
    ms_c (f_X12_refuse n σ (5 : Int32)) fun rh28 σh28 =>
    some (rh28, σh28)
set_option maxRecDepth 100000 in
set_option maxHeartbeats 4000000 in
theorem m_X12_forks (n : Nat) (Γ : hp_G) (l : Launch) (α : hp_T) (a0 : Nat) (ρ : Nat → Nat) (σ : ms_T) (hM : hm_M α a0 ρ σ) (a1 : Int32) (a2 : Int32) (res : (Int32 × ms_T)) (hf : f_X12_forks n σ a1 a2 = some res) : Met l yX12_forks (hp_ws yX12_forks cX12_forks 6 (some .int)) (hp_rm 1 0 0) (hp_Pc Γ α [.ref a0, .int a1, .int a2]) (hp_Qi Γ (fun r β => r = res.1 ∧ mo α β ∧ hm_M β a0 ρ res.2)) 0 0 (hp_A Γ) := by
  unfold f_X12_forks at hf
  refine hp_start (by decide) ?_
  intro p e s m below meth c C hr hlk B0 hnm
  have C : hp_C Γ p m c cX12_forks 6 s ([.ref a0, .int a1, .int a2] : List Value).toArray RX12 := C
  have hx := C.1.1
  have hb := C.1.2.1
  have hown := C.1.2.2.2.1
  have hts := C.1.2.2.2.2
  have B : hp_B Γ mo s α α s.heap [] := ⟨B0.1, B0.2.1, mo_rf⟩
  have hl := lv_entry ([.ref a0, .int a1, .int a2]) (n := 6) (Nat.le_of_ble_eq_true rfl)
  show W p l e (hp_rm 1 0 0) s m ([.ref a0, .int a1, .int a2] : List Value).toArray below meth c s.heap [] 0 0 (MQ below (hp_Qi Γ (fun r β => r = res.1 ∧ mo α β ∧ hm_M β a0 ρ res.2)) ([.ref a0, .int a1, .int a2] : List Value).toArray s 0 0 (hp_A Γ)) (entryFrame m ([.ref a0, .int a1, .int a2] : List Value).toArray 6)
  rw [lg_entry_eq]
  generalize (lg_sl ([.ref a0, .int a1, .int a2]) ++ List.replicate (6 - (lg_sl ([.ref a0, .int a1, .int a2])).length) Slot.unset).toArray = ls at hl ⊢
  have hl : lv_has ls 6 [(0, .ref a0), (1, .int a1), (2, .int a2)] := hl
  refine lv_iload_n hx hb dX12_forks_0 rfl (lv_at hl 2 rfl) (hp_n (n := 1) rfl ?_)
  refine lv_aload_n hx hb dX12_forks_1 rfl (lv_at hl 0 rfl) (hp_n (n := 2) rfl ?_)
  refine lv_iload_n hx hb dX12_forks_2 rfl (lv_at hl 1 rfl) (hp_n (n := 3) rfl ?_)
  obtain ⟨rh1, qh1, hf⟩ := ms_bE hf
  refine m_cp (pc' := 6) B (hp_runV (As := [.int a1]) (rest := [.int a2]) C B (m_X12_sizeOf n Γ l α a0 ρ σ hM a1 rh1 qh1) lb_X12_sizeOf lv_X12_sizeOf lk_X12_209 hM.1 rfl (by decide) rfl hl.1 rfl (Nat.le_of_ble_eq_true rfl) dX12_forks_3 ⟨Nat.le_refl _, Nat.le_refl _⟩) rfl (fun Hh1 Lh1 Bh1 => ?_)
  refine lv_icmp_le (tgt := 15) hx hb dX12_forks_6 (by decide) (fun c2 => ?_) (fun c2 => hp_n (n := 9) rfl ?_)
  ·
    replace hf := ms_iT c2 hf
    refine lv_aload_n hx hb dX12_forks_15 rfl (lv_at hl 0 rfl) (hp_n (n := 16) rfl ?_)
    refine m_getr (κ := 40) (k := 0) (pc' := 19) C Bh1 hM fl_X12_7 rfl (by decide) dX12_forks_16 rfl ?_
    refine lv_iconst (v := 0) hx hb dX12_forks_19 (by decide) (hp_n (n := 20) rfl ?_)
    obtain ⟨g3, hf⟩ := ms_gE hf
    refine m_ial (κ := 40) (φ := 650) (n := 1980) (pc' := 21) C Bh1 hM (by decide) (by decide) rfl g3 dX12_forks_20 rfl ?_
    refine lv_iconst (v := 4) hx hb dX12_forks_21 (by decide) (hp_n (n := 22) rfl ?_)
    refine lv_icmp_ne (tgt := 31) hx hb dX12_forks_22 (by decide) (fun c4 => ?_) (fun c4 => hp_n (n := 25) rfl ?_)
    ·
      replace hf := ms_iF c4 hf
      refine lv_aload_n hx hb dX12_forks_31 rfl (lv_at hl 0 rfl) (hp_n (n := 32) rfl ?_)
      refine m_getr (κ := 40) (k := 0) (pc' := 35) C Bh1 hM fl_X12_7 rfl (by decide) dX12_forks_32 rfl ?_
      refine lv_iconst (v := 0) hx hb dX12_forks_35 (by decide) (hp_n (n := 36) rfl ?_)
      obtain ⟨g5, hf⟩ := ms_gE hf
      refine m_ial (κ := 40) (φ := 650) (n := 1980) (pc' := 37) C Bh1 hM (by decide) (by decide) rfl g5 dX12_forks_36 rfl ?_
      refine lv_topi (fun x6 ex6 => ?_)
      replace hf := ms_lE ex6 hf
      refine lv_istore_n (lv' := [(3, .int x6), (0, .ref a0), (1, .int a1), (2, .int a2)]) hx hb dX12_forks_37 rfl hl (by decide) rfl (fun ls hl => hp_n (n := 38) rfl ?_)
      refine lv_iconst (v := 0) hx hb dX12_forks_38 (by decide) (hp_n (n := 39) rfl ?_)
      have J41 : ∀ (k41 : Nat) (αh7 : hp_T) (Hh7 : Heap) (Lh7 : List Loc) (Bh7 : hp_B Γ mo s α αh7 Hh7 Lh7) (σh7 : ms_T) (Mh7 : hm_M αh7 a0 ρ σh7) (v1_h7 : Int32) (v2_h7 : Int32) (v3_h7 : Int32) (v4_h7 : Int32) (ls : Array Slot) (hl : lv_has ls 6 [(0, .ref a0), (1, .int v1_h7), (2, .int v2_h7), (3, .int v3_h7), (4, .int v4_h7)]) (hf : f_X12_forks_L41 n k41 σh7 v1_h7 v2_h7 v3_h7 v4_h7 = some res), W p l e (hp_rm 1 0 0) s m ([.ref a0, .int a1, .int a2] : List Value).toArray below meth c Hh7 Lh7 0 0 (MQ below (hp_Qi Γ (fun r β => r = res.1 ∧ mo α β ∧ hm_M β a0 ρ res.2)) ([.ref a0, .int a1, .int a2] : List Value).toArray s 0 0 (hp_A Γ)) (F0 m 41 ls []) := by
        intro k41
        induction k41 with
        | zero => intro αh7 Hh7 Lh7 Bh7 σh7 Mh7 v1_h7 v2_h7 v3_h7 v4_h7 ls hl hf; rw [f_X12_forks_L41.eq_1] at hf; cases hf
        | succ k41 ih41 =>
          intro αh7 Hh7 Lh7 Bh7 σh7 Mh7 v1_h7 v2_h7 v3_h7 v4_h7 ls hl hf
          rw [f_X12_forks_L41.eq_2] at hf
          refine lv_iload hx hb dX12_forks_41 (lv_at hl 4 rfl) (hp_n (n := 43) rfl ?_)
          refine lv_iload_n hx hb dX12_forks_43 rfl (lv_at hl 2 rfl) (hp_n (n := 44) rfl ?_)
          refine lv_icmp_ge (tgt := 145) hx hb dX12_forks_44 (by decide) (fun c8 => ?_) (fun c8 => hp_n (n := 47) rfl ?_)
          ·
            replace hf := ms_iT c8 hf
            refine lv_aload_n hx hb dX12_forks_145 rfl (lv_at hl 0 rfl) (hp_n (n := 146) rfl ?_)
            refine m_getr (κ := 40) (k := 0) (pc' := 149) C Bh7 Mh7 fl_X12_7 rfl (by decide) dX12_forks_146 rfl ?_
            refine lv_bipush (v := 72) hx hb dX12_forks_149 (by decide) (hp_n (n := 151) rfl ?_)
            refine lv_iload_n hx hb dX12_forks_151 rfl (lv_at hl 3 rfl) (hp_n (n := 152) rfl ?_)
            refine lv_iadd hx hb dX12_forks_152 (hp_n (n := 153) rfl ?_)
            refine lv_iload_n hx hb dX12_forks_153 rfl (lv_at hl 2 rfl) (hp_n (n := 154) rfl ?_)
            obtain ⟨g9, hf⟩ := ms_gE hf
            refine m_ias (κ := 40) (φ := 650) (n := 1980) (pc' := 155) C Bh7 Mh7 (by decide) (by decide) rfl g9 dX12_forks_154 rfl (fun αh10 Hh10 Lh10 σh10 eh10 Bh10 Mh10 => ?_)
            replace hf := ms_lE eh10 hf
            refine lv_aload_n hx hb dX12_forks_155 rfl (lv_at hl 0 rfl) (hp_n (n := 156) rfl ?_)
            refine m_getr (κ := 40) (k := 0) (pc' := 159) C Bh10 Mh10 fl_X12_7 rfl (by decide) dX12_forks_156 rfl ?_
            refine lv_iconst (v := 0) hx hb dX12_forks_159 (by decide) (hp_n (n := 160) rfl ?_)
            refine lv_dup2_11 hx hb dX12_forks_160 rfl rfl (hp_n (n := 161) rfl ?_)
            obtain ⟨g11, hf⟩ := ms_gE hf
            refine m_ial (κ := 40) (φ := 650) (n := 1980) (pc' := 162) C Bh10 Mh10 (by decide) (by decide) rfl g11 dX12_forks_161 rfl ?_
            refine lv_iconst (v := 1) hx hb dX12_forks_162 (by decide) (hp_n (n := 163) rfl ?_)
            refine lv_iadd hx hb dX12_forks_163 (hp_n (n := 164) rfl ?_)
            obtain ⟨g12, hf⟩ := ms_gE hf
            refine m_ias (κ := 40) (φ := 650) (n := 1980) (pc' := 165) C Bh10 Mh10 (by decide) (by decide) rfl g12 dX12_forks_164 rfl (fun αh13 Hh13 Lh13 σh13 eh13 Bh13 Mh13 => ?_)
            replace hf := ms_lE eh13 hf
            refine lv_aload_n hx hb dX12_forks_165 rfl (lv_at hl 0 rfl) (hp_n (n := 166) rfl ?_)
            refine m_getr (κ := 40) (k := 0) (pc' := 169) C Bh13 Mh13 fl_X12_7 rfl (by decide) dX12_forks_166 rfl ?_
            refine lv_iconst (v := 4) hx hb dX12_forks_169 (by decide) (hp_n (n := 170) rfl ?_)
            refine lv_dup2_11 hx hb dX12_forks_170 rfl rfl (hp_n (n := 171) rfl ?_)
            obtain ⟨g14, hf⟩ := ms_gE hf
            refine m_ial (κ := 40) (φ := 650) (n := 1980) (pc' := 172) C Bh13 Mh13 (by decide) (by decide) rfl g14 dX12_forks_171 rfl ?_
            refine lv_iconst (v := 1) hx hb dX12_forks_172 (by decide) (hp_n (n := 173) rfl ?_)
            refine lv_iadd hx hb dX12_forks_173 (hp_n (n := 174) rfl ?_)
            obtain ⟨g15, hf⟩ := ms_gE hf
            refine m_ias (κ := 40) (φ := 650) (n := 1980) (pc' := 175) C Bh13 Mh13 (by decide) (by decide) rfl g15 dX12_forks_174 rfl (fun αh16 Hh16 Lh16 σh16 eh16 Bh16 Mh16 => ?_)
            replace hf := ms_lE eh16 hf
            refine lv_iload_n hx hb dX12_forks_175 rfl (lv_at hl 3 rfl) (hp_n (n := 176) rfl ?_)
            cases hf
            exact q_iret C Bh16 hr hlk ⟨rfl, Bh16.2.2, Mh16⟩ dX12_forks_176
          ·
            replace hf := ms_iF c8 hf
            refine lv_aload_n hx hb dX12_forks_47 rfl (lv_at hl 0 rfl) (hp_n (n := 48) rfl ?_)
            refine m_getr (κ := 40) (k := 0) (pc' := 51) C Bh7 Mh7 fl_X12_7 rfl (by decide) dX12_forks_48 rfl ?_
            refine lv_sipush (v := 252) hx hb dX12_forks_51 (by decide) (hp_n (n := 54) rfl ?_)
            refine lv_bipush (v := 48) hx hb dX12_forks_54 (by decide) (hp_n (n := 56) rfl ?_)
            refine lv_iload_n hx hb dX12_forks_56 rfl (lv_at hl 3 rfl) (hp_n (n := 57) rfl ?_)
            refine lv_imul hx hb dX12_forks_57 (hp_n (n := 58) rfl ?_)
            refine lv_iadd hx hb dX12_forks_58 (hp_n (n := 59) rfl ?_)
            refine lv_iload hx hb dX12_forks_59 (lv_at hl 4 rfl) (hp_n (n := 61) rfl ?_)
            refine lv_iadd hx hb dX12_forks_61 (hp_n (n := 62) rfl ?_)
            refine lv_aload_n hx hb dX12_forks_62 rfl (lv_at hl 0 rfl) (hp_n (n := 63) rfl ?_)
            refine m_getr (κ := 40) (k := 0) (pc' := 66) C Bh7 Mh7 fl_X12_7 rfl (by decide) dX12_forks_63 rfl ?_
            refine lv_sipush (v := 252) hx hb dX12_forks_66 (by decide) (hp_n (n := 69) rfl ?_)
            refine lv_bipush (v := 48) hx hb dX12_forks_69 (by decide) (hp_n (n := 71) rfl ?_)
            refine lv_iload_n hx hb dX12_forks_71 rfl (lv_at hl 1 rfl) (hp_n (n := 72) rfl ?_)
            refine lv_imul hx hb dX12_forks_72 (hp_n (n := 73) rfl ?_)
            refine lv_iadd hx hb dX12_forks_73 (hp_n (n := 74) rfl ?_)
            refine lv_iload hx hb dX12_forks_74 (lv_at hl 4 rfl) (hp_n (n := 76) rfl ?_)
            refine lv_iadd hx hb dX12_forks_76 (hp_n (n := 77) rfl ?_)
            obtain ⟨g17, hf⟩ := ms_gE hf
            refine m_ial (κ := 40) (φ := 650) (n := 1980) (pc' := 78) C Bh7 Mh7 (by decide) (by decide) rfl g17 dX12_forks_77 rfl ?_
            obtain ⟨g18, hf⟩ := ms_gE hf
            refine m_ias (κ := 40) (φ := 650) (n := 1980) (pc' := 79) C Bh7 Mh7 (by decide) (by decide) rfl g18 dX12_forks_78 rfl (fun αh19 Hh19 Lh19 σh19 eh19 Bh19 Mh19 => ?_)
            replace hf := ms_lE eh19 hf
            refine lv_iconst (v := 0) hx hb dX12_forks_79 (by decide) (hp_n (n := 80) rfl ?_)
            have J82 : ∀ (k82 : Nat) (αh20 : hp_T) (Hh20 : Heap) (Lh20 : List Loc) (Bh20 : hp_B Γ mo s α αh20 Hh20 Lh20) (σh20 : ms_T) (Mh20 : hm_M αh20 a0 ρ σh20) (v1_h20 : Int32) (v2_h20 : Int32) (v3_h20 : Int32) (v4_h20 : Int32) (v5_h20 : Int32) (ls : Array Slot) (hl : lv_has ls 6 [(0, .ref a0), (1, .int v1_h20), (2, .int v2_h20), (3, .int v3_h20), (4, .int v4_h20), (5, .int v5_h20)]) (hf : f_X12_forks_L82 n (f_X12_forks_L41 n k41) k82 σh20 v1_h20 v2_h20 v3_h20 v4_h20 v5_h20 = some res), W p l e (hp_rm 1 0 0) s m ([.ref a0, .int a1, .int a2] : List Value).toArray below meth c Hh20 Lh20 0 0 (MQ below (hp_Qi Γ (fun r β => r = res.1 ∧ mo α β ∧ hm_M β a0 ρ res.2)) ([.ref a0, .int a1, .int a2] : List Value).toArray s 0 0 (hp_A Γ)) (F0 m 82 ls []) := by
              intro k82
              induction k82 with
              | zero => intro αh20 Hh20 Lh20 Bh20 σh20 Mh20 v1_h20 v2_h20 v3_h20 v4_h20 v5_h20 ls hl hf; rw [f_X12_forks_L82.eq_1] at hf; cases hf
              | succ k82 ih82 =>
                intro αh20 Hh20 Lh20 Bh20 σh20 Mh20 v1_h20 v2_h20 v3_h20 v4_h20 v5_h20 ls hl hf
                rw [f_X12_forks_L82.eq_2] at hf
                refine lv_iload hx hb dX12_forks_82 (lv_at hl 5 rfl) (hp_n (n := 84) rfl ?_)
                refine lv_bipush (v := 8) hx hb dX12_forks_84 (by decide) (hp_n (n := 86) rfl ?_)
                refine lv_icmp_ge (tgt := 139) hx hb dX12_forks_86 (by decide) (fun c21 => ?_) (fun c21 => hp_n (n := 89) rfl ?_)
                ·
                  replace hf := ms_iT c21 hf
                  obtain ⟨x22, ex22⟩ : ∃ y : Int32, y = v4_h20 + 1 := ⟨_, rfl⟩
                  replace hf := ms_lE ex22 hf
                  refine lv_iinc (v := x22) (lv' := [(4, .int x22), (0, .ref a0), (1, .int v1_h20), (2, .int v2_h20), (3, .int v3_h20), (5, .int v5_h20)]) hx hb dX12_forks_139 hl (k := 4) rfl (by rw [ex22]; rfl) (by decide) rfl (fun ls hl => hp_n (n := 142) rfl ?_)
                  refine lv_goto (tgt := 41) hx hb dX12_forks_142 (by decide) ?_
                  exact ih41 αh20 Hh20 Lh20 Bh20 σh20 Mh20 v1_h20 v2_h20 v3_h20 x22 ls (lv_sub hl [1, 2, 3, 4, 0] rfl) hf
                ·
                  replace hf := ms_iF c21 hf
                  refine lv_aload_n hx hb dX12_forks_89 rfl (lv_at hl 0 rfl) (hp_n (n := 90) rfl ?_)
                  refine m_getr (κ := 40) (k := 0) (pc' := 93) C Bh20 Mh20 fl_X12_7 rfl (by decide) dX12_forks_90 rfl ?_
                  refine lv_sipush (v := 444) hx hb dX12_forks_93 (by decide) (hp_n (n := 96) rfl ?_)
                  refine lv_bipush (v := 8) hx hb dX12_forks_96 (by decide) (hp_n (n := 98) rfl ?_)
                  refine lv_bipush (v := 48) hx hb dX12_forks_98 (by decide) (hp_n (n := 100) rfl ?_)
                  refine lv_iload_n hx hb dX12_forks_100 rfl (lv_at hl 3 rfl) (hp_n (n := 101) rfl ?_)
                  refine lv_imul hx hb dX12_forks_101 (hp_n (n := 102) rfl ?_)
                  refine lv_iload hx hb dX12_forks_102 (lv_at hl 4 rfl) (hp_n (n := 104) rfl ?_)
                  refine lv_iadd hx hb dX12_forks_104 (hp_n (n := 105) rfl ?_)
                  refine lv_imul hx hb dX12_forks_105 (hp_n (n := 106) rfl ?_)
                  refine lv_iadd hx hb dX12_forks_106 (hp_n (n := 107) rfl ?_)
                  refine lv_iload hx hb dX12_forks_107 (lv_at hl 5 rfl) (hp_n (n := 109) rfl ?_)
                  refine lv_iadd hx hb dX12_forks_109 (hp_n (n := 110) rfl ?_)
                  refine lv_aload_n hx hb dX12_forks_110 rfl (lv_at hl 0 rfl) (hp_n (n := 111) rfl ?_)
                  refine m_getr (κ := 40) (k := 0) (pc' := 114) C Bh20 Mh20 fl_X12_7 rfl (by decide) dX12_forks_111 rfl ?_
                  refine lv_sipush (v := 444) hx hb dX12_forks_114 (by decide) (hp_n (n := 117) rfl ?_)
                  refine lv_bipush (v := 8) hx hb dX12_forks_117 (by decide) (hp_n (n := 119) rfl ?_)
                  refine lv_bipush (v := 48) hx hb dX12_forks_119 (by decide) (hp_n (n := 121) rfl ?_)
                  refine lv_iload_n hx hb dX12_forks_121 rfl (lv_at hl 1 rfl) (hp_n (n := 122) rfl ?_)
                  refine lv_imul hx hb dX12_forks_122 (hp_n (n := 123) rfl ?_)
                  refine lv_iload hx hb dX12_forks_123 (lv_at hl 4 rfl) (hp_n (n := 125) rfl ?_)
                  refine lv_iadd hx hb dX12_forks_125 (hp_n (n := 126) rfl ?_)
                  refine lv_imul hx hb dX12_forks_126 (hp_n (n := 127) rfl ?_)
                  refine lv_iadd hx hb dX12_forks_127 (hp_n (n := 128) rfl ?_)
                  refine lv_iload hx hb dX12_forks_128 (lv_at hl 5 rfl) (hp_n (n := 130) rfl ?_)
                  refine lv_iadd hx hb dX12_forks_130 (hp_n (n := 131) rfl ?_)
                  obtain ⟨g23, hf⟩ := ms_gE hf
                  refine m_ial (κ := 40) (φ := 650) (n := 1980) (pc' := 132) C Bh20 Mh20 (by decide) (by decide) rfl g23 dX12_forks_131 rfl ?_
                  obtain ⟨g24, hf⟩ := ms_gE hf
                  refine m_ias (κ := 40) (φ := 650) (n := 1980) (pc' := 133) C Bh20 Mh20 (by decide) (by decide) rfl g24 dX12_forks_132 rfl (fun αh25 Hh25 Lh25 σh25 eh25 Bh25 Mh25 => ?_)
                  replace hf := ms_lE eh25 hf
                  obtain ⟨x26, ex26⟩ : ∃ y : Int32, y = v5_h20 + 1 := ⟨_, rfl⟩
                  replace hf := ms_lE ex26 hf
                  refine lv_iinc (v := x26) (lv' := [(5, .int x26), (0, .ref a0), (1, .int v1_h20), (2, .int v2_h20), (3, .int v3_h20), (4, .int v4_h20)]) hx hb dX12_forks_133 hl (k := 5) rfl (by rw [ex26]; rfl) (by decide) rfl (fun ls hl => hp_n (n := 136) rfl ?_)
                  refine lv_goto (tgt := 82) hx hb dX12_forks_136 (by decide) ?_
                  exact ih82 αh25 Hh25 Lh25 Bh25 σh25 Mh25 v1_h20 v2_h20 v3_h20 v4_h20 x26 ls (lv_sub hl [1, 2, 3, 4, 5, 0] rfl) hf
            refine lv_istore (lv' := [(5, .int (0 : Int32)), (0, .ref a0), (1, .int v1_h7), (2, .int v2_h7), (3, .int v3_h7), (4, .int v4_h7)]) hx hb dX12_forks_80 hl (by decide) rfl (fun ls hl => hp_n (n := 82) rfl ?_)
            exact J82 n αh19 Hh19 Lh19 Bh19 σh19 Mh19 v1_h7 v2_h7 v3_h7 v4_h7 (0 : Int32) ls (lv_sub hl [1, 2, 3, 4, 5, 0] rfl) hf
      refine lv_istore (lv' := [(4, .int (0 : Int32)), (3, .int x6), (0, .ref a0), (1, .int a1), (2, .int a2)]) hx hb dX12_forks_39 hl (by decide) rfl (fun ls hl => hp_n (n := 41) rfl ?_)
      exact J41 n α Hh1 Lh1 Bh1 σ hM a1 a2 x6 (0 : Int32) ls (lv_sub hl [2, 3, 4, 1, 0] rfl) hf
    ·
      replace hf := ms_iT c4 hf
      refine lv_aload_n hx hb dX12_forks_25 rfl (lv_at hl 0 rfl) (hp_n (n := 26) rfl ?_)
      refine lv_iconst (v := 3) hx hb dX12_forks_26 (by decide) (hp_n (n := 27) rfl ?_)
      obtain ⟨rh27, σh27, qh27, hf⟩ := ms_cE hf
      refine m_ci (pc' := 30) (a := a0) (ρ := ρ) Bh1 (hp_runV (As := [.int (3 : Int32)]) (rest := []) C Bh1 (m_X12_refuse n Γ l α a0 ρ σ hM (3 : Int32) (rh27, σh27) qh27) lb_X12_refuse lv_X12_refuse lk_X12_212 hM.1 rfl (by decide) rfl hl.1 rfl (Nat.le_of_ble_eq_true rfl) dX12_forks_27 ⟨Nat.le_refl _, Nat.le_refl _⟩) rfl (fun αh27 Hh27 Lh27 Bh27 Mh27 => ?_)
      cases hf
      exact q_iret C Bh27 hr hlk ⟨rfl, Bh27.2.2, Mh27⟩ dX12_forks_30
  ·
    replace hf := ms_iF c2 hf
    refine lv_aload_n hx hb dX12_forks_9 rfl (lv_at hl 0 rfl) (hp_n (n := 10) rfl ?_)
    refine lv_iconst (v := 5) hx hb dX12_forks_10 (by decide) (hp_n (n := 11) rfl ?_)
    obtain ⟨rh28, σh28, qh28, hf⟩ := ms_cE hf
    refine m_ci (pc' := 14) (a := a0) (ρ := ρ) Bh1 (hp_runV (As := [.int (5 : Int32)]) (rest := []) C Bh1 (m_X12_refuse n Γ l α a0 ρ σ hM (5 : Int32) (rh28, σh28) qh28) lb_X12_refuse lv_X12_refuse lk_X12_212 hM.1 rfl (by decide) rfl hl.1 rfl (Nat.le_of_ble_eq_true rfl) dX12_forks_11 ⟨Nat.le_refl _, Nat.le_refl _⟩) rfl (fun αh28 Hh28 Lh28 Bh28 Mh28 => ?_)
    cases hf
    exact q_iret C Bh28 hr hlk ⟨rfl, Bh28.2.2, Mh28⟩ dX12_forks_14
def f_X12_freezes_L98 (n : Nat) : Nat → ms_T → Int32 → Int32 → Option (Int32 × ms_T)
  | 0, _, _, _ => none
  | k98 + 1, σh20, v2_h20, v3_h20 =>
    if (ms_I σh20 657) ≤ v3_h20 then
      ms_g (3 : Int32) 1980 <|
      ms_g (3 : Int32) 1980 <|
      ms_l (ms_sE σh20 40 ((3 : Int32)).toNatClampNeg ((ms_E σh20 40 ((3 : Int32)).toNatClampNeg) + (1 : Int32))) fun σh24 =>
      ms_g (4 : Int32) 1980 <|
      ms_g (4 : Int32) 1980 <|
      ms_l (ms_sE σh24 40 ((4 : Int32)).toNatClampNeg ((ms_E σh24 40 ((4 : Int32)).toNatClampNeg) + (1 : Int32))) fun σh27 =>
      ms_g (3 : Int32) 1980 <|
      some (((ms_E σh27 40 ((3 : Int32)).toNatClampNeg) - (1 : Int32)), σh27)
    else
      ms_g v3_h20 128 <|
      ms_g ((v2_h20 + (4 : Int32)) + v3_h20) 1980 <|
      ms_l (ms_sE σh20 40 (((v2_h20 + (4 : Int32)) + v3_h20)).toNatClampNeg (ms_E σh20 44 (v3_h20).toNatClampNeg)) fun σh31 =>
      ms_l (v3_h20 + 1) fun x32 =>
      (f_X12_freezes_L98 n k98) σh31 v2_h20 x32
def f_X12_freezes (n : Nat) (σ : ms_T) (a1 : Int32) : Option (Int32 × ms_T) :=
  ms_g (3 : Int32) 1980 <|
  if (ms_E σ 40 ((3 : Int32)).toNatClampNeg) = (16 : Int32) then
    ms_c (f_X12_refuse n σ (3 : Int32)) fun rh33 σh33 =>
    some (rh33, σh33)
  else
    ms_g (3 : Int32) 1980 <|
    ms_l (((92 : Int32) + ((10 : Int32) * (ms_E σ 40 ((3 : Int32)).toNatClampNeg)))) fun x4 =>
    ms_g x4 1980 <|
    ms_l (ms_sE σ 40 (x4).toNatClampNeg a1) fun σh6 =>
    ms_b (f_X12_sizeOf n σh6 a1) fun rh7 =>
    ms_g (x4 + (1 : Int32)) 1980 <|
    ms_l (ms_sE σh6 40 ((x4 + (1 : Int32))).toNatClampNeg rh7) fun σh9 =>
    ms_b (f_X12_sizeOf n σh9 a1) fun rh10 =>
    ms_b (f_X12_headOf n σh9 a1 rh10) fun rh11 =>
    ms_g (x4 + (2 : Int32)) 1980 <|
    ms_l (ms_sE σh9 40 ((x4 + (2 : Int32))).toNatClampNeg rh11) fun σh13 =>
    ms_g (4 : Int32) 1980 <|
    ms_g (x4 + (3 : Int32)) 1980 <|
    ms_l (ms_sE σh13 40 ((x4 + (3 : Int32))).toNatClampNeg (ms_E σh13 40 ((4 : Int32)).toNatClampNeg)) fun σh16 =>
    ms_b (f_X12_sizeOf n σh16 a1) fun rh17 =>
    ms_b (f_X12_peaksOf n σh16 rh17) fun σh18 =>
    ms_b (f_X12_fetches n σh18 a1) fun σh19 =>
    f_X12_freezes_L98 n n σh19 x4 (0 : Int32)
set_option maxRecDepth 100000 in
set_option maxHeartbeats 4000000 in
theorem m_X12_freezes (n : Nat) (Γ : hp_G) (l : Launch) (α : hp_T) (a0 : Nat) (ρ : Nat → Nat) (σ : ms_T) (hM : hm_M α a0 ρ σ) (a1 : Int32) (res : (Int32 × ms_T)) (hf : f_X12_freezes n σ a1 = some res) : Met l yX12_freezes (hp_ws yX12_freezes cX12_freezes 4 (some .int)) (hp_rm 43 0 0) (hp_Pc Γ α [.ref a0, .int a1]) (hp_Qi Γ (fun r β => r = res.1 ∧ mo α β ∧ hm_M β a0 ρ res.2)) 0 0 (hp_A Γ) := by
  unfold f_X12_freezes at hf
  refine hp_start (by decide) ?_
  intro p e s m below meth c C hr hlk B0 hnm
  have C : hp_C Γ p m c cX12_freezes 4 s ([.ref a0, .int a1] : List Value).toArray RX12 := C
  have hx := C.1.1
  have hb := C.1.2.1
  have hown := C.1.2.2.2.1
  have hts := C.1.2.2.2.2
  have B : hp_B Γ mo s α α s.heap [] := ⟨B0.1, B0.2.1, mo_rf⟩
  have hl := lv_entry ([.ref a0, .int a1]) (n := 4) (Nat.le_of_ble_eq_true rfl)
  show W p l e (hp_rm 43 0 0) s m ([.ref a0, .int a1] : List Value).toArray below meth c s.heap [] 0 0 (MQ below (hp_Qi Γ (fun r β => r = res.1 ∧ mo α β ∧ hm_M β a0 ρ res.2)) ([.ref a0, .int a1] : List Value).toArray s 0 0 (hp_A Γ)) (entryFrame m ([.ref a0, .int a1] : List Value).toArray 4)
  rw [lg_entry_eq]
  generalize (lg_sl ([.ref a0, .int a1]) ++ List.replicate (4 - (lg_sl ([.ref a0, .int a1])).length) Slot.unset).toArray = ls at hl ⊢
  have hl : lv_has ls 4 [(0, .ref a0), (1, .int a1)] := hl
  refine lv_aload_n hx hb dX12_freezes_0 rfl (lv_at hl 0 rfl) (hp_n (n := 1) rfl ?_)
  refine m_getr (κ := 40) (k := 0) (pc' := 4) C B hM fl_X12_7 rfl (by decide) dX12_freezes_1 rfl ?_
  refine lv_iconst (v := 3) hx hb dX12_freezes_4 (by decide) (hp_n (n := 5) rfl ?_)
  obtain ⟨g1, hf⟩ := ms_gE hf
  refine m_ial (κ := 40) (φ := 650) (n := 1980) (pc' := 6) C B hM (by decide) (by decide) rfl g1 dX12_freezes_5 rfl ?_
  refine lv_bipush (v := 16) hx hb dX12_freezes_6 (by decide) (hp_n (n := 8) rfl ?_)
  refine lv_icmp_ne (tgt := 17) hx hb dX12_freezes_8 (by decide) (fun c2 => ?_) (fun c2 => hp_n (n := 11) rfl ?_)
  ·
    replace hf := ms_iF c2 hf
    refine lv_bipush (v := 92) hx hb dX12_freezes_17 (by decide) (hp_n (n := 19) rfl ?_)
    refine lv_bipush (v := 10) hx hb dX12_freezes_19 (by decide) (hp_n (n := 21) rfl ?_)
    refine lv_aload_n hx hb dX12_freezes_21 rfl (lv_at hl 0 rfl) (hp_n (n := 22) rfl ?_)
    refine m_getr (κ := 40) (k := 0) (pc' := 25) C B hM fl_X12_7 rfl (by decide) dX12_freezes_22 rfl ?_
    refine lv_iconst (v := 3) hx hb dX12_freezes_25 (by decide) (hp_n (n := 26) rfl ?_)
    obtain ⟨g3, hf⟩ := ms_gE hf
    refine m_ial (κ := 40) (φ := 650) (n := 1980) (pc' := 27) C B hM (by decide) (by decide) rfl g3 dX12_freezes_26 rfl ?_
    refine lv_imul hx hb dX12_freezes_27 (hp_n (n := 28) rfl ?_)
    refine lv_iadd hx hb dX12_freezes_28 (hp_n (n := 29) rfl ?_)
    refine lv_topi (fun x4 ex4 => ?_)
    replace hf := ms_lE ex4 hf
    refine lv_istore_n (lv' := [(2, .int x4), (0, .ref a0), (1, .int a1)]) hx hb dX12_freezes_29 rfl hl (by decide) rfl (fun ls hl => hp_n (n := 30) rfl ?_)
    refine lv_aload_n hx hb dX12_freezes_30 rfl (lv_at hl 1 rfl) (hp_n (n := 31) rfl ?_)
    refine m_getr (κ := 40) (k := 0) (pc' := 34) C B hM fl_X12_7 rfl (by decide) dX12_freezes_31 rfl ?_
    refine lv_iload_n hx hb dX12_freezes_34 rfl (lv_at hl 0 rfl) (hp_n (n := 35) rfl ?_)
    refine lv_iload_n hx hb dX12_freezes_35 rfl (lv_at hl 2 rfl) (hp_n (n := 36) rfl ?_)
    obtain ⟨g5, hf⟩ := ms_gE hf
    refine m_ias (κ := 40) (φ := 650) (n := 1980) (pc' := 37) C B hM (by decide) (by decide) rfl g5 dX12_freezes_36 rfl (fun αh6 Hh6 Lh6 σh6 eh6 Bh6 Mh6 => ?_)
    replace hf := ms_lE eh6 hf
    refine lv_aload_n hx hb dX12_freezes_37 rfl (lv_at hl 1 rfl) (hp_n (n := 38) rfl ?_)
    refine m_getr (κ := 40) (k := 0) (pc' := 41) C Bh6 Mh6 fl_X12_7 rfl (by decide) dX12_freezes_38 rfl ?_
    refine lv_iload_n hx hb dX12_freezes_41 rfl (lv_at hl 0 rfl) (hp_n (n := 42) rfl ?_)
    refine lv_iconst (v := 1) hx hb dX12_freezes_42 (by decide) (hp_n (n := 43) rfl ?_)
    refine lv_iadd hx hb dX12_freezes_43 (hp_n (n := 44) rfl ?_)
    refine lv_aload_n hx hb dX12_freezes_44 rfl (lv_at hl 1 rfl) (hp_n (n := 45) rfl ?_)
    refine lv_iload_n hx hb dX12_freezes_45 rfl (lv_at hl 2 rfl) (hp_n (n := 46) rfl ?_)
    obtain ⟨rh7, qh7, hf⟩ := ms_bE hf
    refine m_cp (pc' := 49) Bh6 (hp_runV (As := [.int a1]) (rest := [.int (x4 + (1 : Int32)), .ref (ρ 40)]) C Bh6 (m_X12_sizeOf n Γ l αh6 a0 ρ σh6 Mh6 a1 rh7 qh7) lb_X12_sizeOf lv_X12_sizeOf lk_X12_209 Mh6.1 rfl (by decide) rfl hl.1 rfl (Nat.le_of_ble_eq_true rfl) dX12_freezes_46 ⟨Nat.le_refl _, Nat.le_refl _⟩) rfl (fun Hh7 Lh7 Bh7 => ?_)
    obtain ⟨g8, hf⟩ := ms_gE hf
    refine m_ias (κ := 40) (φ := 650) (n := 1980) (pc' := 50) C Bh7 Mh6 (by decide) (by decide) rfl g8 dX12_freezes_49 rfl (fun αh9 Hh9 Lh9 σh9 eh9 Bh9 Mh9 => ?_)
    replace hf := ms_lE eh9 hf
    refine lv_aload_n hx hb dX12_freezes_50 rfl (lv_at hl 1 rfl) (hp_n (n := 51) rfl ?_)
    refine m_getr (κ := 40) (k := 0) (pc' := 54) C Bh9 Mh9 fl_X12_7 rfl (by decide) dX12_freezes_51 rfl ?_
    refine lv_iload_n hx hb dX12_freezes_54 rfl (lv_at hl 0 rfl) (hp_n (n := 55) rfl ?_)
    refine lv_iconst (v := 2) hx hb dX12_freezes_55 (by decide) (hp_n (n := 56) rfl ?_)
    refine lv_iadd hx hb dX12_freezes_56 (hp_n (n := 57) rfl ?_)
    refine lv_aload_n hx hb dX12_freezes_57 rfl (lv_at hl 1 rfl) (hp_n (n := 58) rfl ?_)
    refine lv_iload_n hx hb dX12_freezes_58 rfl (lv_at hl 2 rfl) (hp_n (n := 59) rfl ?_)
    refine lv_aload_n hx hb dX12_freezes_59 rfl (lv_at hl 1 rfl) (hp_n (n := 60) rfl ?_)
    refine lv_iload_n hx hb dX12_freezes_60 rfl (lv_at hl 2 rfl) (hp_n (n := 61) rfl ?_)
    obtain ⟨rh10, qh10, hf⟩ := ms_bE hf
    refine m_cp (pc' := 64) Bh9 (hp_runV (As := [.int a1]) (rest := [.int a1, .ref a0, .int (x4 + (2 : Int32)), .ref (ρ 40)]) C Bh9 (m_X12_sizeOf n Γ l αh9 a0 ρ σh9 Mh9 a1 rh10 qh10) lb_X12_sizeOf lv_X12_sizeOf lk_X12_209 Mh9.1 rfl (by decide) rfl hl.1 rfl (Nat.le_of_ble_eq_true rfl) dX12_freezes_61 ⟨Nat.le_refl _, Nat.le_refl _⟩) rfl (fun Hh10 Lh10 Bh10 => ?_)
    obtain ⟨rh11, qh11, hf⟩ := ms_bE hf
    refine m_cp (pc' := 67) Bh10 (hp_runV (As := [.int a1, .int rh10]) (rest := [.int (x4 + (2 : Int32)), .ref (ρ 40)]) C Bh10 (m_X12_headOf n Γ l αh9 a0 ρ σh9 Mh9 a1 rh10 rh11 qh11) lb_X12_headOf lv_X12_headOf lk_X12_215 Mh9.1 rfl (by decide) rfl hl.1 rfl (Nat.le_of_ble_eq_true rfl) dX12_freezes_64 ⟨Nat.le_refl _, Nat.le_refl _⟩) rfl (fun Hh11 Lh11 Bh11 => ?_)
    obtain ⟨g12, hf⟩ := ms_gE hf
    refine m_ias (κ := 40) (φ := 650) (n := 1980) (pc' := 68) C Bh11 Mh9 (by decide) (by decide) rfl g12 dX12_freezes_67 rfl (fun αh13 Hh13 Lh13 σh13 eh13 Bh13 Mh13 => ?_)
    replace hf := ms_lE eh13 hf
    refine lv_aload_n hx hb dX12_freezes_68 rfl (lv_at hl 1 rfl) (hp_n (n := 69) rfl ?_)
    refine m_getr (κ := 40) (k := 0) (pc' := 72) C Bh13 Mh13 fl_X12_7 rfl (by decide) dX12_freezes_69 rfl ?_
    refine lv_iload_n hx hb dX12_freezes_72 rfl (lv_at hl 0 rfl) (hp_n (n := 73) rfl ?_)
    refine lv_iconst (v := 3) hx hb dX12_freezes_73 (by decide) (hp_n (n := 74) rfl ?_)
    refine lv_iadd hx hb dX12_freezes_74 (hp_n (n := 75) rfl ?_)
    refine lv_aload_n hx hb dX12_freezes_75 rfl (lv_at hl 1 rfl) (hp_n (n := 76) rfl ?_)
    refine m_getr (κ := 40) (k := 0) (pc' := 79) C Bh13 Mh13 fl_X12_7 rfl (by decide) dX12_freezes_76 rfl ?_
    refine lv_iconst (v := 4) hx hb dX12_freezes_79 (by decide) (hp_n (n := 80) rfl ?_)
    obtain ⟨g14, hf⟩ := ms_gE hf
    refine m_ial (κ := 40) (φ := 650) (n := 1980) (pc' := 81) C Bh13 Mh13 (by decide) (by decide) rfl g14 dX12_freezes_80 rfl ?_
    obtain ⟨g15, hf⟩ := ms_gE hf
    refine m_ias (κ := 40) (φ := 650) (n := 1980) (pc' := 82) C Bh13 Mh13 (by decide) (by decide) rfl g15 dX12_freezes_81 rfl (fun αh16 Hh16 Lh16 σh16 eh16 Bh16 Mh16 => ?_)
    replace hf := ms_lE eh16 hf
    refine lv_aload_n hx hb dX12_freezes_82 rfl (lv_at hl 1 rfl) (hp_n (n := 83) rfl ?_)
    refine lv_aload_n hx hb dX12_freezes_83 rfl (lv_at hl 1 rfl) (hp_n (n := 84) rfl ?_)
    refine lv_iload_n hx hb dX12_freezes_84 rfl (lv_at hl 2 rfl) (hp_n (n := 85) rfl ?_)
    obtain ⟨rh17, qh17, hf⟩ := ms_bE hf
    refine m_cp (pc' := 88) Bh16 (hp_runV (As := [.int a1]) (rest := [.ref a0]) C Bh16 (m_X12_sizeOf n Γ l αh16 a0 ρ σh16 Mh16 a1 rh17 qh17) lb_X12_sizeOf lv_X12_sizeOf lk_X12_209 Mh16.1 rfl (by decide) rfl hl.1 rfl (Nat.le_of_ble_eq_true rfl) dX12_freezes_85 ⟨Nat.le_refl _, Nat.le_refl _⟩) rfl (fun Hh17 Lh17 Bh17 => ?_)
    obtain ⟨σh18, qh18, hf⟩ := ms_bE hf
    refine m_cv (pc' := 91) (a := a0) (ρ := ρ) Bh17 (hp_runV (As := [.int rh17]) (rest := []) C Bh17 (m_X12_peaksOf n Γ l αh16 a0 ρ σh16 Mh16 rh17 σh18 qh18) lb_X12_peaksOf lv_X12_peaksOf lk_X12_218 Mh16.1 rfl (by decide) rfl hl.1 rfl (Nat.le_of_ble_eq_true rfl) dX12_freezes_88 ⟨Nat.le_refl _, Nat.le_refl _⟩) rfl (fun αh18 Hh18 Lh18 Bh18 Mh18 => ?_)
    refine lv_aload_n hx hb dX12_freezes_91 rfl (lv_at hl 1 rfl) (hp_n (n := 92) rfl ?_)
    refine lv_iload_n hx hb dX12_freezes_92 rfl (lv_at hl 2 rfl) (hp_n (n := 93) rfl ?_)
    obtain ⟨σh19, qh19, hf⟩ := ms_bE hf
    refine m_cv (pc' := 96) (a := a0) (ρ := ρ) Bh18 (hp_runV (As := [.int a1]) (rest := []) C Bh18 (m_X12_fetches n Γ l αh18 a0 ρ σh18 Mh18 a1 σh19 qh19) lb_X12_fetches lv_X12_fetches lk_X12_161 Mh18.1 rfl (by decide) rfl hl.1 rfl (Nat.le_of_ble_eq_true rfl) dX12_freezes_93 ⟨Nat.le_refl _, Nat.le_refl _⟩) rfl (fun αh19 Hh19 Lh19 Bh19 Mh19 => ?_)
    refine lv_iconst (v := 0) hx hb dX12_freezes_96 (by decide) (hp_n (n := 97) rfl ?_)
    have J98 : ∀ (k98 : Nat) (αh20 : hp_T) (Hh20 : Heap) (Lh20 : List Loc) (Bh20 : hp_B Γ mo s α αh20 Hh20 Lh20) (σh20 : ms_T) (Mh20 : hm_M αh20 a0 ρ σh20) (v2_h20 : Int32) (v3_h20 : Int32) (ls : Array Slot) (hl : lv_has ls 4 [(0, .ref a0), (2, .int v2_h20), (3, .int v3_h20)]) (hf : f_X12_freezes_L98 n k98 σh20 v2_h20 v3_h20 = some res), W p l e (hp_rm 43 0 0) s m ([.ref a0, .int a1] : List Value).toArray below meth c Hh20 Lh20 0 0 (MQ below (hp_Qi Γ (fun r β => r = res.1 ∧ mo α β ∧ hm_M β a0 ρ res.2)) ([.ref a0, .int a1] : List Value).toArray s 0 0 (hp_A Γ)) (F0 m 98 ls []) := by
      intro k98
      induction k98 with
      | zero => intro αh20 Hh20 Lh20 Bh20 σh20 Mh20 v2_h20 v3_h20 ls hl hf; rw [f_X12_freezes_L98.eq_1] at hf; cases hf
      | succ k98 ih98 =>
        intro αh20 Hh20 Lh20 Bh20 σh20 Mh20 v2_h20 v3_h20 ls hl hf
        rw [f_X12_freezes_L98.eq_2] at hf
        refine lv_iload_n hx hb dX12_freezes_98 rfl (lv_at hl 2 rfl) (hp_n (n := 99) rfl ?_)
        refine lv_aload_n hx hb dX12_freezes_99 rfl (lv_at hl 0 rfl) (hp_n (n := 100) rfl ?_)
        refine m_geti (k := 7) (φ := 657) (pc' := 103) C Bh20 Mh20 fl_X12_139 rfl rfl dX12_freezes_100 rfl ?_
        refine lv_icmp_ge (tgt := 128) hx hb dX12_freezes_103 (by decide) (fun c21 => ?_) (fun c21 => hp_n (n := 106) rfl ?_)
        ·
          replace hf := ms_iT c21 hf
          refine lv_aload_n hx hb dX12_freezes_128 rfl (lv_at hl 0 rfl) (hp_n (n := 129) rfl ?_)
          refine m_getr (κ := 40) (k := 0) (pc' := 132) C Bh20 Mh20 fl_X12_7 rfl (by decide) dX12_freezes_129 rfl ?_
          refine lv_iconst (v := 3) hx hb dX12_freezes_132 (by decide) (hp_n (n := 133) rfl ?_)
          refine lv_dup2_11 hx hb dX12_freezes_133 rfl rfl (hp_n (n := 134) rfl ?_)
          obtain ⟨g22, hf⟩ := ms_gE hf
          refine m_ial (κ := 40) (φ := 650) (n := 1980) (pc' := 135) C Bh20 Mh20 (by decide) (by decide) rfl g22 dX12_freezes_134 rfl ?_
          refine lv_iconst (v := 1) hx hb dX12_freezes_135 (by decide) (hp_n (n := 136) rfl ?_)
          refine lv_iadd hx hb dX12_freezes_136 (hp_n (n := 137) rfl ?_)
          obtain ⟨g23, hf⟩ := ms_gE hf
          refine m_ias (κ := 40) (φ := 650) (n := 1980) (pc' := 138) C Bh20 Mh20 (by decide) (by decide) rfl g23 dX12_freezes_137 rfl (fun αh24 Hh24 Lh24 σh24 eh24 Bh24 Mh24 => ?_)
          replace hf := ms_lE eh24 hf
          refine lv_aload_n hx hb dX12_freezes_138 rfl (lv_at hl 0 rfl) (hp_n (n := 139) rfl ?_)
          refine m_getr (κ := 40) (k := 0) (pc' := 142) C Bh24 Mh24 fl_X12_7 rfl (by decide) dX12_freezes_139 rfl ?_
          refine lv_iconst (v := 4) hx hb dX12_freezes_142 (by decide) (hp_n (n := 143) rfl ?_)
          refine lv_dup2_11 hx hb dX12_freezes_143 rfl rfl (hp_n (n := 144) rfl ?_)
          obtain ⟨g25, hf⟩ := ms_gE hf
          refine m_ial (κ := 40) (φ := 650) (n := 1980) (pc' := 145) C Bh24 Mh24 (by decide) (by decide) rfl g25 dX12_freezes_144 rfl ?_
          refine lv_iconst (v := 1) hx hb dX12_freezes_145 (by decide) (hp_n (n := 146) rfl ?_)
          refine lv_iadd hx hb dX12_freezes_146 (hp_n (n := 147) rfl ?_)
          obtain ⟨g26, hf⟩ := ms_gE hf
          refine m_ias (κ := 40) (φ := 650) (n := 1980) (pc' := 148) C Bh24 Mh24 (by decide) (by decide) rfl g26 dX12_freezes_147 rfl (fun αh27 Hh27 Lh27 σh27 eh27 Bh27 Mh27 => ?_)
          replace hf := ms_lE eh27 hf
          refine lv_aload_n hx hb dX12_freezes_148 rfl (lv_at hl 0 rfl) (hp_n (n := 149) rfl ?_)
          refine m_getr (κ := 40) (k := 0) (pc' := 152) C Bh27 Mh27 fl_X12_7 rfl (by decide) dX12_freezes_149 rfl ?_
          refine lv_iconst (v := 3) hx hb dX12_freezes_152 (by decide) (hp_n (n := 153) rfl ?_)
          obtain ⟨g28, hf⟩ := ms_gE hf
          refine m_ial (κ := 40) (φ := 650) (n := 1980) (pc' := 154) C Bh27 Mh27 (by decide) (by decide) rfl g28 dX12_freezes_153 rfl ?_
          refine lv_iconst (v := 1) hx hb dX12_freezes_154 (by decide) (hp_n (n := 155) rfl ?_)
          refine lv_isub hx hb dX12_freezes_155 (hp_n (n := 156) rfl ?_)
          cases hf
          exact q_iret C Bh27 hr hlk ⟨rfl, Bh27.2.2, Mh27⟩ dX12_freezes_156
        ·
          replace hf := ms_iF c21 hf
          refine lv_aload_n hx hb dX12_freezes_106 rfl (lv_at hl 0 rfl) (hp_n (n := 107) rfl ?_)
          refine m_getr (κ := 40) (k := 0) (pc' := 110) C Bh20 Mh20 fl_X12_7 rfl (by decide) dX12_freezes_107 rfl ?_
          refine lv_iload_n hx hb dX12_freezes_110 rfl (lv_at hl 1 rfl) (hp_n (n := 111) rfl ?_)
          refine lv_iconst (v := 4) hx hb dX12_freezes_111 (by decide) (hp_n (n := 112) rfl ?_)
          refine lv_iadd hx hb dX12_freezes_112 (hp_n (n := 113) rfl ?_)
          refine lv_iload_n hx hb dX12_freezes_113 rfl (lv_at hl 2 rfl) (hp_n (n := 114) rfl ?_)
          refine lv_iadd hx hb dX12_freezes_114 (hp_n (n := 115) rfl ?_)
          refine lv_aload_n hx hb dX12_freezes_115 rfl (lv_at hl 0 rfl) (hp_n (n := 116) rfl ?_)
          refine m_getr (κ := 44) (k := 6) (pc' := 119) C Bh20 Mh20 fl_X12_22 rfl (by decide) dX12_freezes_116 rfl ?_
          refine lv_iload_n hx hb dX12_freezes_119 rfl (lv_at hl 2 rfl) (hp_n (n := 120) rfl ?_)
          obtain ⟨g29, hf⟩ := ms_gE hf
          refine m_ial (κ := 44) (φ := 656) (n := 128) (pc' := 121) C Bh20 Mh20 (by decide) (by decide) rfl g29 dX12_freezes_120 rfl ?_
          obtain ⟨g30, hf⟩ := ms_gE hf
          refine m_ias (κ := 40) (φ := 650) (n := 1980) (pc' := 122) C Bh20 Mh20 (by decide) (by decide) rfl g30 dX12_freezes_121 rfl (fun αh31 Hh31 Lh31 σh31 eh31 Bh31 Mh31 => ?_)
          replace hf := ms_lE eh31 hf
          obtain ⟨x32, ex32⟩ : ∃ y : Int32, y = v3_h20 + 1 := ⟨_, rfl⟩
          replace hf := ms_lE ex32 hf
          refine lv_iinc (v := x32) (lv' := [(3, .int x32), (0, .ref a0), (2, .int v2_h20)]) hx hb dX12_freezes_122 hl (k := 2) rfl (by rw [ex32]; rfl) (by decide) rfl (fun ls hl => hp_n (n := 125) rfl ?_)
          refine lv_goto (tgt := 98) hx hb dX12_freezes_125 (by decide) ?_
          exact ih98 αh31 Hh31 Lh31 Bh31 σh31 Mh31 v2_h20 x32 ls (lv_sub hl [1, 2, 0] rfl) hf
    refine lv_istore_n (lv' := [(3, .int (0 : Int32)), (2, .int x4), (0, .ref a0), (1, .int a1)]) hx hb dX12_freezes_97 rfl hl (by decide) rfl (fun ls hl => hp_n (n := 98) rfl ?_)
    exact J98 n αh19 Hh19 Lh19 Bh19 σh19 Mh19 x4 (0 : Int32) ls (lv_sub hl [2, 1, 0] rfl) hf
  ·
    replace hf := ms_iT c2 hf
    refine lv_aload_n hx hb dX12_freezes_11 rfl (lv_at hl 0 rfl) (hp_n (n := 12) rfl ?_)
    refine lv_iconst (v := 3) hx hb dX12_freezes_12 (by decide) (hp_n (n := 13) rfl ?_)
    obtain ⟨rh33, σh33, qh33, hf⟩ := ms_cE hf
    refine m_ci (pc' := 16) (a := a0) (ρ := ρ) B (hp_runV (As := [.int (3 : Int32)]) (rest := []) C B (m_X12_refuse n Γ l α a0 ρ σ hM (3 : Int32) (rh33, σh33) qh33) lb_X12_refuse lv_X12_refuse lk_X12_212 hM.1 rfl (by decide) rfl hl.1 rfl (Nat.le_of_ble_eq_true rfl) dX12_freezes_13 ⟨Nat.le_refl _, Nat.le_refl _⟩) rfl (fun αh33 Hh33 Lh33 Bh33 Mh33 => ?_)
    cases hf
    exact q_iret C Bh33 hr hlk ⟨rfl, Bh33.2.2, Mh33⟩ dX12_freezes_16
def f_X12_trust (n : Nat) (σ : ms_T) (a1 : Int32) (a2 : Int32) : Option Int32 :=
  ms_g (((76 : Int32) + ((4 : Int32) * a1)) + a2) 1980 <|
  some (ms_E σ 40 ((((76 : Int32) + ((4 : Int32) * a1)) + a2)).toNatClampNeg)
set_option maxRecDepth 100000 in
set_option maxHeartbeats 4000000 in
theorem m_X12_trust (n : Nat) (Γ : hp_G) (l : Launch) (α : hp_T) (a0 : Nat) (ρ : Nat → Nat) (σ : ms_T) (hM : hm_M α a0 ρ σ) (a1 : Int32) (a2 : Int32) (res : Int32) (hf : f_X12_trust n σ a1 a2 = some res) : Met l yX12_trust (hp_ws yX12_trust cX12_trust 3 (some .int)) (hp_rm 0 0 0) (hp_Pc Γ α [.ref a0, .int a1, .int a2]) (hp_Qi Γ (fun r β => β = α ∧ r = res)) 0 0 (hp_A Γ) := by
  unfold f_X12_trust at hf
  refine hp_start (by decide) ?_
  intro p e s m below meth c C hr hlk B0 hnm
  have C : hp_C Γ p m c cX12_trust 3 s ([.ref a0, .int a1, .int a2] : List Value).toArray RX12 := C
  have hx := C.1.1
  have hb := C.1.2.1
  have hown := C.1.2.2.2.1
  have hts := C.1.2.2.2.2
  have B : hp_B Γ (fun _ _ => True) s α α s.heap [] := ⟨B0.1, B0.2.1, trivial⟩
  have hl := lv_entry ([.ref a0, .int a1, .int a2]) (n := 3) (Nat.le_of_ble_eq_true rfl)
  show W p l e (hp_rm 0 0 0) s m ([.ref a0, .int a1, .int a2] : List Value).toArray below meth c s.heap [] 0 0 (MQ below (hp_Qi Γ (fun r β => β = α ∧ r = res)) ([.ref a0, .int a1, .int a2] : List Value).toArray s 0 0 (hp_A Γ)) (entryFrame m ([.ref a0, .int a1, .int a2] : List Value).toArray 3)
  rw [lg_entry_eq]
  generalize (lg_sl ([.ref a0, .int a1, .int a2]) ++ List.replicate (3 - (lg_sl ([.ref a0, .int a1, .int a2])).length) Slot.unset).toArray = ls at hl ⊢
  have hl : lv_has ls 3 [(0, .ref a0), (1, .int a1), (2, .int a2)] := hl
  refine lv_aload_n hx hb dX12_trust_0 rfl (lv_at hl 0 rfl) (hp_n (n := 1) rfl ?_)
  refine m_getr (κ := 40) (k := 0) (pc' := 4) C B hM fl_X12_7 rfl (by decide) dX12_trust_1 rfl ?_
  refine lv_bipush (v := 76) hx hb dX12_trust_4 (by decide) (hp_n (n := 6) rfl ?_)
  refine lv_iconst (v := 4) hx hb dX12_trust_6 (by decide) (hp_n (n := 7) rfl ?_)
  refine lv_iload_n hx hb dX12_trust_7 rfl (lv_at hl 1 rfl) (hp_n (n := 8) rfl ?_)
  refine lv_imul hx hb dX12_trust_8 (hp_n (n := 9) rfl ?_)
  refine lv_iadd hx hb dX12_trust_9 (hp_n (n := 10) rfl ?_)
  refine lv_iload_n hx hb dX12_trust_10 rfl (lv_at hl 2 rfl) (hp_n (n := 11) rfl ?_)
  refine lv_iadd hx hb dX12_trust_11 (hp_n (n := 12) rfl ?_)
  obtain ⟨g1, hf⟩ := ms_gE hf
  refine m_ial (κ := 40) (φ := 650) (n := 1980) (pc' := 13) C B hM (by decide) (by decide) rfl g1 dX12_trust_12 rfl ?_
  cases hf
  exact q_iret C B hr hlk ⟨rfl, rfl⟩ dX12_trust_13
def f_X12_trusts (n : Nat) (σ : ms_T) (a1 : Int32) (a2 : Int32) (a3 : Int32) : Option ms_T :=
  ms_g ((76 : Int32) + ((4 : Int32) * a1)) 1980 <|
  ms_l (ms_sE σ 40 (((76 : Int32) + ((4 : Int32) * a1))).toNatClampNeg a2) fun σh2 =>
  ms_g (((76 : Int32) + ((4 : Int32) * a1)) + (1 : Int32)) 1980 <|
  ms_l (ms_sE σh2 40 ((((76 : Int32) + ((4 : Int32) * a1)) + (1 : Int32))).toNatClampNeg a3) fun σh4 =>
  some σh4
set_option maxRecDepth 100000 in
set_option maxHeartbeats 4000000 in
theorem m_X12_trusts (n : Nat) (Γ : hp_G) (l : Launch) (α : hp_T) (a0 : Nat) (ρ : Nat → Nat) (σ : ms_T) (hM : hm_M α a0 ρ σ) (a1 : Int32) (a2 : Int32) (a3 : Int32) (res : ms_T) (hf : f_X12_trusts n σ a1 a2 a3 = some res) : Met l yX12_trusts (hp_ws yX12_trusts cX12_trusts 4 none) (hp_rm 0 0 0) (hp_Pc Γ α [.ref a0, .int a1, .int a2, .int a3]) (hp_Qv Γ (fun β => mo α β ∧ hm_M β a0 ρ res)) 0 0 (hp_A Γ) := by
  unfold f_X12_trusts at hf
  refine hp_start (by decide) ?_
  intro p e s m below meth c C hr hlk B0 hnm
  have C : hp_C Γ p m c cX12_trusts 4 s ([.ref a0, .int a1, .int a2, .int a3] : List Value).toArray RX12 := C
  have hx := C.1.1
  have hb := C.1.2.1
  have hown := C.1.2.2.2.1
  have hts := C.1.2.2.2.2
  have B : hp_B Γ mo s α α s.heap [] := ⟨B0.1, B0.2.1, mo_rf⟩
  have hl := lv_entry ([.ref a0, .int a1, .int a2, .int a3]) (n := 4) (Nat.le_of_ble_eq_true rfl)
  show W p l e (hp_rm 0 0 0) s m ([.ref a0, .int a1, .int a2, .int a3] : List Value).toArray below meth c s.heap [] 0 0 (MQ below (hp_Qv Γ (fun β => mo α β ∧ hm_M β a0 ρ res)) ([.ref a0, .int a1, .int a2, .int a3] : List Value).toArray s 0 0 (hp_A Γ)) (entryFrame m ([.ref a0, .int a1, .int a2, .int a3] : List Value).toArray 4)
  rw [lg_entry_eq]
  generalize (lg_sl ([.ref a0, .int a1, .int a2, .int a3]) ++ List.replicate (4 - (lg_sl ([.ref a0, .int a1, .int a2, .int a3])).length) Slot.unset).toArray = ls at hl ⊢
  have hl : lv_has ls 4 [(0, .ref a0), (1, .int a1), (2, .int a2), (3, .int a3)] := hl
  refine lv_aload_n hx hb dX12_trusts_0 rfl (lv_at hl 0 rfl) (hp_n (n := 1) rfl ?_)
  refine m_getr (κ := 40) (k := 0) (pc' := 4) C B hM fl_X12_7 rfl (by decide) dX12_trusts_1 rfl ?_
  refine lv_bipush (v := 76) hx hb dX12_trusts_4 (by decide) (hp_n (n := 6) rfl ?_)
  refine lv_iconst (v := 4) hx hb dX12_trusts_6 (by decide) (hp_n (n := 7) rfl ?_)
  refine lv_iload_n hx hb dX12_trusts_7 rfl (lv_at hl 1 rfl) (hp_n (n := 8) rfl ?_)
  refine lv_imul hx hb dX12_trusts_8 (hp_n (n := 9) rfl ?_)
  refine lv_iadd hx hb dX12_trusts_9 (hp_n (n := 10) rfl ?_)
  refine lv_iload_n hx hb dX12_trusts_10 rfl (lv_at hl 2 rfl) (hp_n (n := 11) rfl ?_)
  obtain ⟨g1, hf⟩ := ms_gE hf
  refine m_ias (κ := 40) (φ := 650) (n := 1980) (pc' := 12) C B hM (by decide) (by decide) rfl g1 dX12_trusts_11 rfl (fun αh2 Hh2 Lh2 σh2 eh2 Bh2 Mh2 => ?_)
  replace hf := ms_lE eh2 hf
  refine lv_aload_n hx hb dX12_trusts_12 rfl (lv_at hl 0 rfl) (hp_n (n := 13) rfl ?_)
  refine m_getr (κ := 40) (k := 0) (pc' := 16) C Bh2 Mh2 fl_X12_7 rfl (by decide) dX12_trusts_13 rfl ?_
  refine lv_bipush (v := 76) hx hb dX12_trusts_16 (by decide) (hp_n (n := 18) rfl ?_)
  refine lv_iconst (v := 4) hx hb dX12_trusts_18 (by decide) (hp_n (n := 19) rfl ?_)
  refine lv_iload_n hx hb dX12_trusts_19 rfl (lv_at hl 1 rfl) (hp_n (n := 20) rfl ?_)
  refine lv_imul hx hb dX12_trusts_20 (hp_n (n := 21) rfl ?_)
  refine lv_iadd hx hb dX12_trusts_21 (hp_n (n := 22) rfl ?_)
  refine lv_iconst (v := 1) hx hb dX12_trusts_22 (by decide) (hp_n (n := 23) rfl ?_)
  refine lv_iadd hx hb dX12_trusts_23 (hp_n (n := 24) rfl ?_)
  refine lv_iload_n hx hb dX12_trusts_24 rfl (lv_at hl 3 rfl) (hp_n (n := 25) rfl ?_)
  obtain ⟨g3, hf⟩ := ms_gE hf
  refine m_ias (κ := 40) (φ := 650) (n := 1980) (pc' := 26) C Bh2 Mh2 (by decide) (by decide) rfl g3 dX12_trusts_25 rfl (fun αh4 Hh4 Lh4 σh4 eh4 Bh4 Mh4 => ?_)
  replace hf := ms_lE eh4 hf
  cases hf
  exact q_vret C Bh4 hr hlk ⟨Bh4.2.2, Mh4⟩ dX12_trusts_26
def f_X12_shows_J117 (n : Nat) (σh5 : ms_T) (v1_h5 : Int32) (v6_h5 : Int32) : Option (Int32 × ms_T) :=
  ms_l ((((76 : Int32) + ((4 : Int32) * v1_h5)) + (3 : Int32))) fun x6 =>
  ms_g x6 1980 <|
  ms_g x6 1980 <|
  ms_l (ms_sE σh5 40 (x6).toNatClampNeg ((ms_E σh5 40 (x6).toNatClampNeg) + (1 : Int32))) fun σh9 =>
  ms_g (4 : Int32) 1980 <|
  ms_g (4 : Int32) 1980 <|
  ms_l (ms_sE σh9 40 ((4 : Int32)).toNatClampNeg ((ms_E σh9 40 ((4 : Int32)).toNatClampNeg) + (1 : Int32))) fun σh12 =>
  some (v6_h5, σh12)
def f_X12_shows_J92 (n : Nat) (σh4 : ms_T) (v1_h4 : Int32) (v6_h4 : Int32) : Option (Int32 × ms_T) :=
  if v6_h4 ≤ 0 then
    f_X12_shows_J117 n σh4 v1_h4 v6_h4
  else
    if (5 : Int32) ≤ v6_h4 then
      f_X12_shows_J117 n σh4 v1_h4 v6_h4
    else
      ms_g (((76 : Int32) + ((4 : Int32) * v1_h4)) + (2 : Int32)) 1980 <|
      ms_l (ms_sE σh4 40 ((((76 : Int32) + ((4 : Int32) * v1_h4)) + (2 : Int32))).toNatClampNeg (1 : Int32)) fun σh16 =>
      f_X12_shows_J117 n σh16 v1_h4 v6_h4
def f_X12_shows_J71 (n : Nat) (σh3 : ms_T) (v1_h3 : Int32) (v3_h3 : Int32) (v4_h3 : Int32) (v5_h3 : Int32) (w0_h3 : Int32) : Option (Int32 × ms_T) :=
  if w0_h3 = 0 then
    if v3_h3 ≤ v4_h3 then
      f_X12_shows_J92 n σh3 v1_h3 w0_h3
    else
      ms_b (f_X12_trusts n σh3 v1_h3 v3_h3 v5_h3) fun σh19 =>
      f_X12_shows_J92 n σh19 v1_h3 w0_h3
  else
    f_X12_shows_J92 n σh3 v1_h3 w0_h3
def f_X12_shows (n : Nat) (σ : ms_T) (a1 : Int32) (a2 : Int32) (a3 : Int32) : Option (Int32 × ms_T) :=
  ms_b (f_X12_trust n σ a1 (0 : Int32)) fun rh1 =>
  ms_b (f_X12_headOf n σ a2 a3) fun rh2 =>
  if rh1 ≤ a3 then
    ms_b (f_X12_trust n σ a1 (1 : Int32)) fun rh21 =>
    ms_c (f_X12_whyByRecord n σ a2 rh1 rh21 a3 rh2) fun rh22 σh22 =>
    f_X12_shows_J71 n σh22 a1 a3 rh1 rh2 rh22
  else
    ms_b (f_X12_sizeOf n σ a2) fun rh23 =>
    if rh1 ≤ rh23 then
      ms_b (f_X12_trust n σ a1 (1 : Int32)) fun rh25 =>
      ms_c (f_X12_whyByRecord n σ a2 a3 rh2 rh1 rh25) fun rh26 σh26 =>
      f_X12_shows_J71 n σh26 a1 a3 rh1 rh2 rh26
    else
      f_X12_shows_J71 n σ a1 a3 rh1 rh2 (5 : Int32)
set_option maxRecDepth 100000 in
set_option maxHeartbeats 4000000 in
theorem m_X12_shows (n : Nat) (Γ : hp_G) (l : Launch) (α : hp_T) (a0 : Nat) (ρ : Nat → Nat) (σ : ms_T) (hM : hm_M α a0 ρ σ) (a1 : Int32) (a2 : Int32) (a3 : Int32) (res : (Int32 × ms_T)) (hf : f_X12_shows n σ a1 a2 a3 = some res) : Met l yX12_shows (hp_ws yX12_shows cX12_shows 7 (some .int)) (hp_rm 44 0 0) (hp_Pc Γ α [.ref a0, .int a1, .int a2, .int a3]) (hp_Qi Γ (fun r β => r = res.1 ∧ mo α β ∧ hm_M β a0 ρ res.2)) 0 0 (hp_A Γ) := by
  unfold f_X12_shows at hf
  refine hp_start (by decide) ?_
  intro p e s m below meth c C hr hlk B0 hnm
  have C : hp_C Γ p m c cX12_shows 7 s ([.ref a0, .int a1, .int a2, .int a3] : List Value).toArray RX12 := C
  have hx := C.1.1
  have hb := C.1.2.1
  have hown := C.1.2.2.2.1
  have hts := C.1.2.2.2.2
  have B : hp_B Γ mo s α α s.heap [] := ⟨B0.1, B0.2.1, mo_rf⟩
  have hl := lv_entry ([.ref a0, .int a1, .int a2, .int a3]) (n := 7) (Nat.le_of_ble_eq_true rfl)
  show W p l e (hp_rm 44 0 0) s m ([.ref a0, .int a1, .int a2, .int a3] : List Value).toArray below meth c s.heap [] 0 0 (MQ below (hp_Qi Γ (fun r β => r = res.1 ∧ mo α β ∧ hm_M β a0 ρ res.2)) ([.ref a0, .int a1, .int a2, .int a3] : List Value).toArray s 0 0 (hp_A Γ)) (entryFrame m ([.ref a0, .int a1, .int a2, .int a3] : List Value).toArray 7)
  rw [lg_entry_eq]
  generalize (lg_sl ([.ref a0, .int a1, .int a2, .int a3]) ++ List.replicate (7 - (lg_sl ([.ref a0, .int a1, .int a2, .int a3])).length) Slot.unset).toArray = ls at hl ⊢
  have hl : lv_has ls 7 [(0, .ref a0), (1, .int a1), (2, .int a2), (3, .int a3)] := hl
  refine lv_aload_n hx hb dX12_shows_0 rfl (lv_at hl 0 rfl) (hp_n (n := 1) rfl ?_)
  refine lv_iload_n hx hb dX12_shows_1 rfl (lv_at hl 1 rfl) (hp_n (n := 2) rfl ?_)
  refine lv_iconst (v := 0) hx hb dX12_shows_2 (by decide) (hp_n (n := 3) rfl ?_)
  obtain ⟨rh1, qh1, hf⟩ := ms_bE hf
  refine m_cp (pc' := 6) B (hp_runV (As := [.int a1, .int (0 : Int32)]) (rest := []) C B (m_X12_trust n Γ l α a0 ρ σ hM a1 (0 : Int32) rh1 qh1) lb_X12_trust lv_X12_trust lk_X12_221 hM.1 rfl (by decide) rfl hl.1 rfl (Nat.le_of_ble_eq_true rfl) dX12_shows_3 ⟨Nat.le_refl _, Nat.le_refl _⟩) rfl (fun Hh1 Lh1 Bh1 => ?_)
  refine lv_istore (lv' := [(4, .int rh1), (0, .ref a0), (1, .int a1), (2, .int a2), (3, .int a3)]) hx hb dX12_shows_6 hl (by decide) rfl (fun ls hl => hp_n (n := 8) rfl ?_)
  refine lv_aload_n hx hb dX12_shows_8 rfl (lv_at hl 1 rfl) (hp_n (n := 9) rfl ?_)
  refine lv_iload_n hx hb dX12_shows_9 rfl (lv_at hl 3 rfl) (hp_n (n := 10) rfl ?_)
  refine lv_iload_n hx hb dX12_shows_10 rfl (lv_at hl 4 rfl) (hp_n (n := 11) rfl ?_)
  obtain ⟨rh2, qh2, hf⟩ := ms_bE hf
  refine m_cp (pc' := 14) Bh1 (hp_runV (As := [.int a2, .int a3]) (rest := []) C Bh1 (m_X12_headOf n Γ l α a0 ρ σ hM a2 a3 rh2 qh2) lb_X12_headOf lv_X12_headOf lk_X12_215 hM.1 rfl (by decide) rfl hl.1 rfl (Nat.le_of_ble_eq_true rfl) dX12_shows_11 ⟨Nat.le_refl _, Nat.le_refl _⟩) rfl (fun Hh2 Lh2 Bh2 => ?_)
  refine lv_istore (lv' := [(5, .int rh2), (4, .int rh1), (0, .ref a0), (1, .int a1), (2, .int a2), (3, .int a3)]) hx hb dX12_shows_14 hl (by decide) rfl (fun ls hl => hp_n (n := 16) rfl ?_)
  refine lv_iload hx hb dX12_shows_16 (lv_at hl 1 rfl) (hp_n (n := 18) rfl ?_)
  refine lv_iload_n hx hb dX12_shows_18 rfl (lv_at hl 5 rfl) (hp_n (n := 19) rfl ?_)
  have J71 : ∀ (αh3 : hp_T) (Hh3 : Heap) (Lh3 : List Loc) (Bh3 : hp_B Γ mo s α αh3 Hh3 Lh3) (σh3 : ms_T) (Mh3 : hm_M αh3 a0 ρ σh3) (v1_h3 : Int32) (v3_h3 : Int32) (v4_h3 : Int32) (v5_h3 : Int32) (w0_h3 : Int32) (ls : Array Slot) (hl : lv_has ls 7 [(0, .ref a0), (1, .int v1_h3), (3, .int v3_h3), (4, .int v4_h3), (5, .int v5_h3)]) (hf : f_X12_shows_J71 n σh3 v1_h3 v3_h3 v4_h3 v5_h3 w0_h3 = some res), W p l e (hp_rm 44 0 0) s m ([.ref a0, .int a1, .int a2, .int a3] : List Value).toArray below meth c Hh3 Lh3 0 0 (MQ below (hp_Qi Γ (fun r β => r = res.1 ∧ mo α β ∧ hm_M β a0 ρ res.2)) ([.ref a0, .int a1, .int a2, .int a3] : List Value).toArray s 0 0 (hp_A Γ)) (F0 m 71 ls [.int w0_h3]) := by
    intro αh3 Hh3 Lh3 Bh3 σh3 Mh3 v1_h3 v3_h3 v4_h3 v5_h3 w0_h3 ls hl hf
    unfold f_X12_shows_J71 at hf
    refine lv_istore (lv' := [(6, .int w0_h3), (0, .ref a0), (1, .int v1_h3), (3, .int v3_h3), (4, .int v4_h3), (5, .int v5_h3)]) hx hb dX12_shows_71 hl (by decide) rfl (fun ls hl => hp_n (n := 73) rfl ?_)
    refine lv_iload hx hb dX12_shows_73 (lv_at hl 0 rfl) (hp_n (n := 75) rfl ?_)
    have J92 : ∀ (αh4 : hp_T) (Hh4 : Heap) (Lh4 : List Loc) (Bh4 : hp_B Γ mo s α αh4 Hh4 Lh4) (σh4 : ms_T) (Mh4 : hm_M αh4 a0 ρ σh4) (v1_h4 : Int32) (v6_h4 : Int32) (ls : Array Slot) (hl : lv_has ls 7 [(0, .ref a0), (1, .int v1_h4), (6, .int v6_h4)]) (hf : f_X12_shows_J92 n σh4 v1_h4 v6_h4 = some res), W p l e (hp_rm 44 0 0) s m ([.ref a0, .int a1, .int a2, .int a3] : List Value).toArray below meth c Hh4 Lh4 0 0 (MQ below (hp_Qi Γ (fun r β => r = res.1 ∧ mo α β ∧ hm_M β a0 ρ res.2)) ([.ref a0, .int a1, .int a2, .int a3] : List Value).toArray s 0 0 (hp_A Γ)) (F0 m 92 ls []) := by
      intro αh4 Hh4 Lh4 Bh4 σh4 Mh4 v1_h4 v6_h4 ls hl hf
      unfold f_X12_shows_J92 at hf
      refine lv_iload hx hb dX12_shows_92 (lv_at hl 2 rfl) (hp_n (n := 94) rfl ?_)
      have J117 : ∀ (αh5 : hp_T) (Hh5 : Heap) (Lh5 : List Loc) (Bh5 : hp_B Γ mo s α αh5 Hh5 Lh5) (σh5 : ms_T) (Mh5 : hm_M αh5 a0 ρ σh5) (v1_h5 : Int32) (v6_h5 : Int32) (ls : Array Slot) (hl : lv_has ls 7 [(0, .ref a0), (1, .int v1_h5), (6, .int v6_h5)]) (hf : f_X12_shows_J117 n σh5 v1_h5 v6_h5 = some res), W p l e (hp_rm 44 0 0) s m ([.ref a0, .int a1, .int a2, .int a3] : List Value).toArray below meth c Hh5 Lh5 0 0 (MQ below (hp_Qi Γ (fun r β => r = res.1 ∧ mo α β ∧ hm_M β a0 ρ res.2)) ([.ref a0, .int a1, .int a2, .int a3] : List Value).toArray s 0 0 (hp_A Γ)) (F0 m 117 ls []) := by
        intro αh5 Hh5 Lh5 Bh5 σh5 Mh5 v1_h5 v6_h5 ls hl hf
        unfold f_X12_shows_J117 at hf
        refine lv_aload_n hx hb dX12_shows_117 rfl (lv_at hl 0 rfl) (hp_n (n := 118) rfl ?_)
        refine m_getr (κ := 40) (k := 0) (pc' := 121) C Bh5 Mh5 fl_X12_7 rfl (by decide) dX12_shows_118 rfl ?_
        refine lv_bipush (v := 76) hx hb dX12_shows_121 (by decide) (hp_n (n := 123) rfl ?_)
        refine lv_iconst (v := 4) hx hb dX12_shows_123 (by decide) (hp_n (n := 124) rfl ?_)
        refine lv_iload_n hx hb dX12_shows_124 rfl (lv_at hl 1 rfl) (hp_n (n := 125) rfl ?_)
        refine lv_imul hx hb dX12_shows_125 (hp_n (n := 126) rfl ?_)
        refine lv_iadd hx hb dX12_shows_126 (hp_n (n := 127) rfl ?_)
        refine lv_iconst (v := 3) hx hb dX12_shows_127 (by decide) (hp_n (n := 128) rfl ?_)
        refine lv_iadd hx hb dX12_shows_128 (hp_n (n := 129) rfl ?_)
        refine lv_topi (fun x6 ex6 => ?_)
        replace hf := ms_lE ex6 hf
        refine lv_dup2_11 hx hb dX12_shows_129 rfl rfl (hp_n (n := 130) rfl ?_)
        obtain ⟨g7, hf⟩ := ms_gE hf
        refine m_ial (κ := 40) (φ := 650) (n := 1980) (pc' := 131) C Bh5 Mh5 (by decide) (by decide) rfl g7 dX12_shows_130 rfl ?_
        refine lv_iconst (v := 1) hx hb dX12_shows_131 (by decide) (hp_n (n := 132) rfl ?_)
        refine lv_iadd hx hb dX12_shows_132 (hp_n (n := 133) rfl ?_)
        obtain ⟨g8, hf⟩ := ms_gE hf
        refine m_ias (κ := 40) (φ := 650) (n := 1980) (pc' := 134) C Bh5 Mh5 (by decide) (by decide) rfl g8 dX12_shows_133 rfl (fun αh9 Hh9 Lh9 σh9 eh9 Bh9 Mh9 => ?_)
        replace hf := ms_lE eh9 hf
        refine lv_aload_n hx hb dX12_shows_134 rfl (lv_at hl 0 rfl) (hp_n (n := 135) rfl ?_)
        refine m_getr (κ := 40) (k := 0) (pc' := 138) C Bh9 Mh9 fl_X12_7 rfl (by decide) dX12_shows_135 rfl ?_
        refine lv_iconst (v := 4) hx hb dX12_shows_138 (by decide) (hp_n (n := 139) rfl ?_)
        refine lv_dup2_11 hx hb dX12_shows_139 rfl rfl (hp_n (n := 140) rfl ?_)
        obtain ⟨g10, hf⟩ := ms_gE hf
        refine m_ial (κ := 40) (φ := 650) (n := 1980) (pc' := 141) C Bh9 Mh9 (by decide) (by decide) rfl g10 dX12_shows_140 rfl ?_
        refine lv_iconst (v := 1) hx hb dX12_shows_141 (by decide) (hp_n (n := 142) rfl ?_)
        refine lv_iadd hx hb dX12_shows_142 (hp_n (n := 143) rfl ?_)
        obtain ⟨g11, hf⟩ := ms_gE hf
        refine m_ias (κ := 40) (φ := 650) (n := 1980) (pc' := 144) C Bh9 Mh9 (by decide) (by decide) rfl g11 dX12_shows_143 rfl (fun αh12 Hh12 Lh12 σh12 eh12 Bh12 Mh12 => ?_)
        replace hf := ms_lE eh12 hf
        refine lv_iload hx hb dX12_shows_144 (lv_at hl 2 rfl) (hp_n (n := 146) rfl ?_)
        cases hf
        exact q_iret C Bh12 hr hlk ⟨rfl, Bh12.2.2, Mh12⟩ dX12_shows_146
      refine lv_if_le (tgt := 117) hx hb dX12_shows_94 (by decide) (fun c13 => ?_) (fun c13 => hp_n (n := 97) rfl ?_)
      ·
        replace hf := ms_iT c13 hf
        exact J117 αh4 Hh4 Lh4 Bh4 σh4 Mh4 v1_h4 v6_h4 ls (lv_sub hl [0, 1, 2] rfl) hf
      ·
        replace hf := ms_iF c13 hf
        refine lv_iload hx hb dX12_shows_97 (lv_at hl 2 rfl) (hp_n (n := 99) rfl ?_)
        refine lv_iconst (v := 5) hx hb dX12_shows_99 (by decide) (hp_n (n := 100) rfl ?_)
        refine lv_icmp_ge (tgt := 117) hx hb dX12_shows_100 (by decide) (fun c14 => ?_) (fun c14 => hp_n (n := 103) rfl ?_)
        ·
          replace hf := ms_iT c14 hf
          exact J117 αh4 Hh4 Lh4 Bh4 σh4 Mh4 v1_h4 v6_h4 ls (lv_sub hl [0, 1, 2] rfl) hf
        ·
          replace hf := ms_iF c14 hf
          refine lv_aload_n hx hb dX12_shows_103 rfl (lv_at hl 0 rfl) (hp_n (n := 104) rfl ?_)
          refine m_getr (κ := 40) (k := 0) (pc' := 107) C Bh4 Mh4 fl_X12_7 rfl (by decide) dX12_shows_104 rfl ?_
          refine lv_bipush (v := 76) hx hb dX12_shows_107 (by decide) (hp_n (n := 109) rfl ?_)
          refine lv_iconst (v := 4) hx hb dX12_shows_109 (by decide) (hp_n (n := 110) rfl ?_)
          refine lv_iload_n hx hb dX12_shows_110 rfl (lv_at hl 1 rfl) (hp_n (n := 111) rfl ?_)
          refine lv_imul hx hb dX12_shows_111 (hp_n (n := 112) rfl ?_)
          refine lv_iadd hx hb dX12_shows_112 (hp_n (n := 113) rfl ?_)
          refine lv_iconst (v := 2) hx hb dX12_shows_113 (by decide) (hp_n (n := 114) rfl ?_)
          refine lv_iadd hx hb dX12_shows_114 (hp_n (n := 115) rfl ?_)
          refine lv_iconst (v := 1) hx hb dX12_shows_115 (by decide) (hp_n (n := 116) rfl ?_)
          obtain ⟨g15, hf⟩ := ms_gE hf
          refine m_ias (κ := 40) (φ := 650) (n := 1980) (pc' := 117) C Bh4 Mh4 (by decide) (by decide) rfl g15 dX12_shows_116 rfl (fun αh16 Hh16 Lh16 σh16 eh16 Bh16 Mh16 => ?_)
          replace hf := ms_lE eh16 hf
          exact J117 αh16 Hh16 Lh16 Bh16 σh16 Mh16 v1_h4 v6_h4 ls (lv_sub hl [0, 1, 2] rfl) hf
    refine lv_if_ne (tgt := 92) hx hb dX12_shows_75 (by decide) (fun c17 => ?_) (fun c17 => hp_n (n := 78) rfl ?_)
    ·
      replace hf := ms_iF c17 hf
      exact J92 αh3 Hh3 Lh3 Bh3 σh3 Mh3 v1_h3 w0_h3 ls (lv_sub hl [1, 2, 0] rfl) hf
    ·
      replace hf := ms_iT c17 hf
      refine lv_iload_n hx hb dX12_shows_78 rfl (lv_at hl 3 rfl) (hp_n (n := 79) rfl ?_)
      refine lv_iload hx hb dX12_shows_79 (lv_at hl 4 rfl) (hp_n (n := 81) rfl ?_)
      refine lv_icmp_le (tgt := 92) hx hb dX12_shows_81 (by decide) (fun c18 => ?_) (fun c18 => hp_n (n := 84) rfl ?_)
      ·
        replace hf := ms_iT c18 hf
        exact J92 αh3 Hh3 Lh3 Bh3 σh3 Mh3 v1_h3 w0_h3 ls (lv_sub hl [1, 2, 0] rfl) hf
      ·
        replace hf := ms_iF c18 hf
        refine lv_aload_n hx hb dX12_shows_84 rfl (lv_at hl 1 rfl) (hp_n (n := 85) rfl ?_)
        refine lv_iload_n hx hb dX12_shows_85 rfl (lv_at hl 2 rfl) (hp_n (n := 86) rfl ?_)
        refine lv_iload_n hx hb dX12_shows_86 rfl (lv_at hl 3 rfl) (hp_n (n := 87) rfl ?_)
        refine lv_iload hx hb dX12_shows_87 (lv_at hl 5 rfl) (hp_n (n := 89) rfl ?_)
        obtain ⟨σh19, qh19, hf⟩ := ms_bE hf
        refine m_cv (pc' := 92) (a := a0) (ρ := ρ) Bh3 (hp_runV (As := [.int v1_h3, .int v3_h3, .int v5_h3]) (rest := []) C Bh3 (m_X12_trusts n Γ l αh3 a0 ρ σh3 Mh3 v1_h3 v3_h3 v5_h3 σh19 qh19) lb_X12_trusts lv_X12_trusts lk_X12_227 Mh3.1 rfl (by decide) rfl hl.1 rfl (Nat.le_of_ble_eq_true rfl) dX12_shows_89 ⟨Nat.le_refl _, Nat.le_refl _⟩) rfl (fun αh19 Hh19 Lh19 Bh19 Mh19 => ?_)
        exact J92 αh19 Hh19 Lh19 Bh19 σh19 Mh19 v1_h3 w0_h3 ls (lv_sub hl [1, 2, 0] rfl) hf
  refine lv_icmp_le (tgt := 55) hx hb dX12_shows_19 (by decide) (fun c20 => ?_) (fun c20 => hp_n (n := 22) rfl ?_)
  ·
    replace hf := ms_iT c20 hf
    refine lv_aload_n hx hb dX12_shows_55 rfl (lv_at hl 2 rfl) (hp_n (n := 56) rfl ?_)
    refine lv_iload_n hx hb dX12_shows_56 rfl (lv_at hl 4 rfl) (hp_n (n := 57) rfl ?_)
    refine lv_iload hx hb dX12_shows_57 (lv_at hl 1 rfl) (hp_n (n := 59) rfl ?_)
    refine lv_aload_n hx hb dX12_shows_59 rfl (lv_at hl 2 rfl) (hp_n (n := 60) rfl ?_)
    refine lv_iload_n hx hb dX12_shows_60 rfl (lv_at hl 3 rfl) (hp_n (n := 61) rfl ?_)
    refine lv_iconst (v := 1) hx hb dX12_shows_61 (by decide) (hp_n (n := 62) rfl ?_)
    obtain ⟨rh21, qh21, hf⟩ := ms_bE hf
    refine m_cp (pc' := 65) Bh2 (hp_runV (As := [.int a1, .int (1 : Int32)]) (rest := [.int rh1, .int a2, .ref a0]) C Bh2 (m_X12_trust n Γ l α a0 ρ σ hM a1 (1 : Int32) rh21 qh21) lb_X12_trust lv_X12_trust lk_X12_221 hM.1 rfl (by decide) rfl hl.1 rfl (Nat.le_of_ble_eq_true rfl) dX12_shows_62 ⟨Nat.le_refl _, Nat.le_refl _⟩) rfl (fun Hh21 Lh21 Bh21 => ?_)
    refine lv_iload_n hx hb dX12_shows_65 rfl (lv_at hl 5 rfl) (hp_n (n := 66) rfl ?_)
    refine lv_iload hx hb dX12_shows_66 (lv_at hl 0 rfl) (hp_n (n := 68) rfl ?_)
    obtain ⟨rh22, σh22, qh22, hf⟩ := ms_cE hf
    refine m_ci (pc' := 71) (a := a0) (ρ := ρ) Bh21 (hp_runV (As := [.int a2, .int rh1, .int rh21, .int a3, .int rh2]) (rest := []) C Bh21 (m_X12_whyByRecord n Γ l α a0 ρ σ hM a2 rh1 rh21 a3 rh2 (rh22, σh22) qh22) lb_X12_whyByRecord lv_X12_whyByRecord lk_X12_224 hM.1 rfl (by decide) rfl hl.1 rfl (Nat.le_of_ble_eq_true rfl) dX12_shows_68 ⟨Nat.le_refl _, Nat.le_refl _⟩) rfl (fun αh22 Hh22 Lh22 Bh22 Mh22 => ?_)
    exact J71 αh22 Hh22 Lh22 Bh22 σh22 Mh22 a1 a3 rh1 rh2 rh22 ls (lv_sub hl [2, 3, 5, 1, 0] rfl) hf
  ·
    replace hf := ms_iF c20 hf
    refine lv_aload_n hx hb dX12_shows_22 rfl (lv_at hl 2 rfl) (hp_n (n := 23) rfl ?_)
    refine lv_iload_n hx hb dX12_shows_23 rfl (lv_at hl 4 rfl) (hp_n (n := 24) rfl ?_)
    obtain ⟨rh23, qh23, hf⟩ := ms_bE hf
    refine m_cp (pc' := 27) Bh2 (hp_runV (As := [.int a2]) (rest := []) C Bh2 (m_X12_sizeOf n Γ l α a0 ρ σ hM a2 rh23 qh23) lb_X12_sizeOf lv_X12_sizeOf lk_X12_209 hM.1 rfl (by decide) rfl hl.1 rfl (Nat.le_of_ble_eq_true rfl) dX12_shows_24 ⟨Nat.le_refl _, Nat.le_refl _⟩) rfl (fun Hh23 Lh23 Bh23 => ?_)
    refine lv_iload hx hb dX12_shows_27 (lv_at hl 1 rfl) (hp_n (n := 29) rfl ?_)
    refine lv_icmp_ge (tgt := 36) hx hb dX12_shows_29 (by decide) (fun c24 => ?_) (fun c24 => hp_n (n := 32) rfl ?_)
    ·
      replace hf := ms_iT c24 hf
      refine lv_aload_n hx hb dX12_shows_36 rfl (lv_at hl 2 rfl) (hp_n (n := 37) rfl ?_)
      refine lv_iload_n hx hb dX12_shows_37 rfl (lv_at hl 4 rfl) (hp_n (n := 38) rfl ?_)
      refine lv_iload_n hx hb dX12_shows_38 rfl (lv_at hl 5 rfl) (hp_n (n := 39) rfl ?_)
      refine lv_iload hx hb dX12_shows_39 (lv_at hl 0 rfl) (hp_n (n := 41) rfl ?_)
      refine lv_iload hx hb dX12_shows_41 (lv_at hl 1 rfl) (hp_n (n := 43) rfl ?_)
      refine lv_aload_n hx hb dX12_shows_43 rfl (lv_at hl 2 rfl) (hp_n (n := 44) rfl ?_)
      refine lv_iload_n hx hb dX12_shows_44 rfl (lv_at hl 3 rfl) (hp_n (n := 45) rfl ?_)
      refine lv_iconst (v := 1) hx hb dX12_shows_45 (by decide) (hp_n (n := 46) rfl ?_)
      obtain ⟨rh25, qh25, hf⟩ := ms_bE hf
      refine m_cp (pc' := 49) Bh23 (hp_runV (As := [.int a1, .int (1 : Int32)]) (rest := [.int rh1, .int rh2, .int a3, .int a2, .ref a0]) C Bh23 (m_X12_trust n Γ l α a0 ρ σ hM a1 (1 : Int32) rh25 qh25) lb_X12_trust lv_X12_trust lk_X12_221 hM.1 rfl (by decide) rfl hl.1 rfl (Nat.le_of_ble_eq_true rfl) dX12_shows_46 ⟨Nat.le_refl _, Nat.le_refl _⟩) rfl (fun Hh25 Lh25 Bh25 => ?_)
      obtain ⟨rh26, σh26, qh26, hf⟩ := ms_cE hf
      refine m_ci (pc' := 52) (a := a0) (ρ := ρ) Bh25 (hp_runV (As := [.int a2, .int a3, .int rh2, .int rh1, .int rh25]) (rest := []) C Bh25 (m_X12_whyByRecord n Γ l α a0 ρ σ hM a2 a3 rh2 rh1 rh25 (rh26, σh26) qh26) lb_X12_whyByRecord lv_X12_whyByRecord lk_X12_224 hM.1 rfl (by decide) rfl hl.1 rfl (Nat.le_of_ble_eq_true rfl) dX12_shows_49 ⟨Nat.le_refl _, Nat.le_refl _⟩) rfl (fun αh26 Hh26 Lh26 Bh26 Mh26 => ?_)
      refine lv_goto (tgt := 71) hx hb dX12_shows_52 (by decide) ?_
      exact J71 αh26 Hh26 Lh26 Bh26 σh26 Mh26 a1 a3 rh1 rh2 rh26 ls (lv_sub hl [2, 3, 5, 1, 0] rfl) hf
    ·
      replace hf := ms_iF c24 hf
      refine lv_iconst (v := 5) hx hb dX12_shows_32 (by decide) (hp_n (n := 33) rfl ?_)
      refine lv_goto (tgt := 71) hx hb dX12_shows_33 (by decide) ?_
      exact J71 α Hh23 Lh23 Bh23 σ hM a1 a3 rh1 rh2 (5 : Int32) ls (lv_sub hl [2, 3, 5, 1, 0] rfl) hf
def f_X12_puts_L3 (n : Nat) : Nat → ms_T → Int32 → Int32 → Option ms_T
  | 0, _, _, _ => none
  | k3 + 1, σh1, v1_h1, v2_h1 =>
    if v2_h1 < 0 then
      some σh1
    else
      ms_g (ms_I σh1 667) 900 <|
      ms_l (ms_sE σh1 47 ((ms_I σh1 667)).toNatClampNeg (((v1_h1 >>> (v2_h1 &&& 31))).toInt8.toInt32).toInt8.toInt32) fun σh4 =>
      ms_l (ms_sI σh4 667 ((ms_I σh4 667) + (1 : Int32))) fun σh5 =>
      ms_l (v2_h1 + (-8)) fun x6 =>
      (f_X12_puts_L3 n k3) σh5 v1_h1 x6
def f_X12_puts (n : Nat) (σ : ms_T) (a1 : Int32) : Option ms_T :=
  f_X12_puts_L3 n n σ a1 (24 : Int32)
set_option maxRecDepth 100000 in
set_option maxHeartbeats 4000000 in
theorem m_X12_puts (n : Nat) (Γ : hp_G) (l : Launch) (α : hp_T) (a0 : Nat) (ρ : Nat → Nat) (σ : ms_T) (hM : hm_M α a0 ρ σ) (a1 : Int32) (res : ms_T) (hf : f_X12_puts n σ a1 = some res) : Met l yX12_puts (hp_ws yX12_puts cX12_puts 3 none) (hp_rm 0 0 0) (hp_Pc Γ α [.ref a0, .int a1]) (hp_Qv Γ (fun β => mo α β ∧ hm_M β a0 ρ res)) 0 0 (hp_A Γ) := by
  unfold f_X12_puts at hf
  refine hp_start (by decide) ?_
  intro p e s m below meth c C hr hlk B0 hnm
  have C : hp_C Γ p m c cX12_puts 3 s ([.ref a0, .int a1] : List Value).toArray RX12 := C
  have hx := C.1.1
  have hb := C.1.2.1
  have hown := C.1.2.2.2.1
  have hts := C.1.2.2.2.2
  have B : hp_B Γ mo s α α s.heap [] := ⟨B0.1, B0.2.1, mo_rf⟩
  have hl := lv_entry ([.ref a0, .int a1]) (n := 3) (Nat.le_of_ble_eq_true rfl)
  show W p l e (hp_rm 0 0 0) s m ([.ref a0, .int a1] : List Value).toArray below meth c s.heap [] 0 0 (MQ below (hp_Qv Γ (fun β => mo α β ∧ hm_M β a0 ρ res)) ([.ref a0, .int a1] : List Value).toArray s 0 0 (hp_A Γ)) (entryFrame m ([.ref a0, .int a1] : List Value).toArray 3)
  rw [lg_entry_eq]
  generalize (lg_sl ([.ref a0, .int a1]) ++ List.replicate (3 - (lg_sl ([.ref a0, .int a1])).length) Slot.unset).toArray = ls at hl ⊢
  have hl : lv_has ls 3 [(0, .ref a0), (1, .int a1)] := hl
  refine lv_bipush (v := 24) hx hb dX12_puts_0 (by decide) (hp_n (n := 2) rfl ?_)
  have J3 : ∀ (k3 : Nat) (αh1 : hp_T) (Hh1 : Heap) (Lh1 : List Loc) (Bh1 : hp_B Γ mo s α αh1 Hh1 Lh1) (σh1 : ms_T) (Mh1 : hm_M αh1 a0 ρ σh1) (v1_h1 : Int32) (v2_h1 : Int32) (ls : Array Slot) (hl : lv_has ls 3 [(0, .ref a0), (1, .int v1_h1), (2, .int v2_h1)]) (hf : f_X12_puts_L3 n k3 σh1 v1_h1 v2_h1 = some res), W p l e (hp_rm 0 0 0) s m ([.ref a0, .int a1] : List Value).toArray below meth c Hh1 Lh1 0 0 (MQ below (hp_Qv Γ (fun β => mo α β ∧ hm_M β a0 ρ res)) ([.ref a0, .int a1] : List Value).toArray s 0 0 (hp_A Γ)) (F0 m 3 ls []) := by
    intro k3
    induction k3 with
    | zero => intro αh1 Hh1 Lh1 Bh1 σh1 Mh1 v1_h1 v2_h1 ls hl hf; rw [f_X12_puts_L3.eq_1] at hf; cases hf
    | succ k3 ih3 =>
      intro αh1 Hh1 Lh1 Bh1 σh1 Mh1 v1_h1 v2_h1 ls hl hf
      rw [f_X12_puts_L3.eq_2] at hf
      refine lv_iload_n hx hb dX12_puts_3 rfl (lv_at hl 2 rfl) (hp_n (n := 4) rfl ?_)
      refine lv_if_lt (tgt := 36) hx hb dX12_puts_4 (by decide) (fun c2 => ?_) (fun c2 => hp_n (n := 7) rfl ?_)
      ·
        replace hf := ms_iT c2 hf
        cases hf
        exact q_vret C Bh1 hr hlk ⟨Bh1.2.2, Mh1⟩ dX12_puts_36
      ·
        replace hf := ms_iF c2 hf
        refine lv_aload_n hx hb dX12_puts_7 rfl (lv_at hl 0 rfl) (hp_n (n := 8) rfl ?_)
        refine m_getr (κ := 47) (k := 16) (pc' := 11) C Bh1 Mh1 fl_X12_31 rfl (by decide) dX12_puts_8 rfl ?_
        refine lv_aload_n hx hb dX12_puts_11 rfl (lv_at hl 0 rfl) (hp_n (n := 12) rfl ?_)
        refine m_geti (k := 17) (φ := 667) (pc' := 15) C Bh1 Mh1 fl_X12_230 rfl rfl dX12_puts_12 rfl ?_
        refine lv_iload_n hx hb dX12_puts_15 rfl (lv_at hl 1 rfl) (hp_n (n := 16) rfl ?_)
        refine lv_iload_n hx hb dX12_puts_16 rfl (lv_at hl 2 rfl) (hp_n (n := 17) rfl ?_)
        refine lv_ishr hx hb dX12_puts_17 (hp_n (n := 18) rfl ?_)
        refine lv_i2b hx hb dX12_puts_18 rfl (hp_n (n := 19) rfl ?_)
        obtain ⟨g3, hf⟩ := ms_gE hf
        refine m_bas (κ := 47) (φ := 666) (n := 900) (pc' := 20) C Bh1 Mh1 (by decide) (by decide) rfl g3 dX12_puts_19 rfl (fun αh4 Hh4 Lh4 σh4 eh4 Bh4 Mh4 => ?_)
        replace hf := ms_lE eh4 hf
        refine lv_aload_n hx hb dX12_puts_20 rfl (lv_at hl 0 rfl) (hp_n (n := 21) rfl ?_)
        refine lv_dup hx hb dX12_puts_21 rfl (hp_n (n := 22) rfl ?_)
        refine m_geti (k := 17) (φ := 667) (pc' := 25) C Bh4 Mh4 fl_X12_230 rfl rfl dX12_puts_22 rfl ?_
        refine lv_iconst (v := 1) hx hb dX12_puts_25 (by decide) (hp_n (n := 26) rfl ?_)
        refine lv_iadd hx hb dX12_puts_26 (hp_n (n := 27) rfl ?_)
        refine m_puti (k := 17) (φ := 667) (pc' := 30) C Bh4 Mh4 fl_X12_230 rfl rfl rfl rfl rfl dX12_puts_27 rfl (fun αh5 Hh5 Lh5 σh5 eh5 Bh5 Mh5 => ?_)
        replace hf := ms_lE eh5 hf
        obtain ⟨x6, ex6⟩ : ∃ y : Int32, y = v2_h1 + (-8) := ⟨_, rfl⟩
        replace hf := ms_lE ex6 hf
        refine lv_iinc (v := x6) (lv' := [(2, .int x6), (0, .ref a0), (1, .int v1_h1)]) hx hb dX12_puts_30 hl (k := 2) rfl (by rw [ex6]; rfl) (by decide) rfl (fun ls hl => hp_n (n := 33) rfl ?_)
        refine lv_goto (tgt := 3) hx hb dX12_puts_33 (by decide) ?_
        exact ih3 αh5 Hh5 Lh5 Bh5 σh5 Mh5 v1_h1 x6 ls (lv_sub hl [1, 2, 0] rfl) hf
  refine lv_istore_n (lv' := [(2, .int (24 : Int32)), (0, .ref a0), (1, .int a1)]) hx hb dX12_puts_2 rfl hl (by decide) rfl (fun ls hl => hp_n (n := 3) rfl ?_)
  exact J3 n α s.heap [] B σ hM a1 (24 : Int32) ls (lv_sub hl [1, 2, 0] rfl) hf
def f_X12_feed (n : Nat) (σ : ms_T) (a1 : Int32) (a2 : Int32) (a3 : Int32) (a4 : Int32) (a5 : Int32) : Option (Int32 × ms_T) :=
  ms_l (ms_sI σ 653 (0 : Int32)) fun σh1 =>
  if ((ms_I σh1 667) + (20 : Int32)) ≤ (900 : Int32) then
    ms_b (f_X12_puts n σh1 a1) fun σh3 =>
    ms_b (f_X12_puts n σh3 a2) fun σh4 =>
    ms_b (f_X12_puts n σh4 a3) fun σh5 =>
    ms_b (f_X12_puts n σh5 a4) fun σh6 =>
    ms_b (f_X12_puts n σh6 a5) fun σh7 =>
    some ((ms_I σh7 667), σh7)
  else
    some ((-1 : Int32), σh1)
set_option maxRecDepth 100000 in
set_option maxHeartbeats 4000000 in
theorem m_X12_feed (n : Nat) (Γ : hp_G) (l : Launch) (α : hp_T) (a0 : Nat) (ρ : Nat → Nat) (σ : ms_T) (hM : hm_M α a0 ρ σ) (a1 : Int32) (a2 : Int32) (a3 : Int32) (a4 : Int32) (a5 : Int32) (res : (Int32 × ms_T)) (hf : f_X12_feed n σ a1 a2 a3 a4 a5 = some res) : Met l yX12_feed (hp_ws yX12_feed cX12_feed 6 (some .int)) (hp_rm 1 0 0) (hp_Pc Γ α [.ref a0, .int a1, .int a2, .int a3, .int a4, .int a5]) (hp_Qi Γ (fun r β => r = res.1 ∧ mo α β ∧ hm_M β a0 ρ res.2)) 0 0 (hp_A Γ) := by
  unfold f_X12_feed at hf
  refine hp_start (by decide) ?_
  intro p e s m below meth c C hr hlk B0 hnm
  have C : hp_C Γ p m c cX12_feed 6 s ([.ref a0, .int a1, .int a2, .int a3, .int a4, .int a5] : List Value).toArray RX12 := C
  have hx := C.1.1
  have hb := C.1.2.1
  have hown := C.1.2.2.2.1
  have hts := C.1.2.2.2.2
  have B : hp_B Γ mo s α α s.heap [] := ⟨B0.1, B0.2.1, mo_rf⟩
  have hl := lv_entry ([.ref a0, .int a1, .int a2, .int a3, .int a4, .int a5]) (n := 6) (Nat.le_of_ble_eq_true rfl)
  show W p l e (hp_rm 1 0 0) s m ([.ref a0, .int a1, .int a2, .int a3, .int a4, .int a5] : List Value).toArray below meth c s.heap [] 0 0 (MQ below (hp_Qi Γ (fun r β => r = res.1 ∧ mo α β ∧ hm_M β a0 ρ res.2)) ([.ref a0, .int a1, .int a2, .int a3, .int a4, .int a5] : List Value).toArray s 0 0 (hp_A Γ)) (entryFrame m ([.ref a0, .int a1, .int a2, .int a3, .int a4, .int a5] : List Value).toArray 6)
  rw [lg_entry_eq]
  generalize (lg_sl ([.ref a0, .int a1, .int a2, .int a3, .int a4, .int a5]) ++ List.replicate (6 - (lg_sl ([.ref a0, .int a1, .int a2, .int a3, .int a4, .int a5])).length) Slot.unset).toArray = ls at hl ⊢
  have hl : lv_has ls 6 [(0, .ref a0), (1, .int a1), (2, .int a2), (3, .int a3), (4, .int a4), (5, .int a5)] := hl
  refine lv_aload_n hx hb dX12_feed_0 rfl (lv_at hl 0 rfl) (hp_n (n := 1) rfl ?_)
  refine lv_iconst (v := 0) hx hb dX12_feed_1 (by decide) (hp_n (n := 2) rfl ?_)
  refine m_puti (k := 3) (φ := 653) (pc' := 5) C B hM fl_X12_106 rfl rfl rfl rfl rfl dX12_feed_2 rfl (fun αh1 Hh1 Lh1 σh1 eh1 Bh1 Mh1 => ?_)
  replace hf := ms_lE eh1 hf
  refine lv_aload_n hx hb dX12_feed_5 rfl (lv_at hl 0 rfl) (hp_n (n := 6) rfl ?_)
  refine m_geti (k := 17) (φ := 667) (pc' := 9) C Bh1 Mh1 fl_X12_230 rfl rfl dX12_feed_6 rfl ?_
  refine lv_bipush (v := 20) hx hb dX12_feed_9 (by decide) (hp_n (n := 11) rfl ?_)
  refine lv_iadd hx hb dX12_feed_11 (hp_n (n := 12) rfl ?_)
  refine lv_sipush (v := 900) hx hb dX12_feed_12 (by decide) (hp_n (n := 15) rfl ?_)
  refine lv_icmp_le (tgt := 20) hx hb dX12_feed_15 (by decide) (fun c2 => ?_) (fun c2 => hp_n (n := 18) rfl ?_)
  ·
    replace hf := ms_iT c2 hf
    refine lv_aload_n hx hb dX12_feed_20 rfl (lv_at hl 0 rfl) (hp_n (n := 21) rfl ?_)
    refine lv_iload_n hx hb dX12_feed_21 rfl (lv_at hl 1 rfl) (hp_n (n := 22) rfl ?_)
    obtain ⟨σh3, qh3, hf⟩ := ms_bE hf
    refine m_cv (pc' := 25) (a := a0) (ρ := ρ) Bh1 (hp_runV (As := [.int a1]) (rest := []) C Bh1 (m_X12_puts n Γ l αh1 a0 ρ σh1 Mh1 a1 σh3 qh3) lb_X12_puts lv_X12_puts lk_X12_233 Mh1.1 rfl (by decide) rfl hl.1 rfl (Nat.le_of_ble_eq_true rfl) dX12_feed_22 ⟨Nat.le_refl _, Nat.le_refl _⟩) rfl (fun αh3 Hh3 Lh3 Bh3 Mh3 => ?_)
    refine lv_aload_n hx hb dX12_feed_25 rfl (lv_at hl 0 rfl) (hp_n (n := 26) rfl ?_)
    refine lv_iload_n hx hb dX12_feed_26 rfl (lv_at hl 2 rfl) (hp_n (n := 27) rfl ?_)
    obtain ⟨σh4, qh4, hf⟩ := ms_bE hf
    refine m_cv (pc' := 30) (a := a0) (ρ := ρ) Bh3 (hp_runV (As := [.int a2]) (rest := []) C Bh3 (m_X12_puts n Γ l αh3 a0 ρ σh3 Mh3 a2 σh4 qh4) lb_X12_puts lv_X12_puts lk_X12_233 Mh3.1 rfl (by decide) rfl hl.1 rfl (Nat.le_of_ble_eq_true rfl) dX12_feed_27 ⟨Nat.le_refl _, Nat.le_refl _⟩) rfl (fun αh4 Hh4 Lh4 Bh4 Mh4 => ?_)
    refine lv_aload_n hx hb dX12_feed_30 rfl (lv_at hl 0 rfl) (hp_n (n := 31) rfl ?_)
    refine lv_iload_n hx hb dX12_feed_31 rfl (lv_at hl 3 rfl) (hp_n (n := 32) rfl ?_)
    obtain ⟨σh5, qh5, hf⟩ := ms_bE hf
    refine m_cv (pc' := 35) (a := a0) (ρ := ρ) Bh4 (hp_runV (As := [.int a3]) (rest := []) C Bh4 (m_X12_puts n Γ l αh4 a0 ρ σh4 Mh4 a3 σh5 qh5) lb_X12_puts lv_X12_puts lk_X12_233 Mh4.1 rfl (by decide) rfl hl.1 rfl (Nat.le_of_ble_eq_true rfl) dX12_feed_32 ⟨Nat.le_refl _, Nat.le_refl _⟩) rfl (fun αh5 Hh5 Lh5 Bh5 Mh5 => ?_)
    refine lv_aload_n hx hb dX12_feed_35 rfl (lv_at hl 0 rfl) (hp_n (n := 36) rfl ?_)
    refine lv_iload hx hb dX12_feed_36 (lv_at hl 4 rfl) (hp_n (n := 38) rfl ?_)
    obtain ⟨σh6, qh6, hf⟩ := ms_bE hf
    refine m_cv (pc' := 41) (a := a0) (ρ := ρ) Bh5 (hp_runV (As := [.int a4]) (rest := []) C Bh5 (m_X12_puts n Γ l αh5 a0 ρ σh5 Mh5 a4 σh6 qh6) lb_X12_puts lv_X12_puts lk_X12_233 Mh5.1 rfl (by decide) rfl hl.1 rfl (Nat.le_of_ble_eq_true rfl) dX12_feed_38 ⟨Nat.le_refl _, Nat.le_refl _⟩) rfl (fun αh6 Hh6 Lh6 Bh6 Mh6 => ?_)
    refine lv_aload_n hx hb dX12_feed_41 rfl (lv_at hl 0 rfl) (hp_n (n := 42) rfl ?_)
    refine lv_iload hx hb dX12_feed_42 (lv_at hl 5 rfl) (hp_n (n := 44) rfl ?_)
    obtain ⟨σh7, qh7, hf⟩ := ms_bE hf
    refine m_cv (pc' := 47) (a := a0) (ρ := ρ) Bh6 (hp_runV (As := [.int a5]) (rest := []) C Bh6 (m_X12_puts n Γ l αh6 a0 ρ σh6 Mh6 a5 σh7 qh7) lb_X12_puts lv_X12_puts lk_X12_233 Mh6.1 rfl (by decide) rfl hl.1 rfl (Nat.le_of_ble_eq_true rfl) dX12_feed_44 ⟨Nat.le_refl _, Nat.le_refl _⟩) rfl (fun αh7 Hh7 Lh7 Bh7 Mh7 => ?_)
    refine lv_aload_n hx hb dX12_feed_47 rfl (lv_at hl 0 rfl) (hp_n (n := 48) rfl ?_)
    refine m_geti (k := 17) (φ := 667) (pc' := 51) C Bh7 Mh7 fl_X12_230 rfl rfl dX12_feed_48 rfl ?_
    cases hf
    exact q_iret C Bh7 hr hlk ⟨rfl, Bh7.2.2, Mh7⟩ dX12_feed_51
  ·
    replace hf := ms_iF c2 hf
    refine lv_iconst (v := (-1)) hx hb dX12_feed_18 (by decide) (hp_n (n := 19) rfl ?_)
    cases hf
    exact q_iret C Bh1 hr hlk ⟨rfl, Bh1.2.2, Mh1⟩ dX12_feed_19
def f_X12_isOf (n : Nat) (σ : ms_T) (a1 : Int32) (a2 : Int32) (a3 : Int32) : Option Int32 :=
  if (ms_I σ 676) ≤ a1 then
    some (0 : Int32)
  else
    ms_g a1 900 <|
    ms_b (f_X12_isIn n (ms_E σ 47 (a1).toNatClampNeg) a2 a3) fun rh3 =>
    if rh3 = 0 then
      some (0 : Int32)
    else
      some (1 : Int32)
set_option maxRecDepth 100000 in
set_option maxHeartbeats 4000000 in
theorem m_X12_isOf (n : Nat) (Γ : hp_G) (l : Launch) (α : hp_T) (a0 : Nat) (ρ : Nat → Nat) (σ : ms_T) (hM : hm_M α a0 ρ σ) (a1 : Int32) (a2 : Int32) (a3 : Int32) (res : Int32) (hf : f_X12_isOf n σ a1 a2 a3 = some res) : Met l yX12_isOf (hp_ws yX12_isOf cX12_isOf 4 (some .boolean)) (hp_rm 1 0 0) (hp_Pc Γ α [.ref a0, .int a1, .int a2, .int a3]) (hp_Qi Γ (fun r β => β = α ∧ r = res)) 0 0 (hp_A Γ) := by
  unfold f_X12_isOf at hf
  refine hp_start (by decide) ?_
  intro p e s m below meth c C hr hlk B0 hnm
  have C : hp_C Γ p m c cX12_isOf 4 s ([.ref a0, .int a1, .int a2, .int a3] : List Value).toArray RX12 := C
  have hx := C.1.1
  have hb := C.1.2.1
  have hown := C.1.2.2.2.1
  have hts := C.1.2.2.2.2
  have B : hp_B Γ (fun _ _ => True) s α α s.heap [] := ⟨B0.1, B0.2.1, trivial⟩
  have hl := lv_entry ([.ref a0, .int a1, .int a2, .int a3]) (n := 4) (Nat.le_of_ble_eq_true rfl)
  show W p l e (hp_rm 1 0 0) s m ([.ref a0, .int a1, .int a2, .int a3] : List Value).toArray below meth c s.heap [] 0 0 (MQ below (hp_Qi Γ (fun r β => β = α ∧ r = res)) ([.ref a0, .int a1, .int a2, .int a3] : List Value).toArray s 0 0 (hp_A Γ)) (entryFrame m ([.ref a0, .int a1, .int a2, .int a3] : List Value).toArray 4)
  rw [lg_entry_eq]
  generalize (lg_sl ([.ref a0, .int a1, .int a2, .int a3]) ++ List.replicate (4 - (lg_sl ([.ref a0, .int a1, .int a2, .int a3])).length) Slot.unset).toArray = ls at hl ⊢
  have hl : lv_has ls 4 [(0, .ref a0), (1, .int a1), (2, .int a2), (3, .int a3)] := hl
  refine lv_iload_n hx hb dX12_isOf_0 rfl (lv_at hl 1 rfl) (hp_n (n := 1) rfl ?_)
  refine lv_aload_n hx hb dX12_isOf_1 rfl (lv_at hl 0 rfl) (hp_n (n := 2) rfl ?_)
  refine m_geti (k := 26) (φ := 676) (pc' := 5) C B hM fl_X12_236 rfl rfl dX12_isOf_2 rfl ?_
  refine lv_icmp_ge (tgt := 26) hx hb dX12_isOf_5 (by decide) (fun c1 => ?_) (fun c1 => hp_n (n := 8) rfl ?_)
  ·
    replace hf := ms_iT c1 hf
    refine lv_iconst (v := 0) hx hb dX12_isOf_26 (by decide) (hp_n (n := 27) rfl ?_)
    cases hf
    exact q_zret C B hr hlk (by decide) ⟨rfl, rfl⟩ dX12_isOf_27
  ·
    replace hf := ms_iF c1 hf
    refine lv_aload_n hx hb dX12_isOf_8 rfl (lv_at hl 0 rfl) (hp_n (n := 9) rfl ?_)
    refine m_getr (κ := 47) (k := 16) (pc' := 12) C B hM fl_X12_31 rfl (by decide) dX12_isOf_9 rfl ?_
    refine lv_iload_n hx hb dX12_isOf_12 rfl (lv_at hl 1 rfl) (hp_n (n := 13) rfl ?_)
    obtain ⟨g2, hf⟩ := ms_gE hf
    refine m_bal (κ := 47) (φ := 666) (n := 900) (pc' := 14) C B hM (by decide) (by decide) rfl g2 dX12_isOf_13 rfl ?_
    refine lv_iload_n hx hb dX12_isOf_14 rfl (lv_at hl 2 rfl) (hp_n (n := 15) rfl ?_)
    refine lv_iload_n hx hb dX12_isOf_15 rfl (lv_at hl 3 rfl) (hp_n (n := 16) rfl ?_)
    obtain ⟨rh3, qh3, hf⟩ := ms_bE hf
    refine m_cp (pc' := 19) B (hp_runS (As := [.int (ms_E σ 47 (a1).toNatClampNeg), .int a2, .int a3]) (rest := []) C B (m_X12_isIn n Γ l α (ms_E σ 47 (a1).toNatClampNeg) a2 a3 rh3 qh3) lb_X12_isIn ls_X12_isIn lk_X12_113 rfl (by decide) rfl hl.1 rfl (Nat.le_of_ble_eq_true rfl) dX12_isOf_16 ⟨Nat.le_refl _, Nat.le_refl _⟩) rfl (fun Hh3 Lh3 Bh3 => ?_)
    refine lv_if_eq (tgt := 26) hx hb dX12_isOf_19 (by decide) (fun c4 => ?_) (fun c4 => hp_n (n := 22) rfl ?_)
    ·
      replace hf := ms_iT c4 hf
      refine lv_iconst (v := 0) hx hb dX12_isOf_26 (by decide) (hp_n (n := 27) rfl ?_)
      cases hf
      exact q_zret C Bh3 hr hlk (by decide) ⟨rfl, rfl⟩ dX12_isOf_27
    ·
      replace hf := ms_iF c4 hf
      refine lv_iconst (v := 1) hx hb dX12_isOf_22 (by decide) (hp_n (n := 23) rfl ?_)
      refine lv_goto (tgt := 27) hx hb dX12_isOf_23 (by decide) ?_
      cases hf
      exact q_zret C Bh3 hr hlk (by decide) ⟨rfl, rfl⟩ dX12_isOf_27
end JN2_23
