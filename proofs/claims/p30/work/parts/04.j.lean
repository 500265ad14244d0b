section JN2_0
/-! ===== the heap as a picture: kinds, int fields, long fields, references, references that may be null, rows of ints, of longs, of references ===== -/
abbrev hp_T : Type := (Nat → Nat) × (Nat → Nat → Int32) × (Nat → Nat → Int64) × (Nat → Nat → Nat) × (Nat → Nat → Option Nat) × (Nat → Nat → Nat → Int32) × (Nat → Nat → Nat → Int64) × (Nat → Nat → Nat → Option Nat)
def hp_K (α : hp_T) : Nat → Nat := α.1
def hp_I (α : hp_T) : Nat → Nat → Int32 := α.2.1
def hp_J (α : hp_T) : Nat → Nat → Int64 := α.2.2.1
def hp_R (α : hp_T) : Nat → Nat → Nat := α.2.2.2.1
def hp_N (α : hp_T) : Nat → Nat → Option Nat := α.2.2.2.2.1
def hp_E (α : hp_T) : Nat → Nat → Nat → Int32 := α.2.2.2.2.2.1
def hp_L (α : hp_T) : Nat → Nat → Nat → Int64 := α.2.2.2.2.2.2.1
def hp_Q (α : hp_T) : Nat → Nat → Nat → Option Nat := α.2.2.2.2.2.2.2
def hp_up {β : Type} (f : Nat → Nat → β) (φ a : Nat) (v : β) : Nat → Nat → β := fun ψ b => if ψ = φ ∧ b = a then v else f ψ b
def hp_uq {β : Type} (f : Nat → Nat → Nat → β) (κ a j : Nat) (v : β) : Nat → Nat → Nat → β := fun ψ b i => if ψ = κ ∧ b = a ∧ i = j then v else f ψ b i
def hp_sI (α : hp_T) (φ a : Nat) (v : Int32) : hp_T := (α.1, hp_up α.2.1 φ a v, α.2.2)
def hp_sJ (α : hp_T) (φ a : Nat) (v : Int64) : hp_T := (α.1, α.2.1, hp_up α.2.2.1 φ a v, α.2.2.2)
def hp_sR (α : hp_T) (φ a : Nat) (v : Nat) : hp_T := (α.1, α.2.1, α.2.2.1, hp_up α.2.2.2.1 φ a v, α.2.2.2.2)
def hp_sN (α : hp_T) (φ a : Nat) (v : Option Nat) : hp_T := (α.1, α.2.1, α.2.2.1, α.2.2.2.1, hp_up α.2.2.2.2.1 φ a v, α.2.2.2.2.2)
def hp_sE (α : hp_T) (κ a j : Nat) (v : Int32) : hp_T := (α.1, α.2.1, α.2.2.1, α.2.2.2.1, α.2.2.2.2.1, hp_uq α.2.2.2.2.2.1 κ a j v, α.2.2.2.2.2.2)
def hp_sL (α : hp_T) (κ a j : Nat) (v : Int64) : hp_T := (α.1, α.2.1, α.2.2.1, α.2.2.2.1, α.2.2.2.2.1, α.2.2.2.2.2.1, hp_uq α.2.2.2.2.2.2.1 κ a j v, α.2.2.2.2.2.2.2)
def hp_sQ (α : hp_T) (κ a j : Nat) (v : Option Nat) : hp_T := (α.1, α.2.1, α.2.2.1, α.2.2.2.1, α.2.2.2.2.1, α.2.2.2.2.2.1, α.2.2.2.2.2.2.1, hp_uq α.2.2.2.2.2.2.2 κ a j v)
def hp_tl : List (List Nat) := [[0,1,0,0,0], [0,0,0,0,1], [1,1,0], [1,1,1,0,0,0,0,1,0,0], [1,1,0,1,1,0,0,0,0,0,0], [1,0], [1,0,0,0,0,0,0], [0,0,0,0], [1,1,1,0,0], [1,0], [0,1,0,1,0,1,0,1,1,1], [0,1,1,1,1,0,1,1,1,1,1,0,1,1,1,1,1,1,3], [1,1,0,0,1,1,1,0,0,0,0,0,1,1,0,0,1,0,0,0,0,0,0,0,0,0,0,2,1,0,1,1,0,0,0,0,1,1,1,0,1,1,1,1,1,0,1,0]]
def hp_b (κ : Nat) : Nat := if κ < 100 then κ else κ - 100
def hp_rw (t : Nat) : Nat := if t = 1 then 3 else t
def hp_tg (κ : Nat) : List Nat := if κ < 100 then hp_tl.getD (κ - 1) [] else (hp_tl.getD (κ - 101) []).map hp_rw
def hp_v (α : hp_T) (a t φ : Nat) : Value := if t = 0 then .int (hp_I α φ a) else if t = 1 then .ref (hp_R α φ a) else if t = 2 then .long (hp_J α φ a) else va_rf (hp_N α φ a)
def hp_fv (α : hp_T) (a : Nat) : List Nat → Nat → List Value
  | [], _ => []
  | t :: ts, φ => hp_v α a t φ :: hp_fv α a ts (φ + 1)
def hp_al : List (Nat × Nat) := [(0, 64), (0, 64), (0, 64), (2, 64), (1, 900), (1, 256), (0, 256), (1, 8), (7, 48), (0, 48), (4, 4), (5, 16), (6, 4), (0, 48), (0, 65521), (0, 65521), (1, 0), (0, 0), (0, 0), (0, 0), (0, 1980), (0, 1980), (0, 128), (0, 128), (0, 128), (0, 8), (0, 8), (1, 900), (3, 12), (0, 20), (0, 20), (0, 64), (0, 64), (0, 64), (0, 64), (0, 64), (0, 64), (0, 256), (0, 256), (0, 900)]
def hp_ar (κ : Nat) : Nat × Nat := hp_al.getD (κ - 20) (0, 0)
def hp_cx (α : hp_T) (κ a : Nat) (t : Nat) : (Nat → Int32) ⊕ (Nat → Int64) ⊕ (Nat → UInt32) ⊕ (Nat → UInt64) ⊕ (Nat → Option Nat) := if t < 3 then .inl (hp_E α κ a) else if t = 3 then .inr (.inl (hp_L α κ a)) else .inr (.inr (.inr (.inr (hp_Q α κ a))))
def hp_ca (dA : Nat → ClassId) (α : hp_T) (κ a : Nat) : va_E := .inl (dA (hp_ar κ).1, (hp_ar κ).2, hp_cx α κ a (hp_ar κ).1)
def hp_ce (dA : Nat → ClassId) (α : hp_T) (κ a : Nat) : va_E := if 20 ≤ κ ∧ κ < 60 then hp_ca dA α κ a else .inr (hp_b κ - 1, hp_fv α a (hp_tg κ) (50 * hp_b κ))
def hp_tys (dA : Nat → ClassId) : List (ClassId × FieldType) := [(dA 0, .int), (dA 1, .byte), (dA 2, .boolean), (dA 3, .long), (dA 4, .object "ProvenRecord$Log"), (dA 5, .object "ProvenRecord$Frozen"), (dA 6, .object "ProvenRecord$Watcher"), (dA 7, .object "ProvenRecord$Word")]
/-- the heap at the law's start; class numbers, slots, row classes -/
abbrev hp_G : Type := Heap × (Nat → ClassId) × (Nat → Nat → Nat) × (Nat → ClassId) × (Nat → Nat) × (Nat → Nat)
def hp_A (Γ : hp_G) : Nat → Prop := fun q => Γ.1.size ≤ q
def hp_Rep (Γ : hp_G) (α : hp_T) (H : Heap) : Prop := Γ.1.size ≤ H.size ∧ (∀ q : Nat, q < Γ.1.size → H[q]? = Γ.1[q]?) ∧ ∀ a : Nat, hp_K α a ≠ 0 → Γ.1.size ≤ a ∧ va_at (Γ.2.1, Γ.2.2.1) vwCl (a, hp_ce Γ.2.2.2.1 α (hp_K α a) a) H
def hp_isN : Cond → Bool
  | .methodLinkNest _ _ _ _ => true
  | .arrayOver (.object _) => true
  | _ => false
/-- the texts: where they stand, which they are -/
def hp_sl : List (String × Nat × String × Nat) := [("ProvenRecord", 409, "in ", 15), ("ProvenRecord", 418, " of ", 4), ("ProvenRecord", 420, " mark ", 3), ("ProvenRecord", 422, " head ", 2), ("ProvenRecord", 427, "grow ", 12), ("ProvenRecord", 429, " to ", 5), ("ProvenRecord", 496, " by", 1), ("ProvenRecord", 498, " ", 0), ("ProvenRecord", 500, ";", 6), ("ProvenRecord$Reader", 107, "freeze", 10), ("ProvenRecord$Reader", 112, "show", 19), ("ProvenRecord$Reader", 127, "in", 14), ("ProvenRecord$Reader", 129, "grow", 11), ("ProvenRecord$Reader", 156, "of", 18), ("ProvenRecord$Reader", 161, "mark", 16), ("ProvenRecord$Reader", 166, "head", 13), ("ProvenRecord$Reader", 186, "by", 8), ("ProvenRecord$Reader", 69, "mod", 17), ("ProvenRecord$Reader", 86, "add", 7), ("ProvenRecord$Reader", 92, "to", 20), ("ProvenRecord$Reader", 97, "fork", 9), ("ProvenRecordModel", 447, "in", 14), ("ProvenRecordModel", 453, "of", 18), ("ProvenRecordModel", 455, "mark", 16), ("ProvenRecordModel", 457, "head", 13), ("ProvenRecordModel", 462, "grow", 11), ("ProvenRecordModel", 464, "to", 20)]
def hp_sn : List Nat := [1, 3, 6, 6, 4, 4, 1, 3, 2, 4, 6, 4, 5, 4, 2, 3, 4, 3, 2, 4, 2]
def hp_sb : List (List Int32) := [[32], [32, 98, 121], [32, 104, 101, 97, 100, 32], [32, 109, 97, 114, 107, 32], [32, 111, 102, 32], [32, 116, 111, 32], [59], [97, 100, 100], [98, 121], [102, 111, 114, 107], [102, 114, 101, 101, 122, 101], [103, 114, 111, 119], [103, 114, 111, 119, 32], [104, 101, 97, 100], [105, 110], [105, 110, 32], [109, 97, 114, 107], [109, 111, 100], [111, 102], [115, 104, 111, 119], [116, 111]]
def hp_nest : List Cond := lw_tbl.filter hp_isN
def lw_u : List Cond := lw_tbl.filter goodWord
/-- texts and statics of the JDK as they are at the law's start -/
def hp_TX (Γ : hp_G) (U : State) : Prop := (∀ q ∈ hp_sl, vk_R q.1 q.2.1 q.2.2.1 (Γ.2.2.2.2.1 q.2.2.2) U) ∧ vk_S 21 hp_sn hp_sb Γ.2.2.2.2.1 Γ.2.2.2.2.2 (hp_A Γ) U Γ.1 ∧ va_Z "java/lang/String" "COMPACT_STRINGS" "Z" (.int 1) (hp_A Γ) U Γ.1 ∧ va_Zq "jdk/internal/util/Preconditions" "SIOOBE_FORMATTER" "Ljava/util/function/BiFunction;" (hp_A Γ) U Γ.1
def hp_KK (Γ : hp_G) (U : State) : Prop := va_K (Γ.2.1, Γ.2.2.1) vwCl (hp_tys Γ.2.2.2.1) U ∧ (∀ w ∈ hp_nest, va_Nw w U) ∧ hp_TX Γ U
def hp_ws (y : MethodName) (cc : ByteArray) (n : Nat) (ret : Option FieldType) : List Cond := Cond.code y cc n ret :: lw_u
def hp_B (Γ : hp_G) (Iv : hp_T → hp_T → Prop) (s : State) (α0 α : hp_T) (H : Heap) (locs : List Loc) : Prop := hp_Rep Γ α H ∧ va_S (hp_A Γ) s.heap H locs ∧ Iv α0 α
def hp_C (Γ : hp_G) (p : Program) (m : MethodId) (c : Code) (cc : ByteArray) (nL : Nat) (s : State) (args : Array Value) (own : String) : Prop := CallFix p m c cc nL s args lw_u own ∧ hp_KK Γ s
def hp_q (κ : Nat) : vw_C := vwCl.getD (κ - 1) (RX0, TX0, 5)
def hp_ty (κ : Nat) : Nat → FieldType := ([tyX0, tyX1, tyX2, tyX3, tyX4, tyX5, tyX6, tyX7, tyX8, tyX9, tyX10, tyX11, tyX12] : List (Nat → FieldType)).getD (κ - 1) tyX0
theorem hp_mu {w : Cond} (h : w ∈ lw_tbl) (g : goodWord w = true) : w ∈ lw_u := List.mem_filter.mpr ⟨h, g⟩
theorem hp_gs {y : MethodName} {cc : ByteArray} {n : Nat} {ret : Option FieldType} (h : Cond.code y cc n ret ∈ lw_u) : GoodIn lw_u (hp_ws y cc n ret) := fun w hw => by
  have h2 : w ∈ lw_u := by
    rcases List.mem_cons.mp hw with e | h3
    · rw [e]; exact h
    · exact h3
  exact ⟨h2, good_of_word (List.mem_filter.mp h2).2⟩
/-- a field's link: of class kind κ the k-th -/
def hp_F (own : String) (index κ k : Nat) : Prop := vwCl[κ - 1]? = some (hp_q κ) ∧ k < (hp_q κ).2.2 ∧ (∀ w ∈ u_ws (hp_q κ).1 (hp_q κ).2.1 (hp_q κ).2.2, w ∈ lw_u) ∧ (∀ j, j < (hp_q κ).2.2 → parseFieldDescriptor ((hp_q κ).2.1 j).2.2.1 = some (hp_ty κ j)) ∧ (∀ a, a < (hp_q κ).2.2 → ∀ b, b < (hp_q κ).2.2 → a ≠ b → ((hp_q κ).2.1 a).2.1 ≠ ((hp_q κ).2.1 b).2.1) ∧ Cond.fieldLink own index ((hp_q κ).2.1 k).1 ((hp_q κ).2.1 k).2.1 ((hp_q κ).2.1 k).2.2.1 ∈ lw_u
theorem hp_fv_get {α : hp_T} {a t : Nat} : ∀ (ts : List Nat) (k ψ : Nat), ts[k]? = some t → (hp_fv α a ts ψ)[k]? = some (hp_v α a t (ψ + k)) := by
  intro ts
  induction ts with
  | nil => intro k ψ h; simp at h
  | cons t0 ts ih =>
    intro k ψ h
    cases k with
    | zero => simp only [List.getElem?_cons_zero, Option.some.injEq] at h; subst h; rfl
    | succ k =>
      simp only [List.getElem?_cons_succ] at h
      have := ih k (ψ + 1) h
      show (hp_fv α a ts (ψ + 1))[k]? = _
      rw [this, show ψ + 1 + k = ψ + (k + 1) by omega]
theorem hp_fv_len {α : hp_T} {a : Nat} : ∀ (ts : List Nat) (ψ : Nat), (hp_fv α a ts ψ).length = ts.length := by
  intro ts
  induction ts with
  | nil => intro ψ; rfl
  | cons t ts ih => intro ψ; show (hp_fv α a ts (ψ + 1)).length + 1 = _; rw [ih]; rfl
/-- two pictures with the same values at an address from a field on -/
theorem hp_fv_congr {α β : hp_T} {a : Nat} : ∀ (ts : List Nat) (ψ : Nat), (∀ t φ, ψ ≤ φ → hp_v α a t φ = hp_v β a t φ) → hp_fv α a ts ψ = hp_fv β a ts ψ := by
  intro ts
  induction ts with
  | nil => intro ψ _; rfl
  | cons t ts ih =>
    intro ψ h
    show _ :: _ = _ :: _
    rw [h t ψ (Nat.le_refl _), ih (ψ + 1) (fun t φ hφ => h t φ (by omega))]
/-- one field changed -/
theorem hp_fv_set {α β : hp_T} {a t0 : Nat} {v : Value} : ∀ (ts : List Nat) (k ψ : Nat), ts[k]? = some t0 → hp_v β a t0 (ψ + k) = v → (∀ t φ, φ ≠ ψ + k → hp_v β a t φ = hp_v α a t φ) → hp_fv β a ts ψ = (hp_fv α a ts ψ).set k v := by
  intro ts
  induction ts with
  | nil => intro k ψ h; simp at h
  | cons t ts ih =>
    intro k ψ h hv hn
    cases k with
    | zero =>
      simp only [List.getElem?_cons_zero, Option.some.injEq] at h
      subst h
      show _ :: _ = _ :: _
      rw [hp_fv_congr ts (ψ + 1) (fun t φ hφ => hn t φ (by omega))]
      rw [show ψ + 0 = ψ from rfl] at hv
      rw [hv]
    | succ k =>
      simp only [List.getElem?_cons_succ] at h
      show _ :: _ = _ :: _
      rw [hn t ψ (by omega), ih k (ψ + 1) h (by rw [show ψ + 1 + k = ψ + (k + 1) by omega]; exact hv) (fun t φ hφ => hn t φ (by omega))]
theorem hp_P1 {D : va_G} {cl : List vw_C} {q : Nat × va_E} {H : Heap} (h : va_at D cl q H) : va_P D cl [q] H := by
  intro k x hx
  have hz : k < 1 := (List.getElem?_eq_some_iff.mp hx).1
  rw [show k = 0 by omega] at hx
  cases hx
  exact h
theorem hp_Rep.upd {Γ : hp_G} {α α' : hp_T} {H H1 : Heap} (h : hp_Rep Γ α H) {a : Nat} (z : H1.size = H.size) (oq : ∀ q : Nat, q ≠ a → H1[q]? = H[q]?) (hka : hp_K α a ≠ 0) (he : va_at (Γ.2.1, Γ.2.2.1) vwCl (a, hp_ce Γ.2.2.2.1 α' (hp_K α a) a) H1) (hK : hp_K α' = hp_K α) (hb : ∀ b, b ≠ a → ∀ κ, hp_ce Γ.2.2.2.1 α' κ b = hp_ce Γ.2.2.2.1 α κ b) : hp_Rep Γ α' H1 := by
  refine ⟨by rw [z]; exact h.1, fun q hq => ?_, fun b hk => ?_⟩
  · have h1 := (h.2.2 a hka).1
    rw [oq q (by omega)]
    exact h.2.1 q hq
  · rw [hK] at hk ⊢
    refine ⟨(h.2.2 b hk).1, ?_⟩
    by_cases hba : b = a
    · subst hba; exact he
    · rw [hb b hba]
      exact (h.2.2 b hk).2.kept (oq b hba)
def hp_isC (κ : Nat) : Bool := decide (κ ≠ 0) && !(decide (20 ≤ κ) && decide (κ < 60))
theorem hp_ce_c {dA : Nat → ClassId} {α : hp_T} {κ a : Nat} (h : hp_isC κ = true) : hp_ce dA α κ a = .inr (hp_b κ - 1, hp_fv α a (hp_tg κ) (50 * hp_b κ)) := by
  unfold hp_ce
  rw [if_neg]
  intro hh
  simp [hp_isC, hh.1, hh.2] at h
theorem hp_ce_a {dA : Nat → ClassId} {α : hp_T} {κ a t n : Nat} (h : 20 ≤ κ ∧ κ < 60) (hn : hp_ar κ = (t, n)) : hp_ce dA α κ a = .inl (dA t, n, hp_cx α κ a t) := by
  unfold hp_ce
  rw [if_pos h]
  unfold hp_ca
  rw [hn]
section HPR
variable {p : Program} {l : Launch} {e : Env} {R : Room} {s : State} {m : MethodId} {args : Array Value} {below : List Frame} {meth : Method} {c : Code} {H : Heap} {locs : List Loc} {cells slots : Nat} {Q : State → Prop} {cc : ByteArray} {nL : Nat} {own : String} {Γ : hp_G} {α0 α α' : hp_T} {Iv : hp_T → hp_T → Prop} {pc pc' : Nat} {ls : Array Slot} {rest : List Value} {a κ k t index : Nat} {v : Value}
theorem hp_B.at (B : hp_B Γ Iv s α0 α H locs) (hk : hp_K α a = κ) (hc : hp_isC κ = true) : Γ.1.size ≤ a ∧ va_at (Γ.2.1, Γ.2.2.1) vwCl (a, .inr (hp_b κ - 1, hp_fv α a (hp_tg κ) (50 * hp_b κ))) H := by
  have h0 : hp_K α a ≠ 0 := by rw [hk]; intro h; rw [h] at hc; cases hc
  have h := B.1.2.2 a h0
  rw [hk, hp_ce_c hc] at h
  exact h
theorem hp_B.ar {n : Nat} (B : hp_B Γ Iv s α0 α H locs) (hk : hp_K α a = κ) (hc : 20 ≤ κ ∧ κ < 60) (hn : hp_ar κ = (t, n)) : Γ.1.size ≤ a ∧ va_at (Γ.2.1, Γ.2.2.1) vwCl (a, .inl (Γ.2.2.2.1 t, n, hp_cx α κ a t)) H := by
  have h0 : hp_K α a ≠ 0 := by rw [hk]; omega
  have h := B.1.2.2 a h0
  rw [hk, hp_ce_a hc hn] at h
  exact h
/-- getfield -/
theorem q_get (C : hp_C Γ p m c cc nL s args own) (B : hp_B Γ Iv s α0 α H locs) (hk : hp_K α a = κ) (hF : hp_F own index (hp_b κ) k) (hc : hp_isC κ = true) (ht : (hp_tg κ)[k]? = some t) (hv : hp_v α a t (50 * hp_b κ + k) = v) (hdg : decode cc pc = .ok (.getfield index, 3)) (hpc : pc + 3 = pc')
    (kk : W p l e R s m args below meth c H locs cells slots Q (F0 m pc' ls (v :: rest))) : W p l e R s m args below meth c H locs cells slots Q (F0 m pc ls (.ref a :: rest)) := by
  obtain ⟨⟨hx, hb, hml, hown, hts⟩, hK, -⟩ := C
  obtain ⟨hq, hkN, hin, -, -, hlk⟩ := hF
  have hat := (B.at hk hc).2
  subst hpc
  refine va_get hx hb (own := own) (C := (hp_q (hp_b κ)).1) (T := (hp_q (hp_b κ)).2.1) (N := (hp_q (hp_b κ)).2.2) hts hin hown hK (hp_P1 hat) 0 rfl hq k hkN (hts _ hlk) (fun _ h => h) (v := v) ?_ hdg kk
  rw [hp_fv_get _ _ _ ht, hv]
/-- putfield, not final -/
theorem q_put (C : hp_C Γ p m c cc nL s args own) (B : hp_B Γ Iv s α0 α H locs) (hk : hp_K α a = κ) (hF : hp_F own index (hp_b κ) k) (hc : hp_isC κ = true) (ht : (hp_tg κ)[k]? = some t) (hfin : ((hp_q (hp_b κ)).2.1 k).2.2.2 = false) (hn : narrow (hp_ty (hp_b κ) k) v = v) (hfit : fits (hp_ty (hp_b κ) k) v = true)
    (hK' : hp_K α' = hp_K α) (hv : hp_v α' a t (50 * hp_b κ + k) = v) (hv' : ∀ t φ, φ ≠ 50 * hp_b κ + k → hp_v α' a t φ = hp_v α a t φ) (hb' : ∀ b, b ≠ a → ∀ κ, hp_ce Γ.2.2.2.1 α' κ b = hp_ce Γ.2.2.2.1 α κ b) (hiv : Iv α0 α')
    (hdg : decode cc pc = .ok (.putfield index, 3)) (hpc : pc + 3 = pc')
    (kk : ∀ (H1 : Heap) (locs1 : List Loc), hp_B Γ Iv s α0 α' H1 locs1 → W p l e R s m args below meth c H1 locs1 cells slots Q (F0 m pc' ls rest)) : W p l e R s m args below meth c H locs cells slots Q (F0 m pc ls (v :: .ref a :: rest)) := by
  obtain ⟨⟨hx, hb, hml, hown, hts⟩, hK, -⟩ := C
  obtain ⟨hq, hkN, hin, hty, hnm, hlk⟩ := hF
  obtain ⟨hbase, hat⟩ := B.at hk hc
  subst hpc
  have h0 : hp_K α a ≠ 0 := by rw [hk]; intro h; rw [h] at hc; cases hc
  have hap := va_apart (own := own) hts hin (hp_ty (hp_b κ)) hty hnm hK hq
  obtain ⟨r, h1, cell, q1, q2, q3, q4⟩ := hat
  have hr : r = hp_q (hp_b κ) := Option.some.inj (h1.symm.trans hq)
  subst hr
  obtain ⟨hS, hfc, kC, hkC, hkind⟩ := hK.1 _ _ hq
  obtain ⟨cf, kf, fi, f, hi, hsl⟩ := hS k hkN
  have hlay := hts _ (hin _ (u_in_lay hkN))
  unfold u_lay at hlay
  rw [if_neg (by rw [hfin]; decide)] at hlay
  have hst := (u_facts hfc hkC (u_lays hts hin hkN) hi).1
  have h6 := u_store hfc hkC hkind hlay hi (hty k hkN) hn hfit
  refine W.putK hx hb (f := f) ⟨hown, hts _ hlk, ⟨_, _, _, hi⟩, hst⟩ (by rw [q2]; exact h6) q1 q3 (by rw [hsl]; exact k2_hasslot (q4 k hkN)) rfl rfl hdg fun H' e1 e2 e3 => ?_
  rw [hsl] at e1 ⊢
  refine kk H' _ ⟨B.1.upd e2 e3 h0 ?_ hK' hb', B.2.1.put e2 e3 hbase, hiv⟩
  rw [hk, hp_ce_c hc]
  have hl : k < (hp_fv α a (hp_tg κ) (50 * hp_b κ)).length := by rw [hp_fv_len]; exact (List.getElem?_eq_some_iff.mp ht).1
  refine ⟨_, hq, t_OB.to (V := updV (vp_V (hp_fv α a (hp_tg κ) (50 * hp_b κ))) k v) ⟨_, e1, q2, q3, t_set q4 hap hkN v⟩ (fun j _ => ?_)⟩
  rw [vp_updV_set hl v j, hp_fv_set (hp_tg κ) k (50 * hp_b κ) ht hv hv']
theorem hp_ce_ne {dA : Nat → ClassId} {β : hp_T} {b : Nat} (h1 : ∀ t φ, hp_v β b t φ = hp_v α b t φ) (h2 : hp_E β = hp_E α ∧ hp_L β = hp_L α ∧ hp_Q β = hp_Q α) : ∀ κ, hp_ce dA β κ b = hp_ce dA α κ b := by
  intro κ
  unfold hp_ce hp_ca hp_cx
  rw [h2.1, h2.2.1, h2.2.2, hp_fv_congr (hp_tg κ) (50 * hp_b κ) (fun t φ _ => h1 t φ)]
theorem q_puti {x : Int32} {φ : Nat} (C : hp_C Γ p m c cc nL s args own) (B : hp_B Γ Iv s α0 α H locs) (hk : hp_K α a = κ) (hF : hp_F own index (hp_b κ) k) (hc : hp_isC κ = true) (ht : (hp_tg κ)[k]? = some 0) (hfin : ((hp_q (hp_b κ)).2.1 k).2.2.2 = false) (hn : narrow (hp_ty (hp_b κ) k) (.int x) = .int x) (hfit : fits (hp_ty (hp_b κ) k) (.int x) = true) (hφ : 50 * hp_b κ + k = φ) (hiv : Iv α0 (hp_sI α φ a x))
    (hdg : decode cc pc = .ok (.putfield index, 3)) (hpc : pc + 3 = pc')
    (kk : ∀ (β : hp_T) (H1 : Heap) (locs1 : List Loc), β = hp_sI α φ a x → hp_B Γ Iv s α0 β H1 locs1 → W p l e R s m args below meth c H1 locs1 cells slots Q (F0 m pc' ls rest)) : W p l e R s m args below meth c H locs cells slots Q (F0 m pc ls (.int x :: .ref a :: rest)) := by
  subst hφ
  refine q_put C B hk hF hc ht hfin hn hfit (α' := hp_sI α (50 * hp_b κ + k) a x) rfl ?_ ?_ (fun b hb => hp_ce_ne (fun t φ => ?_) ⟨rfl, rfl, rfl⟩) hiv hdg hpc (fun H1 locs1 B1 => kk _ H1 locs1 rfl B1)
  · simp [hp_v, hp_I, hp_sI, hp_up]
  · intro t φ h; simp [hp_v, hp_I, hp_R, hp_J, hp_N, hp_sI, hp_up, h]
  · simp [hp_v, hp_I, hp_R, hp_J, hp_N, hp_sI, hp_up, hb]
theorem q_putl {x : Int64} {φ : Nat} (C : hp_C Γ p m c cc nL s args own) (B : hp_B Γ Iv s α0 α H locs) (hk : hp_K α a = κ) (hF : hp_F own index (hp_b κ) k) (hc : hp_isC κ = true) (ht : (hp_tg κ)[k]? = some 2) (hfin : ((hp_q (hp_b κ)).2.1 k).2.2.2 = false) (hn : narrow (hp_ty (hp_b κ) k) (.long x) = .long x) (hfit : fits (hp_ty (hp_b κ) k) (.long x) = true) (hφ : 50 * hp_b κ + k = φ) (hiv : Iv α0 (hp_sJ α φ a x))
    (hdg : decode cc pc = .ok (.putfield index, 3)) (hpc : pc + 3 = pc')
    (kk : ∀ (β : hp_T) (H1 : Heap) (locs1 : List Loc), β = hp_sJ α φ a x → hp_B Γ Iv s α0 β H1 locs1 → W p l e R s m args below meth c H1 locs1 cells slots Q (F0 m pc' ls rest)) : W p l e R s m args below meth c H locs cells slots Q (F0 m pc ls (.long x :: .ref a :: rest)) := by
  subst hφ
  refine q_put C B hk hF hc ht hfin hn hfit (α' := hp_sJ α (50 * hp_b κ + k) a x) rfl ?_ ?_ (fun b hb => hp_ce_ne (fun t φ => ?_) ⟨rfl, rfl, rfl⟩) hiv hdg hpc (fun H1 locs1 B1 => kk _ H1 locs1 rfl B1)
  · simp [hp_v, hp_J, hp_sJ, hp_up]
  · intro t φ h; simp [hp_v, hp_I, hp_R, hp_J, hp_N, hp_sJ, hp_up, h]
  · simp [hp_v, hp_I, hp_R, hp_J, hp_N, hp_sJ, hp_up, hb]
theorem q_putr {x : Nat} {φ : Nat} (C : hp_C Γ p m c cc nL s args own) (B : hp_B Γ Iv s α0 α H locs) (hk : hp_K α a = κ) (hF : hp_F own index (hp_b κ) k) (hc : hp_isC κ = true) (ht : (hp_tg κ)[k]? = some 1) (hfin : ((hp_q (hp_b κ)).2.1 k).2.2.2 = false) (hn : narrow (hp_ty (hp_b κ) k) (.ref x) = .ref x) (hfit : fits (hp_ty (hp_b κ) k) (.ref x) = true) (hφ : 50 * hp_b κ + k = φ) (hiv : Iv α0 (hp_sR α φ a x))
    (hdg : decode cc pc = .ok (.putfield index, 3)) (hpc : pc + 3 = pc')
    (kk : ∀ (β : hp_T) (H1 : Heap) (locs1 : List Loc), β = hp_sR α φ a x → hp_B Γ Iv s α0 β H1 locs1 → W p l e R s m args below meth c H1 locs1 cells slots Q (F0 m pc' ls rest)) : W p l e R s m args below meth c H locs cells slots Q (F0 m pc ls (.ref x :: .ref a :: rest)) := by
  subst hφ
  refine q_put C B hk hF hc ht hfin hn hfit (α' := hp_sR α (50 * hp_b κ + k) a x) rfl ?_ ?_ (fun b hb => hp_ce_ne (fun t φ => ?_) ⟨rfl, rfl, rfl⟩) hiv hdg hpc (fun H1 locs1 B1 => kk _ H1 locs1 rfl B1)
  · simp [hp_v, hp_R, hp_sR, hp_up]
  · intro t φ h; simp [hp_v, hp_I, hp_R, hp_J, hp_N, hp_sR, hp_up, h]
  · simp [hp_v, hp_I, hp_R, hp_J, hp_N, hp_sR, hp_up, hb]
theorem q_putn {x : Nat} {φ : Nat} (C : hp_C Γ p m c cc nL s args own) (B : hp_B Γ Iv s α0 α H locs) (hk : hp_K α a = κ) (hF : hp_F own index (hp_b κ) k) (hc : hp_isC κ = true) (ht : (hp_tg κ)[k]? = some 3) (hfin : ((hp_q (hp_b κ)).2.1 k).2.2.2 = false) (hn : narrow (hp_ty (hp_b κ) k) (.ref x) = .ref x) (hfit : fits (hp_ty (hp_b κ) k) (.ref x) = true) (hφ : 50 * hp_b κ + k = φ) (hiv : Iv α0 (hp_sN α φ a (some x)))
    (hdg : decode cc pc = .ok (.putfield index, 3)) (hpc : pc + 3 = pc')
    (kk : ∀ (β : hp_T) (H1 : Heap) (locs1 : List Loc), β = hp_sN α φ a (some x) → hp_B Γ Iv s α0 β H1 locs1 → W p l e R s m args below meth c H1 locs1 cells slots Q (F0 m pc' ls rest)) : W p l e R s m args below meth c H locs cells slots Q (F0 m pc ls (.ref x :: .ref a :: rest)) := by
  subst hφ
  refine q_put C B hk hF hc ht hfin hn hfit (α' := hp_sN α (50 * hp_b κ + k) a (some x)) rfl ?_ ?_ (fun b hb => hp_ce_ne (fun t φ => ?_) ⟨rfl, rfl, rfl⟩) hiv hdg hpc (fun H1 locs1 B1 => kk _ H1 locs1 rfl B1)
  · simp [hp_v, hp_N, hp_sN, hp_up, va_rf]
  · intro t φ h; simp [hp_v, hp_I, hp_R, hp_J, hp_N, hp_sN, hp_up, h]
  · simp [hp_v, hp_I, hp_R, hp_J, hp_N, hp_sN, hp_up, hb]
end HPR
end JN2_0
section JN2_1
/-! ===== rows of arrays, calls, ends over the picture ===== -/
theorem hp_n {p : Program} {l : Launch} {e : Env} {R : Room} {s : State} {m : MethodId} {args : Array Value} {below : List Frame} {meth : Method} {c : Code} {H : Heap} {locs : List Loc} {cells slots : Nat} {Q : State → Prop} {ls : Array Slot} {rest : List Value} {pc n : Nat} (h : pc = n) (k : W p l e R s m args below meth c H locs cells slots Q (F0 m n ls rest)) : W p l e R s m args below meth c H locs cells slots Q (F0 m pc ls rest) := h ▸ k
theorem hp_ce_neE {dA : Nat → ClassId} {α β : hp_T} {b : Nat} (h1 : ∀ t φ, hp_v β b t φ = hp_v α b t φ) (h2 : ∀ κ, hp_E β κ b = hp_E α κ b ∧ hp_L β κ b = hp_L α κ b ∧ hp_Q β κ b = hp_Q α κ b) : ∀ κ, hp_ce dA β κ b = hp_ce dA α κ b := by
  intro κ
  unfold hp_ce hp_ca hp_cx
  rw [(h2 κ).1, (h2 κ).2.1, (h2 κ).2.2, hp_fv_congr (hp_tg κ) (50 * hp_b κ) (fun t φ _ => h1 t φ)]
theorem hp_sE_at {α : hp_T} {κ a j : Nat} {x : Int32} : hp_E (hp_sE α κ a j x) κ a = upd (hp_E α κ a) j x := by
  funext i
  by_cases h : i = j
  · subst h; simp [hp_E, hp_sE, hp_uq, upd]
  · simp [hp_E, hp_sE, hp_uq, upd, h]
theorem hp_sE_ne {α : hp_T} {κ a j b κ' : Nat} {x : Int32} (h : b ≠ a) : hp_E (hp_sE α κ a j x) κ' b = hp_E α κ' b := by
  funext i
  simp [hp_E, hp_sE, hp_uq, h]
section HPA
variable {p : Program} {l : Launch} {e : Env} {R : Room} {s : State} {m : MethodId} {args : Array Value} {below : List Frame} {meth : Method} {c : Code} {H : Heap} {locs : List Loc} {cells slots : Nat} {Q : State → Prop} {cc : ByteArray} {nL : Nat} {own : String} {Γ : hp_G} {α0 α α' : hp_T} {Iv : hp_T → hp_T → Prop} {pc pc' : Nat} {ls : Array Slot} {rest : List Value} {a κ k t index n : Nat} {v : Value} {i x : Int32}
theorem q_ial (C : hp_C Γ p m c cc nL s args own) (B : hp_B Γ Iv s α0 α H locs) (hk : hp_K α a = κ) (hc : 20 ≤ κ ∧ κ < 60) (hn : hp_ar κ = (0, n)) (hin : vp_in i n) (hdg : decode cc pc = .ok (.iaload, 1)) (hpc : pc + 1 = pc')
    (kk : W p l e R s m args below meth c H locs cells slots Q (F0 m pc' ls (.int (hp_E α κ a i.toNatClampNeg) :: rest))) : W p l e R s m args below meth c H locs cells slots Q (F0 m pc ls (.int i :: .ref a :: rest)) := by
  subst hpc
  exact va_iald C.1.1 C.1.2.1 C.2.1 (hp_P1 (B.ar hk hc hn).2) 0 0 rfl rfl hin hdg kk
theorem q_bal (C : hp_C Γ p m c cc nL s args own) (B : hp_B Γ Iv s α0 α H locs) (hk : hp_K α a = κ) (hc : 20 ≤ κ ∧ κ < 60) (hn : hp_ar κ = (1, n)) (hin : vp_in i n) (hdg : decode cc pc = .ok (.baload, 1)) (hpc : pc + 1 = pc')
    (kk : W p l e R s m args below meth c H locs cells slots Q (F0 m pc' ls (.int (hp_E α κ a i.toNatClampNeg) :: rest))) : W p l e R s m args below meth c H locs cells slots Q (F0 m pc ls (.int i :: .ref a :: rest)) := by
  subst hpc
  exact va_bald C.1.1 C.1.2.1 C.2.1 (hp_P1 (B.ar hk hc hn).2) 0 1 rfl rfl hin hdg kk
theorem q_zal (C : hp_C Γ p m c cc nL s args own) (B : hp_B Γ Iv s α0 α H locs) (hk : hp_K α a = κ) (hc : 20 ≤ κ ∧ κ < 60) (hn : hp_ar κ = (2, n)) (hin : vp_in i n) (hdg : decode cc pc = .ok (.baload, 1)) (hpc : pc + 1 = pc')
    (kk : W p l e R s m args below meth c H locs cells slots Q (F0 m pc' ls (.int (hp_E α κ a i.toNatClampNeg) :: rest))) : W p l e R s m args below meth c H locs cells slots Q (F0 m pc ls (.int i :: .ref a :: rest)) := by
  subst hpc
  exact va_zald C.1.1 C.1.2.1 C.2.1 (hp_P1 (B.ar hk hc hn).2) 0 2 rfl rfl hin hdg kk
theorem q_lal (C : hp_C Γ p m c cc nL s args own) (B : hp_B Γ Iv s α0 α H locs) (hk : hp_K α a = κ) (hc : 20 ≤ κ ∧ κ < 60) (hn : hp_ar κ = (3, n)) (hin : vp_in i n) (hdg : decode cc pc = .ok (.laload, 1)) (hpc : pc + 1 = pc')
    (kk : W p l e R s m args below meth c H locs cells slots Q (F0 m pc' ls (.long (hp_L α κ a i.toNatClampNeg) :: rest))) : W p l e R s m args below meth c H locs cells slots Q (F0 m pc ls (.int i :: .ref a :: rest)) := by
  subst hpc
  exact va_lald C.1.1 C.1.2.1 C.2.1 (hp_P1 (B.ar hk hc hn).2) 0 3 rfl rfl hin hdg kk
theorem q_aal {C0 : String} (C : hp_C Γ p m c cc nL s args own) (B : hp_B Γ Iv s α0 α H locs) (hk : hp_K α a = κ) (hc : 20 ≤ κ ∧ κ < 60) (hn : hp_ar κ = (t, n)) (ht : (hp_tys Γ.2.2.2.1)[t]? = some (Γ.2.2.2.1 t, .object C0)) (ht3 : 4 ≤ t) (hin : vp_in i n) (hdg : decode cc pc = .ok (.aaload, 1)) (hpc : pc + 1 = pc')
    (kk : W p l e R s m args below meth c H locs cells slots Q (F0 m pc' ls (va_rf (hp_Q α κ a i.toNatClampNeg) :: rest))) : W p l e R s m args below meth c H locs cells slots Q (F0 m pc ls (.int i :: .ref a :: rest)) := by
  subst hpc
  have h := (B.ar hk hc hn).2
  rw [show hp_cx α κ a t = .inr (.inr (.inr (.inr (hp_Q α κ a)))) by unfold hp_cx; rw [if_neg (by omega), if_neg (by omega)]] at h
  exact va_aldq C.1.1 C.1.2.1 C.2.1 (hp_P1 h) 0 t rfl ht hin hdg kk
theorem q_alen {x : Int32} {ty : FieldType} (C : hp_C Γ p m c cc nL s args own) (B : hp_B Γ Iv s α0 α H locs) (hk : hp_K α a = κ) (hc : 20 ≤ κ ∧ κ < 60) (hn : hp_ar κ = (t, n)) (ht : (hp_tys Γ.2.2.2.1)[t]? = some (Γ.2.2.2.1 t, ty)) (hx : Int32.ofNat n = x) (hdg : decode cc pc = .ok (.arraylength, 1)) (hpc : pc + 1 = pc')
    (kk : W p l e R s m args below meth c H locs cells slots Q (F0 m pc' ls (.int x :: rest))) : W p l e R s m args below meth c H locs cells slots Q (F0 m pc ls (.ref a :: rest)) := by
  subst hpc
  exact va_alen C.1.1 C.1.2.1 C.2.1 (hp_P1 (B.ar hk hc hn).2) 0 t rfl ht hx hdg kk
theorem hp_sE_rep {H1 : Heap} {t : Nat} (B : hp_B Γ Iv s α0 α H locs) (hk : hp_K α a = κ) (hc : 20 ≤ κ ∧ κ < 60) (hn : hp_ar κ = (t, n)) (ht : t < 3) {j : Nat} (e : H1[a]? = some ((vp_cell (Γ.2.2.2.1 t) (n, .inl (hp_E α κ a))).setSlot j (.int x))) (z : H1.size = H.size) (oq : ∀ q : Nat, q ≠ a → H1[q]? = H[q]?) (hiv : Iv α0 (hp_sE α κ a j x)) : hp_B Γ Iv s α0 (hp_sE α κ a j x) H1 (locs ++ [⟨a, j⟩]) := by
  have hbase := (B.ar hk hc hn).1
  refine ⟨B.1.upd z oq (by rw [hk]; omega) ?_ rfl (fun b hb => hp_ce_neE (fun t φ => rfl) (fun κ' => ⟨hp_sE_ne hb, rfl, rfl⟩)), B.2.1.put z oq hbase, hiv⟩
  rw [hk, hp_ce_a hc hn]
  show H1[a]? = some (vp_cell _ _)
  rw [e]
  rw [show hp_cx (hp_sE α κ a j x) κ a t = .inl (hp_E (hp_sE α κ a j x) κ a) by unfold hp_cx; rw [if_pos ht], hp_sE_at, vp_cell_i, vp_cell_i, arrV_store]
  congr 2
  funext q
  by_cases hq : q = j
  · subst hq
    simp [updV, upd]
  · simp [updV, upd, hq]
theorem q_ias {j : Nat} (C : hp_C Γ p m c cc nL s args own) (B : hp_B Γ Iv s α0 α H locs) (hk : hp_K α a = κ) (hc : 20 ≤ κ ∧ κ < 60) (hn : hp_ar κ = (0, n)) (hin : vp_in i n) (hj : i.toNatClampNeg = j) (hiv : Iv α0 (hp_sE α κ a j x)) (hdg : decode cc pc = .ok (.iastore, 1)) (hpc : pc + 1 = pc')
    (kk : ∀ (β : hp_T) (H1 : Heap) (locs1 : List Loc), β = hp_sE α κ a j x → hp_B Γ Iv s α0 β H1 locs1 → W p l e R s m args below meth c H1 locs1 cells slots Q (F0 m pc' ls rest)) : W p l e R s m args below meth c H locs cells slots Q (F0 m pc ls (.int x :: .int i :: .ref a :: rest)) := by
  subst hpc; subst hj
  have hat := (B.ar hk hc hn).2
  refine W.iast C.1.1 C.1.2.1 hat ((C.2.1.2 0 _ rfl).1 n (fun j => .int (hp_E α κ a j))) (fun q => by cases q) (by show ¬ (i < 0 ∨ (arrV _ _ _).slots.size ≤ _); rw [arrV_size]; exact hin) rfl rfl hdg fun H1 e z oq => ?_
  exact kk _ H1 _ rfl (hp_sE_rep B hk hc hn (by omega) e z oq hiv)
theorem q_bas {j : Nat} {y : Int32} (C : hp_C Γ p m c cc nL s args own) (B : hp_B Γ Iv s α0 α H locs) (hk : hp_K α a = κ) (hc : 20 ≤ κ ∧ κ < 60) (hn : hp_ar κ = (1, n)) (hin : vp_in i n) (hj : i.toNatClampNeg = j) (hy : narrow .byte (.int x) = .int y) (hiv : Iv α0 (hp_sE α κ a j y)) (hdg : decode cc pc = .ok (.bastore, 1)) (hpc : pc + 1 = pc')
    (kk : ∀ (β : hp_T) (H1 : Heap) (locs1 : List Loc), β = hp_sE α κ a j y → hp_B Γ Iv s α0 β H1 locs1 → W p l e R s m args below meth c H1 locs1 cells slots Q (F0 m pc' ls rest)) : W p l e R s m args below meth c H locs cells slots Q (F0 m pc ls (.int x :: .int i :: .ref a :: rest)) := by
  subst hpc; subst hj
  have hat := (B.ar hk hc hn).2
  refine W.bast C.1.1 C.1.2.1 hat ((C.2.1.2 1 _ rfl).1 n (fun j => .int (hp_E α κ a j))) (fun q => by cases q) (by show ¬ (i < 0 ∨ (arrV _ _ _).slots.size ≤ _); rw [arrV_size]; exact hin) rfl rfl hdg fun H1 e z oq => ?_
  rw [hy] at e
  exact kk _ H1 _ rfl (hp_sE_rep B hk hc hn (by omega) e z oq hiv)
theorem q_zas {j : Nat} {y : Int32} (C : hp_C Γ p m c cc nL s args own) (B : hp_B Γ Iv s α0 α H locs) (hk : hp_K α a = κ) (hc : 20 ≤ κ ∧ κ < 60) (hn : hp_ar κ = (2, n)) (hin : vp_in i n) (hj : i.toNatClampNeg = j) (hy : narrow .boolean (.int x) = .int y) (hiv : Iv α0 (hp_sE α κ a j y)) (hdg : decode cc pc = .ok (.bastore, 1)) (hpc : pc + 1 = pc')
    (kk : ∀ (β : hp_T) (H1 : Heap) (locs1 : List Loc), β = hp_sE α κ a j y → hp_B Γ Iv s α0 β H1 locs1 → W p l e R s m args below meth c H1 locs1 cells slots Q (F0 m pc' ls rest)) : W p l e R s m args below meth c H locs cells slots Q (F0 m pc ls (.int x :: .int i :: .ref a :: rest)) := by
  subst hpc; subst hj
  have hat := (B.ar hk hc hn).2
  refine W.zast C.1.1 C.1.2.1 hat ((C.2.1.2 2 _ rfl).1 n (fun j => .int (hp_E α κ a j))) (fun q => by cases q) (by show ¬ (i < 0 ∨ (arrV _ _ _).slots.size ≤ _); rw [arrV_size]; exact hin) rfl rfl hdg fun H1 e z oq => ?_
  rw [hy] at e
  exact kk _ H1 _ rfl (hp_sE_rep B hk hc hn (by omega) e z oq hiv)
end HPA
/-! calls -/
def hp_rm (d mc ms : Nat) : Room := { frames := d, cells := mc, slots := ms, locals := 45 * d }
def hp_Pc (Γ : hp_G) (α : hp_T) (av : List Value) : Array Value → State → Prop := va_Pc av (fun U => hp_Rep Γ α U.heap ∧ hp_KK Γ U)
def hp_Qi (Γ : hp_G) (post : Int32 → hp_T → Prop) : Array Value → State → Outcome → State → Prop := va_Qi post (fun β t => hp_Rep Γ β t.heap) (hp_A Γ)
def hp_Qv (Γ : hp_G) (post : hp_T → Prop) : Array Value → State → Outcome → State → Prop := va_Qv post (fun β t => hp_Rep Γ β t.heap) (hp_A Γ)
def hp_Ql (Γ : hp_G) (post : Int64 → hp_T → Prop) : Array Value → State → Outcome → State → Prop := va_Ql post (fun β t => hp_Rep Γ β t.heap) (hp_A Γ)
def hp_Qq (Γ : hp_G) (post : Option Nat → hp_T → Prop) : Array Value → State → Outcome → State → Prop := va_Qq post (fun β t => hp_Rep Γ β t.heap) (hp_A Γ)
theorem hp_TX.warm {Γ : hp_G} {s U : State} (hW : s.WarmedH U.vm) (h : hp_TX Γ s) : hp_TX Γ U := ⟨fun q hq => vk_R.warm hW (h.1 q hq), vk_S.moved hW.alike h.2.1, va_Z.moved hW.alike h.2.2.1, va_Zq.moved hW.alike h.2.2.2⟩
theorem hp_TX.same {Γ : hp_G} {s U : State} (hv : U.vm = s.vm) (h : hp_TX Γ s) : hp_TX Γ U := by
  have ha : s.vm.Alike U.vm := by rw [hv]; exact Vm.Alike.refl _
  exact ⟨fun q hq => vk_R.same hv (h.1 q hq), vk_S.moved ha h.2.1, va_Z.moved ha h.2.2.1, va_Zq.moved ha h.2.2.2⟩
theorem hp_Nw.warm {w : Cond} {s U : State} (hn : hp_isN w = true) (hW : s.WarmedH U.vm) (h : va_Nw w s) : va_Nw w U := by
  cases w with
  | methodLinkNest a b c d => exact va_Nw.warmM hW h
  | arrayOver ty =>
    cases ty with
    | object C => exact va_AO.moved hW.alike h
    | _ => cases hn
  | _ => cases hn
theorem hp_Nw.same {w : Cond} {s U : State} (hn : hp_isN w = true) (hv : U.vm = s.vm) (h : va_Nw w s) : va_Nw w U := by
  cases w with
  | methodLinkNest a b c d => exact va_Nw.same rfl hv.symm h
  | arrayOver ty =>
    cases ty with
    | object C => exact va_AO.moved (by rw [hv]; exact Vm.Alike.refl _) h
    | _ => cases hn
  | _ => cases hn
theorem hp_KK.warm {Γ : hp_G} {s U : State} (hW : s.WarmedH U.vm) (h : hp_KK Γ s) : hp_KK Γ U :=
  ⟨va_K.moved hW.alike h.1, fun w hw => hp_Nw.warm (List.mem_filter.mp hw).2 hW (h.2.1 w hw), h.2.2.warm hW⟩
theorem hp_blind (Γ : hp_G) (α : hp_T) (av : List Value) : FrameBlind (hp_Pc Γ α av) := fun a U g mk q => by
  obtain ⟨q0, qR, qK, qN, qT⟩ := q
  exact ⟨q0, qR, va_K.moved (u := U) (U := U.calling g mk a) (Vm.Alike.refl U.vm) qK, fun w hw => hp_Nw.same (s := U) (U := U.calling g mk a) (List.mem_filter.mp hw).2 rfl (qN w hw), hp_TX.same (s := U) (U := U.calling g mk a) rfl qT⟩
/-- what a method's own tables say -/
def hp_LB (y : MethodName) (bytes : ByteArray) (maxL : Nat) (ret : Option FieldType) (n : Nat) : Prop := Cond.code y bytes maxL ret ∈ lw_u ∧ Cond.initialized y.cls ∈ lw_u ∧ maxL ≤ 26 ∧ (y.cls ≠ "java/lang/invoke/MethodHandle" ∧ y.cls ≠ "java/lang/invoke/VarHandle" ∧ (parseMethodDescriptor y.desc).map (fun d => d.parameters.length) = some n)
def hp_LV (y : MethodName) (κ : Nat) : Prop := Cond.instanceMethod y ∈ lw_u ∧ Cond.selects y.cls y y ∈ lw_u ∧ (hp_q (hp_b κ)).1 = y.cls ∧ vwCl[hp_b κ - 1]? = some (hp_q (hp_b κ)) ∧ hp_isC κ = true
/-- a call's link: ordinary or among nest mates -/
def hp_LK (own : String) (index : Nat) (y : MethodName) : Prop := Cond.methodLink own index y ∈ lw_u ∨ ∃ host, Cond.methodLinkNest own index y host ∈ hp_nest
section HPC
variable {p : Program} {l : Launch} {e : Env} {s : State} {m : MethodId} {args : Array Value} {below : List Frame} {meth : Method} {c : Code} {H : Heap} {locs : List Loc} {cells slots : Nat} {Q : State → Prop} {cc bytes : ByteArray} {nL maxL : Nat} {ret : Option FieldType} {own : String} {Γ : hp_G} {α0 α α' : hp_T} {Iv : hp_T → hp_T → Prop} {pc pc' : Nat} {ls : Array Slot} {st rest : List Value} {b κ k t index n d d' mc ms mc' ms' : Nat} {y : MethodName} {As : List Value} {R : Room}
theorem hp_runV {Qc : Array Value → State → Outcome → State → Prop} (C : hp_C Γ p m c cc nL s args own) (B : hp_B Γ Iv s α0 α H locs) (hM : Met l y (hp_ws y bytes maxL ret) (hp_rm d' mc ms) (hp_Pc Γ α (.ref b :: As)) Qc mc ms (hp_A Γ)) (hB : hp_LB y bytes maxL ret n) (hV : hp_LV y κ) (hL : hp_LK own index y) (hk : hp_K α b = κ) (hR : R = hp_rm d mc' ms') (hd : d' < d) (hlen : As.length = n) (hsz : ls.size = nL) (hst : st = As.reverse ++ .ref b :: rest) (hcat : (rest.map fun v => v.category).sum ≤ 8) (hdg : decode cc pc = .ok (.invokevirtual index, 3)) (hf : cells + mc ≤ mc' ∧ slots + ms ≤ ms') :
    va_Run p l e R s m args below meth c H locs cells slots mc ms (F0 m pc ls st) rest (Qc (Value.ref b :: As).toArray) (hp_A Γ) := by
  obtain ⟨h1, h2, h3, h4⟩ := hB
  obtain ⟨v1, v2, v3, v4, v5⟩ := hV
  have hts := C.1.2.2.2.2
  have hrecv : ∃ cellB : Cell, H[b]? = some cellB ∧ cellB.vm.isStatics = false ∧ s.vm.findClass y.cls = some cellB.cls := by
    rw [← v3]
    exact va_recv C.2.1 (hp_P1 (B.at hk v5).2) v4 (q0 := 0) rfl
  have hp : PreV s H y.cls b (hp_Pc Γ α (.ref b :: As)) As := ⟨hp_blind Γ α _, hrecv, fun U hU hW => ⟨rfl, by rw [hU]; exact B.1, C.2.warm hW⟩⟩
  have hRR : (hp_rm d' mc ms).frames + 1 ≤ R.frames ∧ 8 + (maxL + 11) + (hp_rm d' mc ms).locals ≤ R.locals := by
    rw [hR]; show d' + 1 ≤ d ∧ 8 + (maxL + 11) + 45 * d' ≤ 45 * d; omega
  have hff : cells + mc ≤ R.cells ∧ slots + ms ≤ R.slots := by rw [hR]; exact hf
  rcases hL with hL | ⟨host, hL⟩
  · exact va_runV (As := As) (rest := rest) (n := n) (C := y.cls) C.1 hM ⟨callB_of n hts (hp_gs h1) rfl rfl rfl (hts _ h2) (hts _ hL) h4 hRR, hts _ v1, hts _ v2⟩ hp rfl hlen hsz hst (lv_room (m := m) (pc := pc) (ls := ls) (rest := st) hcat) hdg hff
  · exact va_runVN (As := As) (rest := rest) (n := n) (C := y.cls) C.1 hM ⟨va_cnB n hts (hp_gs h1) rfl rfl rfl (C.2.2.1 _ hL) (hts _ h2) h4 hRR, hts _ v1, hts _ v2⟩ hp rfl hlen hsz hst (lv_room (m := m) (pc := pc) (ls := ls) (rest := st) hcat) hdg hff
theorem hp_runS {Qc : Array Value → State → Outcome → State → Prop} (C : hp_C Γ p m c cc nL s args own) (B : hp_B Γ Iv s α0 α H locs) (hM : Met l y (hp_ws y bytes maxL ret) (hp_rm d' mc ms) (hp_Pc Γ α As) Qc mc ms (hp_A Γ)) (hB : hp_LB y bytes maxL ret n) (hV : Cond.static y ∈ lw_u) (hL : hp_LK own index y) (hR : R = hp_rm d mc' ms') (hd : d' < d) (hlen : As.length = n) (hsz : ls.size = nL) (hst : st = As.reverse ++ rest) (hcat : (rest.map fun v => v.category).sum ≤ 8) (hdg : decode cc pc = .ok (.invokestatic index, 3)) (hf : cells + mc ≤ mc' ∧ slots + ms ≤ ms') :
    va_Run p l e R s m args below meth c H locs cells slots mc ms (F0 m pc ls st) rest (Qc As.toArray) (hp_A Γ) := by
  obtain ⟨h1, h2, h3, h4⟩ := hB
  have hts := C.1.2.2.2.2
  have hp : PreS s H (hp_Pc Γ α As) As := ⟨hp_blind Γ α _, fun U hU hW => ⟨rfl, by rw [hU]; exact B.1, C.2.warm hW⟩⟩
  have hRR : (hp_rm d' mc ms).frames + 1 ≤ R.frames ∧ 8 + (maxL + 11) + (hp_rm d' mc ms).locals ≤ R.locals := by
    rw [hR]; show d' + 1 ≤ d ∧ 8 + (maxL + 11) + 45 * d' ≤ 45 * d; omega
  have hff : cells + mc ≤ R.cells ∧ slots + ms ≤ R.slots := by rw [hR]; exact hf
  rcases hL with hL | ⟨host, hL⟩
  · exact va_runS (As := As) (rest := rest) (n := n) C.1 hM ⟨callB_of n hts (hp_gs h1) rfl rfl rfl (hts _ h2) (hts _ hL) h4 hRR, hts _ hV⟩ hp rfl hlen hsz hst (lv_room (m := m) (pc := pc) (ls := ls) (rest := st) hcat) hdg hff
  · exact va_runSN (As := As) (rest := rest) (n := n) C.1 hM ⟨va_cnB n hts (hp_gs h1) rfl rfl rfl (C.2.2.1 _ hL) (hts _ h2) h4 hRR, hts _ hV, trivial⟩ hp rfl hlen hsz hst (lv_room (m := m) (pc := pc) (ls := ls) (rest := st) hcat) hdg hff
variable {a : Array Value}
theorem q_ci {post : Int32 → hp_T → Prop} (B : hp_B Γ Iv s α0 α H locs) (hr : va_Run p l e R s m args below meth c H locs cells slots mc ms (F0 m pc ls st) rest (hp_Qi Γ post a) (hp_A Γ)) (hi : ∀ r β, post r β → Iv α0 β) (hpc : pc + 3 = pc')
    (kk : ∀ (r : Int32) (β : hp_T) (H1 : Heap) (locs1 : List Loc), post r β → hp_B Γ Iv s α0 β H1 locs1 → W p l e R s m args below meth c H1 locs1 (cells + mc) (slots + ms) Q (F0 m pc' ls (.int r :: rest))) : W p l e R s m args below meth c H locs cells slots Q (F0 m pc ls st) := by
  subst hpc
  exact va_calli hr B.2.1 (fun _ _ h => h) (fun _ h => h) (fun r u t H1 locs1 ht _ hw hB _ _ hS => kk r u H1 locs1 hw ⟨by rw [← ht]; exact hB, hS, hi r u hw⟩)
theorem q_cv {post : hp_T → Prop} (B : hp_B Γ Iv s α0 α H locs) (hr : va_Run p l e R s m args below meth c H locs cells slots mc ms (F0 m pc ls st) rest (hp_Qv Γ post a) (hp_A Γ)) (hi : ∀ β, post β → Iv α0 β) (hpc : pc + 3 = pc')
    (kk : ∀ (β : hp_T) (H1 : Heap) (locs1 : List Loc), post β → hp_B Γ Iv s α0 β H1 locs1 → W p l e R s m args below meth c H1 locs1 (cells + mc) (slots + ms) Q (F0 m pc' ls rest)) : W p l e R s m args below meth c H locs cells slots Q (F0 m pc ls st) := by
  subst hpc
  exact va_callv hr B.2.1 (fun _ _ h => h) (fun _ h => h) (fun u t H1 locs1 ht _ hw hB _ _ hS => kk u H1 locs1 hw ⟨by rw [← ht]; exact hB, hS, hi u hw⟩)
theorem q_cl {post : Int64 → hp_T → Prop} (B : hp_B Γ Iv s α0 α H locs) (hr : va_Run p l e R s m args below meth c H locs cells slots mc ms (F0 m pc ls st) rest (hp_Ql Γ post a) (hp_A Γ)) (hi : ∀ r β, post r β → Iv α0 β) (hpc : pc + 3 = pc')
    (kk : ∀ (r : Int64) (β : hp_T) (H1 : Heap) (locs1 : List Loc), post r β → hp_B Γ Iv s α0 β H1 locs1 → W p l e R s m args below meth c H1 locs1 (cells + mc) (slots + ms) Q (F0 m pc' ls (.long r :: rest))) : W p l e R s m args below meth c H locs cells slots Q (F0 m pc ls st) := by
  subst hpc
  exact va_calll hr B.2.1 (fun _ _ h => h) (fun _ h => h) (fun r u t H1 locs1 ht _ hw hB _ _ hS => kk r u H1 locs1 hw ⟨by rw [← ht]; exact hB, hS, hi r u hw⟩)
theorem q_cq {post : Option Nat → hp_T → Prop} (B : hp_B Γ Iv s α0 α H locs) (hr : va_Run p l e R s m args below meth c H locs cells slots mc ms (F0 m pc ls st) rest (hp_Qq Γ post a) (hp_A Γ)) (hi : ∀ r β, post r β → Iv α0 β) (hpc : pc + 3 = pc')
    (kk : ∀ (r : Option Nat) (β : hp_T) (H1 : Heap) (locs1 : List Loc), post r β → hp_B Γ Iv s α0 β H1 locs1 → W p l e R s m args below meth c H1 locs1 (cells + mc) (slots + ms) Q (F0 m pc' ls (va_rf r :: rest))) : W p l e R s m args below meth c H locs cells slots Q (F0 m pc ls st) := by
  subst hpc
  exact va_callq hr B.2.1 (fun _ _ h => h) (fun _ h => h) (fun r u t H1 locs1 ht _ hw hB _ _ hS => kk r u H1 locs1 hw ⟨by rw [← ht]; exact hB, hS, hi r u hw⟩)
/-! ends -/
theorem q_iret {post : Int32 → hp_T → Prop} {x : Int32} (C : hp_C Γ p m c cc nL s args own) (B : hp_B Γ Iv s α0 α H locs) (hr : meth.sig.returnType = some .int) (hl : meth.locks = false) (hp : post x α) (hdg : decode cc pc = .ok (.ireturn, 1)) : W p l e R s m args below meth c H locs cells slots (MQ below (hp_Qi Γ post) args s cells slots (hp_A Γ)) (F0 m pc ls [.int x]) :=
  W.iret C.1.1 C.1.2.1 hr (fun _ ht _ => ⟨⟨x, α, rfl, hp, by dsimp only; rw [ht]; exact B.1⟩, B.2.1.F ht⟩) B.2.1.2.2 hdg hl
theorem q_zret {post : Int32 → hp_T → Prop} {x : Int32} {ty : FieldType} (C : hp_C Γ p m c cc nL s args own) (B : hp_B Γ Iv s α0 α H locs) (hr : meth.sig.returnType = some ty) (hl : meth.locks = false) (hn : narrow ty (.int x) = .int x) (hp : post x α) (hdg : decode cc pc = .ok (.ireturn, 1)) : W p l e R s m args below meth c H locs cells slots (MQ below (hp_Qi Γ post) args s cells slots (hp_A Γ)) (F0 m pc ls [.int x]) :=
  W.zret C.1.1 C.1.2.1 hr hn (fun _ ht _ => ⟨⟨x, α, rfl, hp, by dsimp only; rw [ht]; exact B.1⟩, B.2.1.F ht⟩) B.2.1.2.2 hdg hl
theorem q_vret {post : hp_T → Prop} (C : hp_C Γ p m c cc nL s args own) (B : hp_B Γ Iv s α0 α H locs) (hr : meth.sig.returnType = none) (hl : meth.locks = false) (hp : post α) (hdg : decode cc pc = .ok (.return_, 1)) : W p l e R s m args below meth c H locs cells slots (MQ below (hp_Qv Γ post) args s cells slots (hp_A Γ)) (F0 m pc ls []) :=
  W.vret C.1.1 C.1.2.1 hr (fun _ ht _ => ⟨⟨α, rfl, hp, by dsimp only; rw [ht]; exact B.1⟩, B.2.1.F ht⟩) B.2.1.2.2 hdg hl
theorem q_lret {post : Int64 → hp_T → Prop} {x : Int64} (C : hp_C Γ p m c cc nL s args own) (B : hp_B Γ Iv s α0 α H locs) (hr : meth.sig.returnType = some .long) (hl : meth.locks = false) (hp : post x α) (hdg : decode cc pc = .ok (.lreturn, 1)) : W p l e R s m args below meth c H locs cells slots (MQ below (hp_Ql Γ post) args s cells slots (hp_A Γ)) (F0 m pc ls [.long x]) :=
  W.lret C.1.1 C.1.2.1 hr (fun _ ht _ => ⟨⟨x, α, rfl, hp, by dsimp only; rw [ht]; exact B.1⟩, B.2.1.F ht⟩) B.2.1.2.2 hdg hl
theorem q_aret {post : Option Nat → hp_T → Prop} {x : Option Nat} {C0 : String} (C : hp_C Γ p m c cc nL s args own) (B : hp_B Γ Iv s α0 α H locs) (hr : meth.sig.returnType = some (.object C0)) (hl : meth.locks = false) (hp : post x α) (hdg : decode cc pc = .ok (.areturn, 1)) : W p l e R s m args below meth c H locs cells slots (MQ below (hp_Qq Γ post) args s cells slots (hp_A Γ)) (F0 m pc ls [va_rf x]) :=
  W.aret C.1.1 C.1.2.1 hr (Or.inl ⟨_, rfl⟩) (by cases x <;> simp [va_rf]) (fun _ ht _ => ⟨⟨x, α, rfl, hp, by dsimp only; rw [ht]; exact B.1⟩, B.2.1.F ht⟩) B.2.1.2.2 hdg hl
/-- a method's start -/
theorem hp_start {Qc : Array Value → State → Outcome → State → Prop} {av : List Value} (hy : plainName y.cls = true)
    (body : ∀ p e s m below meth c, hp_C Γ p m c bytes maxL s av.toArray y.cls → meth.sig.returnType = ret → meth.locks = false → hp_B Γ (fun _ _ => True) s α α s.heap [] → meth.name = y.name →
      W p l e (hp_rm d mc ms) s m av.toArray below meth c s.heap [] 0 0 (MQ below Qc av.toArray s mc ms (hp_A Γ)) (entryFrame m av.toArray maxL)) : Met l y (hp_ws y bytes maxL ret) (hp_rm d mc ms) (hp_Pc Γ α av) Qc mc ms (hp_A Γ) := by
  refine Met.ofW (cc := bytes) (maxL := maxL) (ret := ret) hy rfl ?_
  intro p e s m args below meth c s₁ B hml hv
  obtain ⟨rfl, hR, hK⟩ := hv
  have hts := atoms_spec (ws := hp_ws y bytes maxL ret) B.pre
  exact body p e s m below meth c ⟨⟨B.exec, B.bytes, hml, findClass_of_methodNamed B.named, fun w hw => hts w (List.mem_cons_of_mem _ hw)⟩, hK⟩ B.returns B.notSynchronized ⟨hR, va_S.rf, trivial⟩ (name_of_methodNamed B.named B.method).1
end HPC
end JN2_1
section JN2_2
theorem tb_0 {w : Cond} (h : w ∈ k2_sels lw_privs) : w ∈ lw_tbl := List.mem_append_left _ h
set_option maxRecDepth 100000 in
noncomputable def td_0_1 : { l : List Cond // List.drop 16 (k2_sels lw_privs) = l } := by
  constructor
  conv => lhs; whnf
theorem tm_0_1 {w : Cond} (h : w ∈ td_0_1.1) : w ∈ lw_tbl := tb_0 (tmd 16 _ (by rw [td_0_1.2]; exact h))
set_option maxRecDepth 100000 in
noncomputable def td_0_2 : { l : List Cond // List.drop 16 (td_0_1.1) = l } := by
  constructor
  conv => lhs; whnf
theorem tm_0_2 {w : Cond} (h : w ∈ td_0_2.1) : w ∈ lw_tbl := tm_0_1 (tmd 16 _ (by rw [td_0_2.2]; exact h))
set_option maxRecDepth 100000 in
noncomputable def td_0_3 : { l : List Cond // List.drop 16 (td_0_2.1) = l } := by
  constructor
  conv => lhs; whnf
theorem tm_0_3 {w : Cond} (h : w ∈ td_0_3.1) : w ∈ lw_tbl := tm_0_2 (tmd 16 _ (by rw [td_0_3.2]; exact h))
set_option maxRecDepth 100000 in
noncomputable def td_0_4 : { l : List Cond // List.drop 16 (td_0_3.1) = l } := by
  constructor
  conv => lhs; whnf
theorem tm_0_4 {w : Cond} (h : w ∈ td_0_4.1) : w ∈ lw_tbl := tm_0_3 (tmd 16 _ (by rw [td_0_4.2]; exact h))
set_option maxRecDepth 100000 in
noncomputable def td_0_5 : { l : List Cond // List.drop 16 (td_0_4.1) = l } := by
  constructor
  conv => lhs; whnf
theorem tm_0_5 {w : Cond} (h : w ∈ td_0_5.1) : w ∈ lw_tbl := tm_0_4 (tmd 16 _ (by rw [td_0_5.2]; exact h))
set_option maxRecDepth 100000 in
noncomputable def td_0_6 : { l : List Cond // List.drop 16 (td_0_5.1) = l } := by
  constructor
  conv => lhs; whnf
theorem tm_0_6 {w : Cond} (h : w ∈ td_0_6.1) : w ∈ lw_tbl := tm_0_5 (tmd 16 _ (by rw [td_0_6.2]; exact h))
theorem tb_1 {w : Cond} (h : w ∈ tables_1_1) : w ∈ lw_tbl := List.mem_append_right _ (ta_1 h)
theorem tm_1_1 {w : Cond} (h : w ∈ td_1_1.1) : w ∈ lw_tbl := List.mem_append_right _ (tt_1_1 h)
theorem tm_1_2 {w : Cond} (h : w ∈ td_1_2.1) : w ∈ lw_tbl := List.mem_append_right _ (tt_1_2 h)
theorem tm_1_3 {w : Cond} (h : w ∈ td_1_3.1) : w ∈ lw_tbl := List.mem_append_right _ (tt_1_3 h)
theorem tm_1_4 {w : Cond} (h : w ∈ td_1_4.1) : w ∈ lw_tbl := List.mem_append_right _ (tt_1_4 h)
theorem tm_1_5 {w : Cond} (h : w ∈ td_1_5.1) : w ∈ lw_tbl := List.mem_append_right _ (tt_1_5 h)
theorem tm_1_6 {w : Cond} (h : w ∈ td_1_6.1) : w ∈ lw_tbl := List.mem_append_right _ (tt_1_6 h)
theorem tm_1_7 {w : Cond} (h : w ∈ td_1_7.1) : w ∈ lw_tbl := List.mem_append_right _ (tt_1_7 h)
theorem tm_1_8 {w : Cond} (h : w ∈ td_1_8.1) : w ∈ lw_tbl := List.mem_append_right _ (tt_1_8 h)
theorem tm_1_9 {w : Cond} (h : w ∈ td_1_9.1) : w ∈ lw_tbl := List.mem_append_right _ (tt_1_9 h)
theorem tm_1_10 {w : Cond} (h : w ∈ td_1_10.1) : w ∈ lw_tbl := List.mem_append_right _ (tt_1_10 h)
theorem tm_1_11 {w : Cond} (h : w ∈ td_1_11.1) : w ∈ lw_tbl := List.mem_append_right _ (tt_1_11 h)
theorem tm_1_12 {w : Cond} (h : w ∈ td_1_12.1) : w ∈ lw_tbl := List.mem_append_right _ (tt_1_12 h)
theorem tm_1_13 {w : Cond} (h : w ∈ td_1_13.1) : w ∈ lw_tbl := List.mem_append_right _ (tt_1_13 h)
theorem tm_1_14 {w : Cond} (h : w ∈ td_1_14.1) : w ∈ lw_tbl := List.mem_append_right _ (tt_1_14 h)
theorem tb_2 {w : Cond} (h : w ∈ tables_1_2) : w ∈ lw_tbl := List.mem_append_right _ (ta_2 h)
theorem tm_2_1 {w : Cond} (h : w ∈ td_2_1.1) : w ∈ lw_tbl := List.mem_append_right _ (tt_2_1 h)
theorem tm_2_2 {w : Cond} (h : w ∈ td_2_2.1) : w ∈ lw_tbl := List.mem_append_right _ (tt_2_2 h)
theorem tm_2_3 {w : Cond} (h : w ∈ td_2_3.1) : w ∈ lw_tbl := List.mem_append_right _ (tt_2_3 h)
theorem tm_2_4 {w : Cond} (h : w ∈ td_2_4.1) : w ∈ lw_tbl := List.mem_append_right _ (tt_2_4 h)
theorem tm_2_5 {w : Cond} (h : w ∈ td_2_5.1) : w ∈ lw_tbl := List.mem_append_right _ (tt_2_5 h)
theorem tm_2_6 {w : Cond} (h : w ∈ td_2_6.1) : w ∈ lw_tbl := List.mem_append_right _ (tt_2_6 h)
theorem tm_2_7 {w : Cond} (h : w ∈ td_2_7.1) : w ∈ lw_tbl := List.mem_append_right _ (tt_2_7 h)
theorem tm_2_8 {w : Cond} (h : w ∈ td_2_8.1) : w ∈ lw_tbl := List.mem_append_right _ (tt_2_8 h)
theorem tm_2_9 {w : Cond} (h : w ∈ td_2_9.1) : w ∈ lw_tbl := List.mem_append_right _ (tt_2_9 h)
theorem tm_2_10 {w : Cond} (h : w ∈ td_2_10.1) : w ∈ lw_tbl := List.mem_append_right _ (tt_2_10 h)
theorem tm_2_11 {w : Cond} (h : w ∈ td_2_11.1) : w ∈ lw_tbl := List.mem_append_right _ (tt_2_11 h)
theorem tm_2_12 {w : Cond} (h : w ∈ td_2_12.1) : w ∈ lw_tbl := List.mem_append_right _ (tt_2_12 h)
theorem tm_2_13 {w : Cond} (h : w ∈ td_2_13.1) : w ∈ lw_tbl := List.mem_append_right _ (tt_2_13 h)
theorem tm_2_14 {w : Cond} (h : w ∈ td_2_14.1) : w ∈ lw_tbl := List.mem_append_right _ (tt_2_14 h)
theorem tb_3 {w : Cond} (h : w ∈ tables_1_3) : w ∈ lw_tbl := List.mem_append_right _ (ta_3 h)
theorem tm_3_2 {w : Cond} (h : w ∈ td_3_2.1) : w ∈ lw_tbl := List.mem_append_right _ (tt_3_2 h)
theorem tm_3_3 {w : Cond} (h : w ∈ td_3_3.1) : w ∈ lw_tbl := List.mem_append_right _ (tt_3_3 h)
theorem tm_3_4 {w : Cond} (h : w ∈ td_3_4.1) : w ∈ lw_tbl := List.mem_append_right _ (tt_3_4 h)
theorem tm_3_5 {w : Cond} (h : w ∈ td_3_5.1) : w ∈ lw_tbl := List.mem_append_right _ (tt_3_5 h)
theorem tm_3_6 {w : Cond} (h : w ∈ td_3_6.1) : w ∈ lw_tbl := List.mem_append_right _ (tt_3_6 h)
theorem tm_3_7 {w : Cond} (h : w ∈ td_3_7.1) : w ∈ lw_tbl := List.mem_append_right _ (tt_3_7 h)
theorem tm_3_8 {w : Cond} (h : w ∈ td_3_8.1) : w ∈ lw_tbl := List.mem_append_right _ (tt_3_8 h)
theorem tm_3_9 {w : Cond} (h : w ∈ td_3_9.1) : w ∈ lw_tbl := List.mem_append_right _ (tt_3_9 h)
theorem tm_3_10 {w : Cond} (h : w ∈ td_3_10.1) : w ∈ lw_tbl := List.mem_append_right _ (tt_3_10 h)
theorem tm_3_11 {w : Cond} (h : w ∈ td_3_11.1) : w ∈ lw_tbl := List.mem_append_right _ (tt_3_11 h)
theorem tm_3_12 {w : Cond} (h : w ∈ td_3_12.1) : w ∈ lw_tbl := List.mem_append_right _ (tt_3_12 h)
theorem tm_3_13 {w : Cond} (h : w ∈ td_3_13.1) : w ∈ lw_tbl := List.mem_append_right _ (tt_3_13 h)
theorem tm_3_14 {w : Cond} (h : w ∈ td_3_14.1) : w ∈ lw_tbl := List.mem_append_right _ (tt_3_14 h)
theorem tb_4 {w : Cond} (h : w ∈ tables_1_4) : w ∈ lw_tbl := List.mem_append_right _ (ta_4 h)
theorem tm_4_1 {w : Cond} (h : w ∈ td_4_1.1) : w ∈ lw_tbl := List.mem_append_right _ (tt_4_1 h)
theorem tm_4_2 {w : Cond} (h : w ∈ td_4_2.1) : w ∈ lw_tbl := List.mem_append_right _ (tt_4_2 h)
theorem tm_4_3 {w : Cond} (h : w ∈ td_4_3.1) : w ∈ lw_tbl := List.mem_append_right _ (tt_4_3 h)
theorem tm_4_4 {w : Cond} (h : w ∈ td_4_4.1) : w ∈ lw_tbl := List.mem_append_right _ (tt_4_4 h)
theorem tm_4_5 {w : Cond} (h : w ∈ td_4_5.1) : w ∈ lw_tbl := List.mem_append_right _ (tt_4_5 h)
theorem tm_4_6 {w : Cond} (h : w ∈ td_4_6.1) : w ∈ lw_tbl := List.mem_append_right _ (tt_4_6 h)
theorem tm_4_7 {w : Cond} (h : w ∈ td_4_7.1) : w ∈ lw_tbl := List.mem_append_right _ (tt_4_7 h)
theorem tm_4_8 {w : Cond} (h : w ∈ td_4_8.1) : w ∈ lw_tbl := List.mem_append_right _ (tt_4_8 h)
theorem tm_4_9 {w : Cond} (h : w ∈ td_4_9.1) : w ∈ lw_tbl := List.mem_append_right _ (tt_4_9 h)
theorem tm_4_10 {w : Cond} (h : w ∈ td_4_10.1) : w ∈ lw_tbl := List.mem_append_right _ (tt_4_10 h)
theorem tm_4_11 {w : Cond} (h : w ∈ td_4_11.1) : w ∈ lw_tbl := List.mem_append_right _ (tt_4_11 h)
theorem tm_4_12 {w : Cond} (h : w ∈ td_4_12.1) : w ∈ lw_tbl := List.mem_append_right _ (tt_4_12 h)
theorem tm_4_13 {w : Cond} (h : w ∈ td_4_13.1) : w ∈ lw_tbl := List.mem_append_right _ (tt_4_13 h)
theorem tm_4_14 {w : Cond} (h : w ∈ td_4_14.1) : w ∈ lw_tbl := List.mem_append_right _ (tt_4_14 h)
theorem tb_5 {w : Cond} (h : w ∈ tables_1_5) : w ∈ lw_tbl := List.mem_append_right _ (ta_5 h)
theorem tm_5_1 {w : Cond} (h : w ∈ td_5_1.1) : w ∈ lw_tbl := List.mem_append_right _ (tt_5_1 h)
theorem tm_5_2 {w : Cond} (h : w ∈ td_5_2.1) : w ∈ lw_tbl := List.mem_append_right _ (tt_5_2 h)
theorem tm_5_3 {w : Cond} (h : w ∈ td_5_3.1) : w ∈ lw_tbl := List.mem_append_right _ (tt_5_3 h)
theorem tm_5_4 {w : Cond} (h : w ∈ td_5_4.1) : w ∈ lw_tbl := List.mem_append_right _ (tt_5_4 h)
theorem tm_5_5 {w : Cond} (h : w ∈ td_5_5.1) : w ∈ lw_tbl := List.mem_append_right _ (tt_5_5 h)
theorem tm_5_6 {w : Cond} (h : w ∈ td_5_6.1) : w ∈ lw_tbl := List.mem_append_right _ (tt_5_6 h)
theorem tm_5_7 {w : Cond} (h : w ∈ td_5_7.1) : w ∈ lw_tbl := List.mem_append_right _ (tt_5_7 h)
theorem tm_5_8 {w : Cond} (h : w ∈ td_5_8.1) : w ∈ lw_tbl := List.mem_append_right _ (tt_5_8 h)
theorem tm_5_9 {w : Cond} (h : w ∈ td_5_9.1) : w ∈ lw_tbl := List.mem_append_right _ (tt_5_9 h)
theorem tm_5_10 {w : Cond} (h : w ∈ td_5_10.1) : w ∈ lw_tbl := List.mem_append_right _ (tt_5_10 h)
theorem tm_5_11 {w : Cond} (h : w ∈ td_5_11.1) : w ∈ lw_tbl := List.mem_append_right _ (tt_5_11 h)
theorem tm_5_12 {w : Cond} (h : w ∈ td_5_12.1) : w ∈ lw_tbl := List.mem_append_right _ (tt_5_12 h)
theorem tm_5_13 {w : Cond} (h : w ∈ td_5_13.1) : w ∈ lw_tbl := List.mem_append_right _ (tt_5_13 h)
theorem tm_5_14 {w : Cond} (h : w ∈ td_5_14.1) : w ∈ lw_tbl := List.mem_append_right _ (tt_5_14 h)
theorem tb_6 {w : Cond} (h : w ∈ tables_1_6) : w ∈ lw_tbl := List.mem_append_right _ (ta_6 h)
theorem tm_6_1 {w : Cond} (h : w ∈ td_6_1.1) : w ∈ lw_tbl := List.mem_append_right _ (tt_6_1 h)
theorem tm_6_2 {w : Cond} (h : w ∈ td_6_2.1) : w ∈ lw_tbl := List.mem_append_right _ (tt_6_2 h)
theorem tm_6_3 {w : Cond} (h : w ∈ td_6_3.1) : w ∈ lw_tbl := List.mem_append_right _ (tt_6_3 h)
theorem tm_6_4 {w : Cond} (h : w ∈ td_6_4.1) : w ∈ lw_tbl := List.mem_append_right _ (tt_6_4 h)
theorem tm_6_5 {w : Cond} (h : w ∈ td_6_5.1) : w ∈ lw_tbl := List.mem_append_right _ (tt_6_5 h)
theorem tm_6_6 {w : Cond} (h : w ∈ td_6_6.1) : w ∈ lw_tbl := List.mem_append_right _ (tt_6_6 h)
theorem tm_6_7 {w : Cond} (h : w ∈ td_6_7.1) : w ∈ lw_tbl := List.mem_append_right _ (tt_6_7 h)
theorem tm_6_8 {w : Cond} (h : w ∈ td_6_8.1) : w ∈ lw_tbl := List.mem_append_right _ (tt_6_8 h)
theorem tm_6_9 {w : Cond} (h : w ∈ td_6_9.1) : w ∈ lw_tbl := List.mem_append_right _ (tt_6_9 h)
theorem tm_6_10 {w : Cond} (h : w ∈ td_6_10.1) : w ∈ lw_tbl := List.mem_append_right _ (tt_6_10 h)
theorem tm_6_11 {w : Cond} (h : w ∈ td_6_11.1) : w ∈ lw_tbl := List.mem_append_right _ (tt_6_11 h)
theorem tm_6_12 {w : Cond} (h : w ∈ td_6_12.1) : w ∈ lw_tbl := List.mem_append_right _ (tt_6_12 h)
theorem tm_6_13 {w : Cond} (h : w ∈ td_6_13.1) : w ∈ lw_tbl := List.mem_append_right _ (tt_6_13 h)
theorem tm_6_14 {w : Cond} (h : w ∈ td_6_14.1) : w ∈ lw_tbl := List.mem_append_right _ (tt_6_14 h)
theorem tb_7 {w : Cond} (h : w ∈ tables_1_7) : w ∈ lw_tbl := List.mem_append_right _ (ta_7 h)
theorem tm_7_1 {w : Cond} (h : w ∈ td_7_1.1) : w ∈ lw_tbl := List.mem_append_right _ (tt_7_1 h)
theorem tm_7_2 {w : Cond} (h : w ∈ td_7_2.1) : w ∈ lw_tbl := List.mem_append_right _ (tt_7_2 h)
theorem tm_7_3 {w : Cond} (h : w ∈ td_7_3.1) : w ∈ lw_tbl := List.mem_append_right _ (tt_7_3 h)
theorem tm_7_4 {w : Cond} (h : w ∈ td_7_4.1) : w ∈ lw_tbl := List.mem_append_right _ (tt_7_4 h)
theorem tm_7_5 {w : Cond} (h : w ∈ td_7_5.1) : w ∈ lw_tbl := List.mem_append_right _ (tt_7_5 h)
theorem tm_7_6 {w : Cond} (h : w ∈ td_7_6.1) : w ∈ lw_tbl := List.mem_append_right _ (tt_7_6 h)
theorem tm_7_7 {w : Cond} (h : w ∈ td_7_7.1) : w ∈ lw_tbl := List.mem_append_right _ (tt_7_7 h)
theorem tm_7_8 {w : Cond} (h : w ∈ td_7_8.1) : w ∈ lw_tbl := List.mem_append_right _ (tt_7_8 h)
theorem tm_7_9 {w : Cond} (h : w ∈ td_7_9.1) : w ∈ lw_tbl := List.mem_append_right _ (tt_7_9 h)
theorem tm_7_10 {w : Cond} (h : w ∈ td_7_10.1) : w ∈ lw_tbl := List.mem_append_right _ (tt_7_10 h)
theorem tm_7_11 {w : Cond} (h : w ∈ td_7_11.1) : w ∈ lw_tbl := List.mem_append_right _ (tt_7_11 h)
theorem tm_7_12 {w : Cond} (h : w ∈ td_7_12.1) : w ∈ lw_tbl := List.mem_append_right _ (tt_7_12 h)
theorem tm_7_13 {w : Cond} (h : w ∈ td_7_13.1) : w ∈ lw_tbl := List.mem_append_right _ (tt_7_13 h)
theorem tm_7_14 {w : Cond} (h : w ∈ td_7_14.1) : w ∈ lw_tbl := List.mem_append_right _ (tt_7_14 h)
theorem tb_8 {w : Cond} (h : w ∈ tables_1_8) : w ∈ lw_tbl := List.mem_append_right _ (ta_8 h)
theorem tm_8_1 {w : Cond} (h : w ∈ td_8_1.1) : w ∈ lw_tbl := List.mem_append_right _ (tt_8_1 h)
theorem tm_8_2 {w : Cond} (h : w ∈ td_8_2.1) : w ∈ lw_tbl := List.mem_append_right _ (tt_8_2 h)
theorem tm_8_3 {w : Cond} (h : w ∈ td_8_3.1) : w ∈ lw_tbl := List.mem_append_right _ (tt_8_3 h)
theorem tm_8_4 {w : Cond} (h : w ∈ td_8_4.1) : w ∈ lw_tbl := List.mem_append_right _ (tt_8_4 h)
theorem tm_8_5 {w : Cond} (h : w ∈ td_8_5.1) : w ∈ lw_tbl := List.mem_append_right _ (tt_8_5 h)
theorem tm_8_6 {w : Cond} (h : w ∈ td_8_6.1) : w ∈ lw_tbl := List.mem_append_right _ (tt_8_6 h)
theorem tm_8_7 {w : Cond} (h : w ∈ td_8_7.1) : w ∈ lw_tbl := List.mem_append_right _ (tt_8_7 h)
theorem tm_8_8 {w : Cond} (h : w ∈ td_8_8.1) : w ∈ lw_tbl := List.mem_append_right _ (tt_8_8 h)
theorem tm_8_9 {w : Cond} (h : w ∈ td_8_9.1) : w ∈ lw_tbl := List.mem_append_right _ (tt_8_9 h)
theorem tm_8_10 {w : Cond} (h : w ∈ td_8_10.1) : w ∈ lw_tbl := List.mem_append_right _ (tt_8_10 h)
theorem tm_8_11 {w : Cond} (h : w ∈ td_8_11.1) : w ∈ lw_tbl := List.mem_append_right _ (tt_8_11 h)
theorem tm_8_12 {w : Cond} (h : w ∈ td_8_12.1) : w ∈ lw_tbl := List.mem_append_right _ (tt_8_12 h)
theorem tm_8_13 {w : Cond} (h : w ∈ td_8_13.1) : w ∈ lw_tbl := List.mem_append_right _ (tt_8_13 h)
theorem tm_8_14 {w : Cond} (h : w ∈ td_8_14.1) : w ∈ lw_tbl := List.mem_append_right _ (tt_8_14 h)
theorem tb_9 {w : Cond} (h : w ∈ tables_1_9) : w ∈ lw_tbl := List.mem_append_right _ (ta_9 h)
theorem tm_9_1 {w : Cond} (h : w ∈ td_9_1.1) : w ∈ lw_tbl := List.mem_append_right _ (tt_9_1 h)
theorem tm_9_2 {w : Cond} (h : w ∈ td_9_2.1) : w ∈ lw_tbl := List.mem_append_right _ (tt_9_2 h)
theorem tm_9_3 {w : Cond} (h : w ∈ td_9_3.1) : w ∈ lw_tbl := List.mem_append_right _ (tt_9_3 h)
theorem tm_9_4 {w : Cond} (h : w ∈ td_9_4.1) : w ∈ lw_tbl := List.mem_append_right _ (tt_9_4 h)
theorem tm_9_5 {w : Cond} (h : w ∈ td_9_5.1) : w ∈ lw_tbl := List.mem_append_right _ (tt_9_5 h)
theorem tm_9_6 {w : Cond} (h : w ∈ td_9_6.1) : w ∈ lw_tbl := List.mem_append_right _ (tt_9_6 h)
theorem tm_9_7 {w : Cond} (h : w ∈ td_9_7.1) : w ∈ lw_tbl := List.mem_append_right _ (tt_9_7 h)
theorem tl_0_0 : u_lay RX0 TX0 0 ∈ lw_u := hp_mu (tm_1_14 (List.mem_of_getElem? (i := 11) rfl)) rfl
theorem tl_0_1 : u_lay RX0 TX0 1 ∈ lw_u := hp_mu (tm_1_14 (List.mem_of_getElem? (i := 13) rfl)) rfl
theorem tl_0_2 : u_lay RX0 TX0 2 ∈ lw_u := hp_mu (tm_1_14 (List.mem_of_getElem? (i := 15) rfl)) rfl
theorem tl_0_3 : u_lay RX0 TX0 3 ∈ lw_u := hp_mu (tb_2 (List.mem_of_getElem? (i := 1) rfl)) rfl
theorem tl_0_4 : u_lay RX0 TX0 4 ∈ lw_u := hp_mu (tb_2 (List.mem_of_getElem? (i := 3) rfl)) rfl
theorem in_1 : ∀ w ∈ u_ws (hp_q 1).1 (hp_q 1).2.1 (hp_q 1).2.2, w ∈ lw_u := fun w h => by
  obtain ⟨k, hk, rfl⟩ := List.mem_map.mp h
  have hk : k < 5 := List.mem_range.mp hk
  match k, hk with
  | 0, _ => exact tl_0_0
  | 1, _ => exact tl_0_1
  | 2, _ => exact tl_0_2
  | 3, _ => exact tl_0_3
  | 4, _ => exact tl_0_4
  | k + 5, h => exact absurd h (by omega)
theorem tl_1_0 : u_lay RX1 TX1 0 ∈ lw_u := hp_mu (tm_1_8 (List.mem_of_getElem? (i := 13) rfl)) rfl
theorem tl_1_1 : u_lay RX1 TX1 1 ∈ lw_u := hp_mu (tm_1_8 (List.mem_of_getElem? (i := 15) rfl)) rfl
theorem tl_1_2 : u_lay RX1 TX1 2 ∈ lw_u := hp_mu (tm_1_9 (List.mem_of_getElem? (i := 1) rfl)) rfl
theorem tl_1_3 : u_lay RX1 TX1 3 ∈ lw_u := hp_mu (tm_1_9 (List.mem_of_getElem? (i := 3) rfl)) rfl
theorem tl_1_4 : u_lay RX1 TX1 4 ∈ lw_u := hp_mu (tm_1_9 (List.mem_of_getElem? (i := 5) rfl)) rfl
theorem in_2 : ∀ w ∈ u_ws (hp_q 2).1 (hp_q 2).2.1 (hp_q 2).2.2, w ∈ lw_u := fun w h => by
  obtain ⟨k, hk, rfl⟩ := List.mem_map.mp h
  have hk : k < 5 := List.mem_range.mp hk
  match k, hk with
  | 0, _ => exact tl_1_0
  | 1, _ => exact tl_1_1
  | 2, _ => exact tl_1_2
  | 3, _ => exact tl_1_3
  | 4, _ => exact tl_1_4
  | k + 5, h => exact absurd h (by omega)
theorem tl_2_0 : u_lay RX2 TX2 0 ∈ lw_u := hp_mu (tm_1_7 (List.mem_of_getElem? (i := 1) rfl)) rfl
theorem tl_2_1 : u_lay RX2 TX2 1 ∈ lw_u := hp_mu (tm_1_7 (List.mem_of_getElem? (i := 3) rfl)) rfl
theorem tl_2_2 : u_lay RX2 TX2 2 ∈ lw_u := hp_mu (tm_1_7 (List.mem_of_getElem? (i := 5) rfl)) rfl
theorem in_3 : ∀ w ∈ u_ws (hp_q 3).1 (hp_q 3).2.1 (hp_q 3).2.2, w ∈ lw_u := fun w h => by
  obtain ⟨k, hk, rfl⟩ := List.mem_map.mp h
  have hk : k < 3 := List.mem_range.mp hk
  match k, hk with
  | 0, _ => exact tl_2_0
  | 1, _ => exact tl_2_1
  | 2, _ => exact tl_2_2
  | k + 3, h => exact absurd h (by omega)
theorem tl_3_0 : u_lay RX3 TX3 0 ∈ lw_u := hp_mu (tm_2_4 (List.mem_of_getElem? (i := 3) rfl)) rfl
theorem tl_3_1 : u_lay RX3 TX3 1 ∈ lw_u := hp_mu (tm_2_4 (List.mem_of_getElem? (i := 5) rfl)) rfl
theorem tl_3_2 : u_lay RX3 TX3 2 ∈ lw_u := hp_mu (tm_2_4 (List.mem_of_getElem? (i := 7) rfl)) rfl
theorem tl_3_3 : u_lay RX3 TX3 3 ∈ lw_u := hp_mu (tm_2_4 (List.mem_of_getElem? (i := 9) rfl)) rfl
theorem tl_3_4 : u_lay RX3 TX3 4 ∈ lw_u := hp_mu (tm_2_4 (List.mem_of_getElem? (i := 11) rfl)) rfl
theorem tl_3_5 : u_lay RX3 TX3 5 ∈ lw_u := hp_mu (tm_2_4 (List.mem_of_getElem? (i := 13) rfl)) rfl
theorem tl_3_6 : u_lay RX3 TX3 6 ∈ lw_u := hp_mu (tm_2_4 (List.mem_of_getElem? (i := 15) rfl)) rfl
theorem tl_3_7 : u_lay RX3 TX3 7 ∈ lw_u := hp_mu (tm_2_5 (List.mem_of_getElem? (i := 1) rfl)) rfl
theorem tl_3_8 : u_lay RX3 TX3 8 ∈ lw_u := hp_mu (tm_2_5 (List.mem_of_getElem? (i := 3) rfl)) rfl
theorem tl_3_9 : u_lay RX3 TX3 9 ∈ lw_u := hp_mu (tm_2_5 (List.mem_of_getElem? (i := 5) rfl)) rfl
theorem in_4 : ∀ w ∈ u_ws (hp_q 4).1 (hp_q 4).2.1 (hp_q 4).2.2, w ∈ lw_u := fun w h => by
  obtain ⟨k, hk, rfl⟩ := List.mem_map.mp h
  have hk : k < 10 := List.mem_range.mp hk
  match k, hk with
  | 0, _ => exact tl_3_0
  | 1, _ => exact tl_3_1
  | 2, _ => exact tl_3_2
  | 3, _ => exact tl_3_3
  | 4, _ => exact tl_3_4
  | 5, _ => exact tl_3_5
  | 6, _ => exact tl_3_6
  | 7, _ => exact tl_3_7
  | 8, _ => exact tl_3_8
  | 9, _ => exact tl_3_9
  | k + 10, h => exact absurd h (by omega)
theorem tl_4_0 : u_lay RX4 TX4 0 ∈ lw_u := hp_mu (tm_5_10 (List.mem_of_getElem? (i := 5) rfl)) rfl
theorem tl_4_1 : u_lay RX4 TX4 1 ∈ lw_u := hp_mu (tm_5_10 (List.mem_of_getElem? (i := 7) rfl)) rfl
theorem tl_4_2 : u_lay RX4 TX4 2 ∈ lw_u := hp_mu (tm_5_10 (List.mem_of_getElem? (i := 9) rfl)) rfl
theorem tl_4_3 : u_lay RX4 TX4 3 ∈ lw_u := hp_mu (tm_5_10 (List.mem_of_getElem? (i := 11) rfl)) rfl
theorem tl_4_4 : u_lay RX4 TX4 4 ∈ lw_u := hp_mu (tm_5_10 (List.mem_of_getElem? (i := 13) rfl)) rfl
theorem tl_4_5 : u_lay RX4 TX4 5 ∈ lw_u := hp_mu (tm_5_10 (List.mem_of_getElem? (i := 15) rfl)) rfl
theorem tl_4_6 : u_lay RX4 TX4 6 ∈ lw_u := hp_mu (tm_5_11 (List.mem_of_getElem? (i := 1) rfl)) rfl
theorem tl_4_7 : u_lay RX4 TX4 7 ∈ lw_u := hp_mu (tm_5_11 (List.mem_of_getElem? (i := 3) rfl)) rfl
theorem tl_4_8 : u_lay RX4 TX4 8 ∈ lw_u := hp_mu (tm_5_11 (List.mem_of_getElem? (i := 5) rfl)) rfl
theorem tl_4_9 : u_lay RX4 TX4 9 ∈ lw_u := hp_mu (tm_5_11 (List.mem_of_getElem? (i := 7) rfl)) rfl
theorem tl_4_10 : u_lay RX4 TX4 10 ∈ lw_u := hp_mu (tm_5_11 (List.mem_of_getElem? (i := 9) rfl)) rfl
theorem in_5 : ∀ w ∈ u_ws (hp_q 5).1 (hp_q 5).2.1 (hp_q 5).2.2, w ∈ lw_u := fun w h => by
  obtain ⟨k, hk, rfl⟩ := List.mem_map.mp h
  have hk : k < 11 := List.mem_range.mp hk
  match k, hk with
  | 0, _ => exact tl_4_0
  | 1, _ => exact tl_4_1
  | 2, _ => exact tl_4_2
  | 3, _ => exact tl_4_3
  | 4, _ => exact tl_4_4
  | 5, _ => exact tl_4_5
  | 6, _ => exact tl_4_6
  | 7, _ => exact tl_4_7
  | 8, _ => exact tl_4_8
  | 9, _ => exact tl_4_9
  | 10, _ => exact tl_4_10
  | k + 11, h => exact absurd h (by omega)
theorem tl_5_0 : u_lay RX5 TX5 0 ∈ lw_u := hp_mu (tm_1_3 (List.mem_of_getElem? (i := 6) rfl)) rfl
theorem tl_5_1 : u_lay RX5 TX5 1 ∈ lw_u := hp_mu (tm_1_3 (List.mem_of_getElem? (i := 8) rfl)) rfl
theorem in_6 : ∀ w ∈ u_ws (hp_q 6).1 (hp_q 6).2.1 (hp_q 6).2.2, w ∈ lw_u := fun w h => by
  obtain ⟨k, hk, rfl⟩ := List.mem_map.mp h
  have hk : k < 2 := List.mem_range.mp hk
  match k, hk with
  | 0, _ => exact tl_5_0
  | 1, _ => exact tl_5_1
  | k + 2, h => exact absurd h (by omega)
theorem tl_6_0 : u_lay RX6 TX6 0 ∈ lw_u := hp_mu (tm_2_1 (List.mem_of_getElem? (i := 13) rfl)) rfl
theorem tl_6_1 : u_lay RX6 TX6 1 ∈ lw_u := hp_mu (tm_2_1 (List.mem_of_getElem? (i := 15) rfl)) rfl
theorem tl_6_2 : u_lay RX6 TX6 2 ∈ lw_u := hp_mu (tm_2_2 (List.mem_of_getElem? (i := 1) rfl)) rfl
theorem tl_6_3 : u_lay RX6 TX6 3 ∈ lw_u := hp_mu (tm_2_2 (List.mem_of_getElem? (i := 3) rfl)) rfl
theorem tl_6_4 : u_lay RX6 TX6 4 ∈ lw_u := hp_mu (tm_2_2 (List.mem_of_getElem? (i := 5) rfl)) rfl
theorem tl_6_5 : u_lay RX6 TX6 5 ∈ lw_u := hp_mu (tm_2_2 (List.mem_of_getElem? (i := 7) rfl)) rfl
theorem tl_6_6 : u_lay RX6 TX6 6 ∈ lw_u := hp_mu (tm_2_2 (List.mem_of_getElem? (i := 9) rfl)) rfl
theorem in_7 : ∀ w ∈ u_ws (hp_q 7).1 (hp_q 7).2.1 (hp_q 7).2.2, w ∈ lw_u := fun w h => by
  obtain ⟨k, hk, rfl⟩ := List.mem_map.mp h
  have hk : k < 7 := List.mem_range.mp hk
  match k, hk with
  | 0, _ => exact tl_6_0
  | 1, _ => exact tl_6_1
  | 2, _ => exact tl_6_2
  | 3, _ => exact tl_6_3
  | 4, _ => exact tl_6_4
  | 5, _ => exact tl_6_5
  | 6, _ => exact tl_6_6
  | k + 7, h => exact absurd h (by omega)
theorem tl_7_0 : u_lay RX7 TX7 0 ∈ lw_u := hp_mu (tm_1_10 (List.mem_of_getElem? (i := 9) rfl)) rfl
theorem tl_7_1 : u_lay RX7 TX7 1 ∈ lw_u := hp_mu (tm_1_10 (List.mem_of_getElem? (i := 11) rfl)) rfl
theorem tl_7_2 : u_lay RX7 TX7 2 ∈ lw_u := hp_mu (tm_1_10 (List.mem_of_getElem? (i := 13) rfl)) rfl
theorem tl_7_3 : u_lay RX7 TX7 3 ∈ lw_u := hp_mu (tm_1_10 (List.mem_of_getElem? (i := 15) rfl)) rfl
theorem in_8 : ∀ w ∈ u_ws (hp_q 8).1 (hp_q 8).2.1 (hp_q 8).2.2, w ∈ lw_u := fun w h => by
  obtain ⟨k, hk, rfl⟩ := List.mem_map.mp h
  have hk : k < 4 := List.mem_range.mp hk
  match k, hk with
  | 0, _ => exact tl_7_0
  | 1, _ => exact tl_7_1
  | 2, _ => exact tl_7_2
  | 3, _ => exact tl_7_3
  | k + 4, h => exact absurd h (by omega)
theorem tl_8_0 : u_lay RX8 TX8 0 ∈ lw_u := hp_mu (tm_1_4 (List.mem_of_getElem? (i := 10) rfl)) rfl
theorem tl_8_1 : u_lay RX8 TX8 1 ∈ lw_u := hp_mu (tm_1_4 (List.mem_of_getElem? (i := 12) rfl)) rfl
theorem tl_8_2 : u_lay RX8 TX8 2 ∈ lw_u := hp_mu (tm_1_4 (List.mem_of_getElem? (i := 14) rfl)) rfl
theorem tl_8_3 : u_lay RX8 TX8 3 ∈ lw_u := hp_mu (tm_1_5 (List.mem_of_getElem? (i := 0) rfl)) rfl
theorem tl_8_4 : u_lay RX8 TX8 4 ∈ lw_u := hp_mu (tm_1_5 (List.mem_of_getElem? (i := 2) rfl)) rfl
theorem in_9 : ∀ w ∈ u_ws (hp_q 9).1 (hp_q 9).2.1 (hp_q 9).2.2, w ∈ lw_u := fun w h => by
  obtain ⟨k, hk, rfl⟩ := List.mem_map.mp h
  have hk : k < 5 := List.mem_range.mp hk
  match k, hk with
  | 0, _ => exact tl_8_0
  | 1, _ => exact tl_8_1
  | 2, _ => exact tl_8_2
  | 3, _ => exact tl_8_3
  | 4, _ => exact tl_8_4
  | k + 5, h => exact absurd h (by omega)
theorem tl_9_0 : u_lay RX9 TX9 0 ∈ lw_u := hp_mu (tm_1_6 (List.mem_of_getElem? (i := 5) rfl)) rfl
theorem tl_9_1 : u_lay RX9 TX9 1 ∈ lw_u := hp_mu (tm_1_6 (List.mem_of_getElem? (i := 7) rfl)) rfl
theorem in_10 : ∀ w ∈ u_ws (hp_q 10).1 (hp_q 10).2.1 (hp_q 10).2.2, w ∈ lw_u := fun w h => by
  obtain ⟨k, hk, rfl⟩ := List.mem_map.mp h
  have hk : k < 2 := List.mem_range.mp hk
  match k, hk with
  | 0, _ => exact tl_9_0
  | 1, _ => exact tl_9_1
  | k + 2, h => exact absurd h (by omega)
theorem tl_10_0 : u_lay RX10 TX10 0 ∈ lw_u := hp_mu (tm_1_12 (List.mem_of_getElem? (i := 3) rfl)) rfl
theorem tl_10_1 : u_lay RX10 TX10 1 ∈ lw_u := hp_mu (tm_1_12 (List.mem_of_getElem? (i := 5) rfl)) rfl
theorem tl_10_2 : u_lay RX10 TX10 2 ∈ lw_u := hp_mu (tm_1_12 (List.mem_of_getElem? (i := 7) rfl)) rfl
theorem tl_10_3 : u_lay RX10 TX10 3 ∈ lw_u := hp_mu (tm_1_12 (List.mem_of_getElem? (i := 9) rfl)) rfl
theorem tl_10_4 : u_lay RX10 TX10 4 ∈ lw_u := hp_mu (tm_1_12 (List.mem_of_getElem? (i := 11) rfl)) rfl
theorem tl_10_5 : u_lay RX10 TX10 5 ∈ lw_u := hp_mu (tm_1_12 (List.mem_of_getElem? (i := 13) rfl)) rfl
theorem tl_10_6 : u_lay RX10 TX10 6 ∈ lw_u := hp_mu (tm_1_12 (List.mem_of_getElem? (i := 15) rfl)) rfl
theorem tl_10_7 : u_lay RX10 TX10 7 ∈ lw_u := hp_mu (tm_1_13 (List.mem_of_getElem? (i := 1) rfl)) rfl
theorem tl_10_8 : u_lay RX10 TX10 8 ∈ lw_u := hp_mu (tm_1_13 (List.mem_of_getElem? (i := 3) rfl)) rfl
theorem tl_10_9 : u_lay RX10 TX10 9 ∈ lw_u := hp_mu (tm_1_13 (List.mem_of_getElem? (i := 5) rfl)) rfl
theorem in_11 : ∀ w ∈ u_ws (hp_q 11).1 (hp_q 11).2.1 (hp_q 11).2.2, w ∈ lw_u := fun w h => by
  obtain ⟨k, hk, rfl⟩ := List.mem_map.mp h
  have hk : k < 10 := List.mem_range.mp hk
  match k, hk with
  | 0, _ => exact tl_10_0
  | 1, _ => exact tl_10_1
  | 2, _ => exact tl_10_2
  | 3, _ => exact tl_10_3
  | 4, _ => exact tl_10_4
  | 5, _ => exact tl_10_5
  | 6, _ => exact tl_10_6
  | 7, _ => exact tl_10_7
  | 8, _ => exact tl_10_8
  | 9, _ => exact tl_10_9
  | k + 10, h => exact absurd h (by omega)
theorem tl_11_0 : u_lay RX11 TX11 0 ∈ lw_u := hp_mu (tm_2_6 (List.mem_of_getElem? (i := 11) rfl)) rfl
theorem tl_11_1 : u_lay RX11 TX11 1 ∈ lw_u := hp_mu (tm_2_6 (List.mem_of_getElem? (i := 13) rfl)) rfl
theorem tl_11_2 : u_lay RX11 TX11 2 ∈ lw_u := hp_mu (tm_2_6 (List.mem_of_getElem? (i := 15) rfl)) rfl
theorem tl_11_3 : u_lay RX11 TX11 3 ∈ lw_u := hp_mu (tm_2_7 (List.mem_of_getElem? (i := 1) rfl)) rfl
theorem tl_11_4 : u_lay RX11 TX11 4 ∈ lw_u := hp_mu (tm_2_7 (List.mem_of_getElem? (i := 3) rfl)) rfl
theorem tl_11_5 : u_lay RX11 TX11 5 ∈ lw_u := hp_mu (tm_2_7 (List.mem_of_getElem? (i := 5) rfl)) rfl
theorem tl_11_6 : u_lay RX11 TX11 6 ∈ lw_u := hp_mu (tm_2_7 (List.mem_of_getElem? (i := 7) rfl)) rfl
theorem tl_11_7 : u_lay RX11 TX11 7 ∈ lw_u := hp_mu (tm_2_7 (List.mem_of_getElem? (i := 9) rfl)) rfl
theorem tl_11_8 : u_lay RX11 TX11 8 ∈ lw_u := hp_mu (tm_2_7 (List.mem_of_getElem? (i := 11) rfl)) rfl
theorem tl_11_9 : u_lay RX11 TX11 9 ∈ lw_u := hp_mu (tm_2_7 (List.mem_of_getElem? (i := 13) rfl)) rfl
theorem tl_11_10 : u_lay RX11 TX11 10 ∈ lw_u := hp_mu (tm_2_7 (List.mem_of_getElem? (i := 15) rfl)) rfl
theorem tl_11_11 : u_lay RX11 TX11 11 ∈ lw_u := hp_mu (tm_2_8 (List.mem_of_getElem? (i := 1) rfl)) rfl
theorem tl_11_12 : u_lay RX11 TX11 12 ∈ lw_u := hp_mu (tm_2_8 (List.mem_of_getElem? (i := 3) rfl)) rfl
theorem tl_11_13 : u_lay RX11 TX11 13 ∈ lw_u := hp_mu (tm_2_8 (List.mem_of_getElem? (i := 5) rfl)) rfl
theorem tl_11_14 : u_lay RX11 TX11 14 ∈ lw_u := hp_mu (tm_2_8 (List.mem_of_getElem? (i := 7) rfl)) rfl
theorem tl_11_15 : u_lay RX11 TX11 15 ∈ lw_u := hp_mu (tm_2_8 (List.mem_of_getElem? (i := 9) rfl)) rfl
theorem tl_11_16 : u_lay RX11 TX11 16 ∈ lw_u := hp_mu (tm_2_8 (List.mem_of_getElem? (i := 11) rfl)) rfl
theorem tl_11_17 : u_lay RX11 TX11 17 ∈ lw_u := hp_mu (tm_2_8 (List.mem_of_getElem? (i := 13) rfl)) rfl
theorem tl_11_18 : u_lay RX11 TX11 18 ∈ lw_u := hp_mu (tm_2_8 (List.mem_of_getElem? (i := 15) rfl)) rfl
theorem in_12 : ∀ w ∈ u_ws (hp_q 12).1 (hp_q 12).2.1 (hp_q 12).2.2, w ∈ lw_u := fun w h => by
  obtain ⟨k, hk, rfl⟩ := List.mem_map.mp h
  have hk : k < 19 := List.mem_range.mp hk
  match k, hk with
  | 0, _ => exact tl_11_0
  | 1, _ => exact tl_11_1
  | 2, _ => exact tl_11_2
  | 3, _ => exact tl_11_3
  | 4, _ => exact tl_11_4
  | 5, _ => exact tl_11_5
  | 6, _ => exact tl_11_6
  | 7, _ => exact tl_11_7
  | 8, _ => exact tl_11_8
  | 9, _ => exact tl_11_9
  | 10, _ => exact tl_11_10
  | 11, _ => exact tl_11_11
  | 12, _ => exact tl_11_12
  | 13, _ => exact tl_11_13
  | 14, _ => exact tl_11_14
  | 15, _ => exact tl_11_15
  | 16, _ => exact tl_11_16
  | 17, _ => exact tl_11_17
  | 18, _ => exact tl_11_18
  | k + 19, h => exact absurd h (by omega)
theorem tl_12_0 : u_lay RX12 TX12 0 ∈ lw_u := hp_mu (tm_6_11 (List.mem_of_getElem? (i := 14) rfl)) rfl
theorem tl_12_1 : u_lay RX12 TX12 1 ∈ lw_u := hp_mu (tm_6_12 (List.mem_of_getElem? (i := 0) rfl)) rfl
theorem tl_12_2 : u_lay RX12 TX12 2 ∈ lw_u := hp_mu (tm_6_12 (List.mem_of_getElem? (i := 2) rfl)) rfl
theorem tl_12_3 : u_lay RX12 TX12 3 ∈ lw_u := hp_mu (tm_6_12 (List.mem_of_getElem? (i := 4) rfl)) rfl
theorem tl_12_4 : u_lay RX12 TX12 4 ∈ lw_u := hp_mu (tm_6_12 (List.mem_of_getElem? (i := 6) rfl)) rfl
theorem tl_12_5 : u_lay RX12 TX12 5 ∈ lw_u := hp_mu (tm_6_12 (List.mem_of_getElem? (i := 8) rfl)) rfl
theorem tl_12_6 : u_lay RX12 TX12 6 ∈ lw_u := hp_mu (tm_6_12 (List.mem_of_getElem? (i := 10) rfl)) rfl
theorem tl_12_7 : u_lay RX12 TX12 7 ∈ lw_u := hp_mu (tm_6_12 (List.mem_of_getElem? (i := 12) rfl)) rfl
theorem tl_12_8 : u_lay RX12 TX12 8 ∈ lw_u := hp_mu (tm_6_12 (List.mem_of_getElem? (i := 14) rfl)) rfl
theorem tl_12_9 : u_lay RX12 TX12 9 ∈ lw_u := hp_mu (tm_6_13 (List.mem_of_getElem? (i := 0) rfl)) rfl
theorem tl_12_10 : u_lay RX12 TX12 10 ∈ lw_u := hp_mu (tm_6_13 (List.mem_of_getElem? (i := 2) rfl)) rfl
theorem tl_12_11 : u_lay RX12 TX12 11 ∈ lw_u := hp_mu (tm_6_13 (List.mem_of_getElem? (i := 4) rfl)) rfl
theorem tl_12_12 : u_lay RX12 TX12 12 ∈ lw_u := hp_mu (tm_6_13 (List.mem_of_getElem? (i := 6) rfl)) rfl
theorem tl_12_13 : u_lay RX12 TX12 13 ∈ lw_u := hp_mu (tm_6_13 (List.mem_of_getElem? (i := 8) rfl)) rfl
theorem tl_12_14 : u_lay RX12 TX12 14 ∈ lw_u := hp_mu (tm_6_13 (List.mem_of_getElem? (i := 10) rfl)) rfl
theorem tl_12_15 : u_lay RX12 TX12 15 ∈ lw_u := hp_mu (tm_6_13 (List.mem_of_getElem? (i := 12) rfl)) rfl
theorem tl_12_16 : u_lay RX12 TX12 16 ∈ lw_u := hp_mu (tm_6_13 (List.mem_of_getElem? (i := 14) rfl)) rfl
theorem tl_12_17 : u_lay RX12 TX12 17 ∈ lw_u := hp_mu (tm_6_14 (List.mem_of_getElem? (i := 0) rfl)) rfl
theorem tl_12_18 : u_lay RX12 TX12 18 ∈ lw_u := hp_mu (tm_6_14 (List.mem_of_getElem? (i := 2) rfl)) rfl
theorem tl_12_19 : u_lay RX12 TX12 19 ∈ lw_u := hp_mu (tm_6_14 (List.mem_of_getElem? (i := 4) rfl)) rfl
theorem tl_12_20 : u_lay RX12 TX12 20 ∈ lw_u := hp_mu (tm_6_14 (List.mem_of_getElem? (i := 6) rfl)) rfl
theorem tl_12_21 : u_lay RX12 TX12 21 ∈ lw_u := hp_mu (tm_6_14 (List.mem_of_getElem? (i := 8) rfl)) rfl
theorem tl_12_22 : u_lay RX12 TX12 22 ∈ lw_u := hp_mu (tm_6_14 (List.mem_of_getElem? (i := 10) rfl)) rfl
theorem tl_12_23 : u_lay RX12 TX12 23 ∈ lw_u := hp_mu (tm_6_14 (List.mem_of_getElem? (i := 12) rfl)) rfl
theorem tl_12_24 : u_lay RX12 TX12 24 ∈ lw_u := hp_mu (tm_6_14 (List.mem_of_getElem? (i := 14) rfl)) rfl
theorem tl_12_25 : u_lay RX12 TX12 25 ∈ lw_u := hp_mu (tb_7 (List.mem_of_getElem? (i := 0) rfl)) rfl
theorem tl_12_26 : u_lay RX12 TX12 26 ∈ lw_u := hp_mu (tb_7 (List.mem_of_getElem? (i := 2) rfl)) rfl
theorem tl_12_27 : u_lay RX12 TX12 27 ∈ lw_u := hp_mu (tb_7 (List.mem_of_getElem? (i := 4) rfl)) rfl
theorem tl_12_28 : u_lay RX12 TX12 28 ∈ lw_u := hp_mu (tb_7 (List.mem_of_getElem? (i := 6) rfl)) rfl
theorem tl_12_29 : u_lay RX12 TX12 29 ∈ lw_u := hp_mu (tb_7 (List.mem_of_getElem? (i := 8) rfl)) rfl
theorem tl_12_30 : u_lay RX12 TX12 30 ∈ lw_u := hp_mu (tb_7 (List.mem_of_getElem? (i := 10) rfl)) rfl
theorem tl_12_31 : u_lay RX12 TX12 31 ∈ lw_u := hp_mu (tb_7 (List.mem_of_getElem? (i := 12) rfl)) rfl
theorem tl_12_32 : u_lay RX12 TX12 32 ∈ lw_u := hp_mu (tb_7 (List.mem_of_getElem? (i := 14) rfl)) rfl
theorem tl_12_33 : u_lay RX12 TX12 33 ∈ lw_u := hp_mu (tm_7_1 (List.mem_of_getElem? (i := 0) rfl)) rfl
theorem tl_12_34 : u_lay RX12 TX12 34 ∈ lw_u := hp_mu (tm_7_1 (List.mem_of_getElem? (i := 2) rfl)) rfl
theorem tl_12_35 : u_lay RX12 TX12 35 ∈ lw_u := hp_mu (tm_7_1 (List.mem_of_getElem? (i := 4) rfl)) rfl
theorem tl_12_36 : u_lay RX12 TX12 36 ∈ lw_u := hp_mu (tm_7_1 (List.mem_of_getElem? (i := 6) rfl)) rfl
theorem tl_12_37 : u_lay RX12 TX12 37 ∈ lw_u := hp_mu (tm_7_1 (List.mem_of_getElem? (i := 8) rfl)) rfl
theorem tl_12_38 : u_lay RX12 TX12 38 ∈ lw_u := hp_mu (tm_7_1 (List.mem_of_getElem? (i := 10) rfl)) rfl
theorem tl_12_39 : u_lay RX12 TX12 39 ∈ lw_u := hp_mu (tm_7_1 (List.mem_of_getElem? (i := 12) rfl)) rfl
theorem tl_12_40 : u_lay RX12 TX12 40 ∈ lw_u := hp_mu (tm_7_1 (List.mem_of_getElem? (i := 14) rfl)) rfl
theorem tl_12_41 : u_lay RX12 TX12 41 ∈ lw_u := hp_mu (tm_7_2 (List.mem_of_getElem? (i := 0) rfl)) rfl
theorem tl_12_42 : u_lay RX12 TX12 42 ∈ lw_u := hp_mu (tm_7_2 (List.mem_of_getElem? (i := 2) rfl)) rfl
theorem tl_12_43 : u_lay RX12 TX12 43 ∈ lw_u := hp_mu (tm_7_2 (List.mem_of_getElem? (i := 4) rfl)) rfl
theorem tl_12_44 : u_lay RX12 TX12 44 ∈ lw_u := hp_mu (tm_7_2 (List.mem_of_getElem? (i := 6) rfl)) rfl
theorem tl_12_45 : u_lay RX12 TX12 45 ∈ lw_u := hp_mu (tm_7_2 (List.mem_of_getElem? (i := 8) rfl)) rfl
theorem tl_12_46 : u_lay RX12 TX12 46 ∈ lw_u := hp_mu (tm_7_2 (List.mem_of_getElem? (i := 10) rfl)) rfl
theorem tl_12_47 : u_lay RX12 TX12 47 ∈ lw_u := hp_mu (tm_7_2 (List.mem_of_getElem? (i := 12) rfl)) rfl
theorem in_13 : ∀ w ∈ u_ws (hp_q 13).1 (hp_q 13).2.1 (hp_q 13).2.2, w ∈ lw_u := fun w h => by
  obtain ⟨k, hk, rfl⟩ := List.mem_map.mp h
  have hk : k < 48 := List.mem_range.mp hk
  match k, hk with
  | 0, _ => exact tl_12_0
  | 1, _ => exact tl_12_1
  | 2, _ => exact tl_12_2
  | 3, _ => exact tl_12_3
  | 4, _ => exact tl_12_4
  | 5, _ => exact tl_12_5
  | 6, _ => exact tl_12_6
  | 7, _ => exact tl_12_7
  | 8, _ => exact tl_12_8
  | 9, _ => exact tl_12_9
  | 10, _ => exact tl_12_10
  | 11, _ => exact tl_12_11
  | 12, _ => exact tl_12_12
  | 13, _ => exact tl_12_13
  | 14, _ => exact tl_12_14
  | 15, _ => exact tl_12_15
  | 16, _ => exact tl_12_16
  | 17, _ => exact tl_12_17
  | 18, _ => exact tl_12_18
  | 19, _ => exact tl_12_19
  | 20, _ => exact tl_12_20
  | 21, _ => exact tl_12_21
  | 22, _ => exact tl_12_22
  | 23, _ => exact tl_12_23
  | 24, _ => exact tl_12_24
  | 25, _ => exact tl_12_25
  | 26, _ => exact tl_12_26
  | 27, _ => exact tl_12_27
  | 28, _ => exact tl_12_28
  | 29, _ => exact tl_12_29
  | 30, _ => exact tl_12_30
  | 31, _ => exact tl_12_31
  | 32, _ => exact tl_12_32
  | 33, _ => exact tl_12_33
  | 34, _ => exact tl_12_34
  | 35, _ => exact tl_12_35
  | 36, _ => exact tl_12_36
  | 37, _ => exact tl_12_37
  | 38, _ => exact tl_12_38
  | 39, _ => exact tl_12_39
  | 40, _ => exact tl_12_40
  | 41, _ => exact tl_12_41
  | 42, _ => exact tl_12_42
  | 43, _ => exact tl_12_43
  | 44, _ => exact tl_12_44
  | 45, _ => exact tl_12_45
  | 46, _ => exact tl_12_46
  | 47, _ => exact tl_12_47
  | k + 48, h => exact absurd h (by omega)
theorem kc_X10_9 : Cond.constant RX10 9 (65521) ∈ lw_u := hp_mu (tm_1_2 (List.mem_of_getElem? (i := 2) rfl)) rfl
theorem fl_X5_9 : hp_F RX5 9 6 0 := ⟨rfl, by decide, in_6, tyX5_ok, nmX5, hp_mu (tm_1_2 (List.mem_of_getElem? (i := 15) rfl)) rfl⟩
theorem fl_X5_15 : hp_F RX5 15 6 1 := ⟨rfl, by decide, in_6, tyX5_ok, nmX5, hp_mu (tm_1_3 (List.mem_of_getElem? (i := 0) rfl)) rfl⟩
theorem fl_X0_37 : hp_F RX0 37 6 1 := ⟨rfl, by decide, in_6, tyX5_ok, nmX5, hp_mu (tm_1_3 (List.mem_of_getElem? (i := 1) rfl)) rfl⟩
theorem fl_X11_132 : hp_F RX11 132 6 1 := ⟨rfl, by decide, in_6, tyX5_ok, nmX5, hp_mu (tm_1_3 (List.mem_of_getElem? (i := 2) rfl)) rfl⟩
theorem fl_X3_131 : hp_F RX3 131 6 1 := ⟨rfl, by decide, in_6, tyX5_ok, nmX5, hp_mu (tm_1_3 (List.mem_of_getElem? (i := 3) rfl)) rfl⟩
theorem fl_X8_74 : hp_F RX8 74 6 1 := ⟨rfl, by decide, in_6, tyX5_ok, nmX5, hp_mu (tm_1_3 (List.mem_of_getElem? (i := 4) rfl)) rfl⟩
theorem fl_X10_184 : hp_F RX10 184 6 1 := ⟨rfl, by decide, in_6, tyX5_ok, nmX5, hp_mu (tm_1_3 (List.mem_of_getElem? (i := 5) rfl)) rfl⟩
theorem fl_X8_9 : hp_F RX8 9 9 0 := ⟨rfl, by decide, in_9, tyX8_ok, nmX8, hp_mu (tm_1_4 (List.mem_of_getElem? (i := 2) rfl)) rfl⟩
theorem fl_X8_15 : hp_F RX8 15 9 1 := ⟨rfl, by decide, in_9, tyX8_ok, nmX8, hp_mu (tm_1_4 (List.mem_of_getElem? (i := 3) rfl)) rfl⟩
theorem fl_X8_18 : hp_F RX8 18 9 2 := ⟨rfl, by decide, in_9, tyX8_ok, nmX8, hp_mu (tm_1_4 (List.mem_of_getElem? (i := 4) rfl)) rfl⟩
theorem fl_X8_22 : hp_F RX8 22 9 3 := ⟨rfl, by decide, in_9, tyX8_ok, nmX8, hp_mu (tm_1_4 (List.mem_of_getElem? (i := 5) rfl)) rfl⟩
theorem fl_X4_61 : hp_F RX4 61 9 3 := ⟨rfl, by decide, in_9, tyX8_ok, nmX8, hp_mu (tm_1_4 (List.mem_of_getElem? (i := 6) rfl)) rfl⟩
theorem fl_X10_111 : hp_F RX10 111 9 3 := ⟨rfl, by decide, in_9, tyX8_ok, nmX8, hp_mu (tm_1_4 (List.mem_of_getElem? (i := 7) rfl)) rfl⟩
theorem fl_X11_312 : hp_F RX11 312 9 3 := ⟨rfl, by decide, in_9, tyX8_ok, nmX8, hp_mu (tm_1_4 (List.mem_of_getElem? (i := 8) rfl)) rfl⟩
theorem fl_X8_26 : hp_F RX8 26 9 4 := ⟨rfl, by decide, in_9, tyX8_ok, nmX8, hp_mu (tm_1_4 (List.mem_of_getElem? (i := 9) rfl)) rfl⟩
theorem fl_X9_9 : hp_F RX9 9 10 0 := ⟨rfl, by decide, in_10, tyX9_ok, nmX9, hp_mu (tm_1_6 (List.mem_of_getElem? (i := 2) rfl)) rfl⟩
theorem fl_X9_15 : hp_F RX9 15 10 1 := ⟨rfl, by decide, in_10, tyX9_ok, nmX9, hp_mu (tm_1_6 (List.mem_of_getElem? (i := 3) rfl)) rfl⟩
theorem fl_X11_150 : hp_F RX11 150 10 1 := ⟨rfl, by decide, in_10, tyX9_ok, nmX9, hp_mu (tm_1_6 (List.mem_of_getElem? (i := 4) rfl)) rfl⟩
theorem fl_X2_11 : hp_F RX2 11 3 0 := ⟨rfl, by decide, in_3, tyX2_ok, nmX2, hp_mu (tm_1_6 (List.mem_of_getElem? (i := 11) rfl)) rfl⟩
theorem fl_X2_17 : hp_F RX2 17 3 1 := ⟨rfl, by decide, in_3, tyX2_ok, nmX2, hp_mu (tm_1_6 (List.mem_of_getElem? (i := 12) rfl)) rfl⟩
theorem fl_X2_21 : hp_F RX2 21 3 2 := ⟨rfl, by decide, in_3, tyX2_ok, nmX2, hp_mu (tm_1_6 (List.mem_of_getElem? (i := 13) rfl)) rfl⟩
theorem fl_X10_68 : hp_F RX10 68 3 2 := ⟨rfl, by decide, in_3, tyX2_ok, nmX2, hp_mu (tm_1_6 (List.mem_of_getElem? (i := 14) rfl)) rfl⟩
theorem fl_X3_102 : hp_F RX3 102 3 2 := ⟨rfl, by decide, in_3, tyX2_ok, nmX2, hp_mu (tm_1_6 (List.mem_of_getElem? (i := 15) rfl)) rfl⟩
theorem fl_X11_167 : hp_F RX11 167 3 2 := ⟨rfl, by decide, in_3, tyX2_ok, nmX2, hp_mu (tm_1_7 (List.mem_of_getElem? (i := 0) rfl)) rfl⟩
theorem fl_X1_7 : hp_F RX1 7 2 0 := ⟨rfl, by decide, in_2, tyX1_ok, nmX1, hp_mu (tm_1_7 (List.mem_of_getElem? (i := 15) rfl)) rfl⟩
theorem fl_X10_128 : hp_F RX10 128 2 0 := ⟨rfl, by decide, in_2, tyX1_ok, nmX1, hp_mu (tm_1_8 (List.mem_of_getElem? (i := 0) rfl)) rfl⟩
theorem fl_X11_202 : hp_F RX11 202 2 0 := ⟨rfl, by decide, in_2, tyX1_ok, nmX1, hp_mu (tm_1_8 (List.mem_of_getElem? (i := 1) rfl)) rfl⟩
theorem fl_X1_13 : hp_F RX1 13 2 1 := ⟨rfl, by decide, in_2, tyX1_ok, nmX1, hp_mu (tm_1_8 (List.mem_of_getElem? (i := 2) rfl)) rfl⟩
theorem fl_X10_131 : hp_F RX10 131 2 1 := ⟨rfl, by decide, in_2, tyX1_ok, nmX1, hp_mu (tm_1_8 (List.mem_of_getElem? (i := 3) rfl)) rfl⟩
theorem fl_X11_207 : hp_F RX11 207 2 1 := ⟨rfl, by decide, in_2, tyX1_ok, nmX1, hp_mu (tm_1_8 (List.mem_of_getElem? (i := 4) rfl)) rfl⟩
theorem fl_X1_16 : hp_F RX1 16 2 2 := ⟨rfl, by decide, in_2, tyX1_ok, nmX1, hp_mu (tm_1_8 (List.mem_of_getElem? (i := 5) rfl)) rfl⟩
theorem fl_X10_134 : hp_F RX10 134 2 2 := ⟨rfl, by decide, in_2, tyX1_ok, nmX1, hp_mu (tm_1_8 (List.mem_of_getElem? (i := 6) rfl)) rfl⟩
theorem fl_X11_210 : hp_F RX11 210 2 2 := ⟨rfl, by decide, in_2, tyX1_ok, nmX1, hp_mu (tm_1_8 (List.mem_of_getElem? (i := 7) rfl)) rfl⟩
theorem fl_X1_19 : hp_F RX1 19 2 3 := ⟨rfl, by decide, in_2, tyX1_ok, nmX1, hp_mu (tm_1_8 (List.mem_of_getElem? (i := 8) rfl)) rfl⟩
theorem fl_X10_137 : hp_F RX10 137 2 3 := ⟨rfl, by decide, in_2, tyX1_ok, nmX1, hp_mu (tm_1_8 (List.mem_of_getElem? (i := 9) rfl)) rfl⟩
theorem fl_X11_213 : hp_F RX11 213 2 3 := ⟨rfl, by decide, in_2, tyX1_ok, nmX1, hp_mu (tm_1_8 (List.mem_of_getElem? (i := 10) rfl)) rfl⟩
theorem fl_X1_25 : hp_F RX1 25 2 4 := ⟨rfl, by decide, in_2, tyX1_ok, nmX1, hp_mu (tm_1_8 (List.mem_of_getElem? (i := 11) rfl)) rfl⟩
theorem fl_X10_140 : hp_F RX10 140 2 4 := ⟨rfl, by decide, in_2, tyX1_ok, nmX1, hp_mu (tm_1_8 (List.mem_of_getElem? (i := 12) rfl)) rfl⟩
theorem fl_X7_9 : hp_F RX7 9 8 0 := ⟨rfl, by decide, in_8, tyX7_ok, nmX7, hp_mu (tm_1_9 (List.mem_of_getElem? (i := 13) rfl)) rfl⟩
theorem fl_X11_224 : hp_F RX11 224 8 0 := ⟨rfl, by decide, in_8, tyX7_ok, nmX7, hp_mu (tm_1_9 (List.mem_of_getElem? (i := 14) rfl)) rfl⟩
theorem fl_X10_163 : hp_F RX10 163 8 0 := ⟨rfl, by decide, in_8, tyX7_ok, nmX7, hp_mu (tm_1_9 (List.mem_of_getElem? (i := 15) rfl)) rfl⟩
theorem fl_X7_15 : hp_F RX7 15 8 1 := ⟨rfl, by decide, in_8, tyX7_ok, nmX7, hp_mu (tm_1_10 (List.mem_of_getElem? (i := 0) rfl)) rfl⟩
theorem fl_X11_227 : hp_F RX11 227 8 1 := ⟨rfl, by decide, in_8, tyX7_ok, nmX7, hp_mu (tm_1_10 (List.mem_of_getElem? (i := 1) rfl)) rfl⟩
theorem fl_X10_164 : hp_F RX10 164 8 1 := ⟨rfl, by decide, in_8, tyX7_ok, nmX7, hp_mu (tm_1_10 (List.mem_of_getElem? (i := 2) rfl)) rfl⟩
theorem fl_X7_18 : hp_F RX7 18 8 2 := ⟨rfl, by decide, in_8, tyX7_ok, nmX7, hp_mu (tm_1_10 (List.mem_of_getElem? (i := 3) rfl)) rfl⟩
theorem fl_X11_234 : hp_F RX11 234 8 2 := ⟨rfl, by decide, in_8, tyX7_ok, nmX7, hp_mu (tm_1_10 (List.mem_of_getElem? (i := 4) rfl)) rfl⟩
theorem fl_X10_177 : hp_F RX10 177 8 2 := ⟨rfl, by decide, in_8, tyX7_ok, nmX7, hp_mu (tm_1_10 (List.mem_of_getElem? (i := 5) rfl)) rfl⟩
theorem fl_X7_21 : hp_F RX7 21 8 3 := ⟨rfl, by decide, in_8, tyX7_ok, nmX7, hp_mu (tm_1_10 (List.mem_of_getElem? (i := 6) rfl)) rfl⟩
theorem fl_X10_78 : hp_F RX10 78 8 3 := ⟨rfl, by decide, in_8, tyX7_ok, nmX7, hp_mu (tm_1_10 (List.mem_of_getElem? (i := 7) rfl)) rfl⟩
theorem fl_X11_230 : hp_F RX11 230 8 3 := ⟨rfl, by decide, in_8, tyX7_ok, nmX7, hp_mu (tm_1_10 (List.mem_of_getElem? (i := 8) rfl)) rfl⟩
theorem fl_X10_10 : hp_F RX10 10 11 0 := ⟨rfl, by decide, in_11, tyX10_ok, nmX10, hp_mu (tm_1_11 (List.mem_of_getElem? (i := 2) rfl)) rfl⟩
theorem fl_X3_83 : hp_F RX3 83 11 0 := ⟨rfl, by decide, in_11, tyX10_ok, nmX10, hp_mu (tm_1_11 (List.mem_of_getElem? (i := 3) rfl)) rfl⟩
theorem fl_X11_122 : hp_F RX11 122 11 0 := ⟨rfl, by decide, in_11, tyX10_ok, nmX10, hp_mu (tm_1_11 (List.mem_of_getElem? (i := 4) rfl)) rfl⟩
theorem fl_X10_18 : hp_F RX10 18 11 1 := ⟨rfl, by decide, in_11, tyX10_ok, nmX10, hp_mu (tm_1_11 (List.mem_of_getElem? (i := 5) rfl)) rfl⟩
theorem fl_X10_22 : hp_F RX10 22 11 2 := ⟨rfl, by decide, in_11, tyX10_ok, nmX10, hp_mu (tm_1_11 (List.mem_of_getElem? (i := 6) rfl)) rfl⟩
theorem fl_X11_112 : hp_F RX11 112 11 2 := ⟨rfl, by decide, in_11, tyX10_ok, nmX10, hp_mu (tm_1_11 (List.mem_of_getElem? (i := 7) rfl)) rfl⟩
theorem fl_X3_94 : hp_F RX3 94 11 2 := ⟨rfl, by decide, in_11, tyX10_ok, nmX10, hp_mu (tm_1_11 (List.mem_of_getElem? (i := 8) rfl)) rfl⟩
theorem fl_X10_27 : hp_F RX10 27 11 3 := ⟨rfl, by decide, in_11, tyX10_ok, nmX10, hp_mu (tm_1_11 (List.mem_of_getElem? (i := 9) rfl)) rfl⟩
theorem fl_X10_31 : hp_F RX10 31 11 4 := ⟨rfl, by decide, in_11, tyX10_ok, nmX10, hp_mu (tm_1_11 (List.mem_of_getElem? (i := 10) rfl)) rfl⟩
theorem fl_X3_109 : hp_F RX3 109 11 4 := ⟨rfl, by decide, in_11, tyX10_ok, nmX10, hp_mu (tm_1_11 (List.mem_of_getElem? (i := 11) rfl)) rfl⟩
theorem fl_X11_153 : hp_F RX11 153 11 4 := ⟨rfl, by decide, in_11, tyX10_ok, nmX10, hp_mu (tm_1_11 (List.mem_of_getElem? (i := 12) rfl)) rfl⟩
theorem fl_X10_36 : hp_F RX10 36 11 5 := ⟨rfl, by decide, in_11, tyX10_ok, nmX10, hp_mu (tm_1_11 (List.mem_of_getElem? (i := 13) rfl)) rfl⟩
theorem fl_X10_40 : hp_F RX10 40 11 6 := ⟨rfl, by decide, in_11, tyX10_ok, nmX10, hp_mu (tm_1_11 (List.mem_of_getElem? (i := 14) rfl)) rfl⟩
theorem fl_X11_156 : hp_F RX11 156 11 6 := ⟨rfl, by decide, in_11, tyX10_ok, nmX10, hp_mu (tm_1_11 (List.mem_of_getElem? (i := 15) rfl)) rfl⟩
theorem fl_X10_43 : hp_F RX10 43 11 7 := ⟨rfl, by decide, in_11, tyX10_ok, nmX10, hp_mu (tm_1_12 (List.mem_of_getElem? (i := 0) rfl)) rfl⟩
theorem fl_X10_50 : hp_F RX10 50 11 8 := ⟨rfl, by decide, in_11, tyX10_ok, nmX10, hp_mu (tm_1_12 (List.mem_of_getElem? (i := 1) rfl)) rfl⟩
theorem fl_X10_57 : hp_F RX10 57 11 9 := ⟨rfl, by decide, in_11, tyX10_ok, nmX10, hp_mu (tm_1_12 (List.mem_of_getElem? (i := 2) rfl)) rfl⟩
theorem fl_X0_9 : hp_F RX0 9 1 0 := ⟨rfl, by decide, in_1, tyX0_ok, nmX0, hp_mu (tm_1_14 (List.mem_of_getElem? (i := 6) rfl)) rfl⟩
theorem fl_X0_18 : hp_F RX0 18 1 1 := ⟨rfl, by decide, in_1, tyX0_ok, nmX0, hp_mu (tm_1_14 (List.mem_of_getElem? (i := 7) rfl)) rfl⟩
theorem fl_X0_22 : hp_F RX0 22 1 2 := ⟨rfl, by decide, in_1, tyX0_ok, nmX0, hp_mu (tm_1_14 (List.mem_of_getElem? (i := 8) rfl)) rfl⟩
theorem fl_X0_25 : hp_F RX0 25 1 3 := ⟨rfl, by decide, in_1, tyX0_ok, nmX0, hp_mu (tm_1_14 (List.mem_of_getElem? (i := 9) rfl)) rfl⟩
theorem fl_X0_28 : hp_F RX0 28 1 4 := ⟨rfl, by decide, in_1, tyX0_ok, nmX0, hp_mu (tm_1_14 (List.mem_of_getElem? (i := 10) rfl)) rfl⟩
theorem fl_X6_9 : hp_F RX6 9 7 0 := ⟨rfl, by decide, in_7, tyX6_ok, nmX6, hp_mu (tm_2_1 (List.mem_of_getElem? (i := 2) rfl)) rfl⟩
theorem fl_X6_15 : hp_F RX6 15 7 1 := ⟨rfl, by decide, in_7, tyX6_ok, nmX6, hp_mu (tm_2_1 (List.mem_of_getElem? (i := 3) rfl)) rfl⟩
theorem fl_X6_19 : hp_F RX6 19 7 2 := ⟨rfl, by decide, in_7, tyX6_ok, nmX6, hp_mu (tm_2_1 (List.mem_of_getElem? (i := 4) rfl)) rfl⟩
theorem fl_X6_22 : hp_F RX6 22 7 3 := ⟨rfl, by decide, in_7, tyX6_ok, nmX6, hp_mu (tm_2_1 (List.mem_of_getElem? (i := 5) rfl)) rfl⟩
theorem fl_X3_66 : hp_F RX3 66 7 3 := ⟨rfl, by decide, in_7, tyX6_ok, nmX6, hp_mu (tm_2_1 (List.mem_of_getElem? (i := 6) rfl)) rfl⟩
theorem fl_X6_25 : hp_F RX6 25 7 4 := ⟨rfl, by decide, in_7, tyX6_ok, nmX6, hp_mu (tm_2_1 (List.mem_of_getElem? (i := 7) rfl)) rfl⟩
theorem fl_X3_191 : hp_F RX3 191 7 4 := ⟨rfl, by decide, in_7, tyX6_ok, nmX6, hp_mu (tm_2_1 (List.mem_of_getElem? (i := 8) rfl)) rfl⟩
theorem fl_X6_28 : hp_F RX6 28 7 5 := ⟨rfl, by decide, in_7, tyX6_ok, nmX6, hp_mu (tm_2_1 (List.mem_of_getElem? (i := 9) rfl)) rfl⟩
theorem fl_X3_144 : hp_F RX3 144 7 5 := ⟨rfl, by decide, in_7, tyX6_ok, nmX6, hp_mu (tm_2_1 (List.mem_of_getElem? (i := 10) rfl)) rfl⟩
theorem fl_X6_31 : hp_F RX6 31 7 6 := ⟨rfl, by decide, in_7, tyX6_ok, nmX6, hp_mu (tm_2_1 (List.mem_of_getElem? (i := 11) rfl)) rfl⟩
theorem fl_X3_188 : hp_F RX3 188 7 6 := ⟨rfl, by decide, in_7, tyX6_ok, nmX6, hp_mu (tm_2_1 (List.mem_of_getElem? (i := 12) rfl)) rfl⟩
theorem kc_X3_32 : Cond.constant RX3 32 (65521) ∈ lw_u := hp_mu (tm_2_3 (List.mem_of_getElem? (i := 0) rfl)) rfl
theorem fl_X3_12 : hp_F RX3 12 4 0 := ⟨rfl, by decide, in_4, tyX3_ok, nmX3, hp_mu (tm_2_3 (List.mem_of_getElem? (i := 3) rfl)) rfl⟩
theorem fl_X3_21 : hp_F RX3 21 4 1 := ⟨rfl, by decide, in_4, tyX3_ok, nmX3, hp_mu (tm_2_3 (List.mem_of_getElem? (i := 4) rfl)) rfl⟩
theorem fl_X3_28 : hp_F RX3 28 4 2 := ⟨rfl, by decide, in_4, tyX3_ok, nmX3, hp_mu (tm_2_3 (List.mem_of_getElem? (i := 5) rfl)) rfl⟩
theorem fl_X3_33 : hp_F RX3 33 4 3 := ⟨rfl, by decide, in_4, tyX3_ok, nmX3, hp_mu (tm_2_3 (List.mem_of_getElem? (i := 6) rfl)) rfl⟩
theorem fl_X3_37 : hp_F RX3 37 4 4 := ⟨rfl, by decide, in_4, tyX3_ok, nmX3, hp_mu (tm_2_3 (List.mem_of_getElem? (i := 7) rfl)) rfl⟩
theorem fl_X11_138 : hp_F RX11 138 4 4 := ⟨rfl, by decide, in_4, tyX3_ok, nmX3, hp_mu (tm_2_3 (List.mem_of_getElem? (i := 8) rfl)) rfl⟩
theorem fl_X3_40 : hp_F RX3 40 4 5 := ⟨rfl, by decide, in_4, tyX3_ok, nmX3, hp_mu (tm_2_3 (List.mem_of_getElem? (i := 9) rfl)) rfl⟩
theorem fl_X11_141 : hp_F RX11 141 4 5 := ⟨rfl, by decide, in_4, tyX3_ok, nmX3, hp_mu (tm_2_3 (List.mem_of_getElem? (i := 10) rfl)) rfl⟩
theorem fl_X3_43 : hp_F RX3 43 4 6 := ⟨rfl, by decide, in_4, tyX3_ok, nmX3, hp_mu (tm_2_3 (List.mem_of_getElem? (i := 11) rfl)) rfl⟩
theorem fl_X11_451 : hp_F RX11 451 4 6 := ⟨rfl, by decide, in_4, tyX3_ok, nmX3, hp_mu (tm_2_3 (List.mem_of_getElem? (i := 12) rfl)) rfl⟩
theorem fl_X3_49 : hp_F RX3 49 4 7 := ⟨rfl, by decide, in_4, tyX3_ok, nmX3, hp_mu (tm_2_3 (List.mem_of_getElem? (i := 13) rfl)) rfl⟩
theorem fl_X11_454 : hp_F RX11 454 4 7 := ⟨rfl, by decide, in_4, tyX3_ok, nmX3, hp_mu (tm_2_3 (List.mem_of_getElem? (i := 14) rfl)) rfl⟩
theorem fl_X3_53 : hp_F RX3 53 4 8 := ⟨rfl, by decide, in_4, tyX3_ok, nmX3, hp_mu (tm_2_3 (List.mem_of_getElem? (i := 15) rfl)) rfl⟩
theorem fl_X11_460 : hp_F RX11 460 4 8 := ⟨rfl, by decide, in_4, tyX3_ok, nmX3, hp_mu (tm_2_4 (List.mem_of_getElem? (i := 0) rfl)) rfl⟩
theorem fl_X3_56 : hp_F RX3 56 4 9 := ⟨rfl, by decide, in_4, tyX3_ok, nmX3, hp_mu (tm_2_4 (List.mem_of_getElem? (i := 1) rfl)) rfl⟩
theorem fl_X11_457 : hp_F RX11 457 4 9 := ⟨rfl, by decide, in_4, tyX3_ok, nmX3, hp_mu (tm_2_4 (List.mem_of_getElem? (i := 2) rfl)) rfl⟩
theorem fl_X11_9 : hp_F RX11 9 12 0 := ⟨rfl, by decide, in_12, tyX11_ok, nmX11, hp_mu (tm_2_5 (List.mem_of_getElem? (i := 8) rfl)) rfl⟩
theorem fl_X11_16 : hp_F RX11 16 12 1 := ⟨rfl, by decide, in_12, tyX11_ok, nmX11, hp_mu (tm_2_5 (List.mem_of_getElem? (i := 9) rfl)) rfl⟩
theorem fl_X11_20 : hp_F RX11 20 12 2 := ⟨rfl, by decide, in_12, tyX11_ok, nmX11, hp_mu (tm_2_5 (List.mem_of_getElem? (i := 10) rfl)) rfl⟩
theorem fl_X11_26 : hp_F RX11 26 12 3 := ⟨rfl, by decide, in_12, tyX11_ok, nmX11, hp_mu (tm_2_5 (List.mem_of_getElem? (i := 11) rfl)) rfl⟩
theorem fl_X11_30 : hp_F RX11 30 12 4 := ⟨rfl, by decide, in_12, tyX11_ok, nmX11, hp_mu (tm_2_5 (List.mem_of_getElem? (i := 12) rfl)) rfl⟩
theorem fl_X11_34 : hp_F RX11 34 12 5 := ⟨rfl, by decide, in_12, tyX11_ok, nmX11, hp_mu (tm_2_5 (List.mem_of_getElem? (i := 13) rfl)) rfl⟩
theorem fl_X11_40 : hp_F RX11 40 12 6 := ⟨rfl, by decide, in_12, tyX11_ok, nmX11, hp_mu (tm_2_5 (List.mem_of_getElem? (i := 14) rfl)) rfl⟩
theorem fl_X11_44 : hp_F RX11 44 12 7 := ⟨rfl, by decide, in_12, tyX11_ok, nmX11, hp_mu (tm_2_5 (List.mem_of_getElem? (i := 15) rfl)) rfl⟩
theorem fl_X11_47 : hp_F RX11 47 12 8 := ⟨rfl, by decide, in_12, tyX11_ok, nmX11, hp_mu (tm_2_6 (List.mem_of_getElem? (i := 0) rfl)) rfl⟩
theorem fl_X11_50 : hp_F RX11 50 12 9 := ⟨rfl, by decide, in_12, tyX11_ok, nmX11, hp_mu (tm_2_6 (List.mem_of_getElem? (i := 1) rfl)) rfl⟩
theorem fl_X11_53 : hp_F RX11 53 12 10 := ⟨rfl, by decide, in_12, tyX11_ok, nmX11, hp_mu (tm_2_6 (List.mem_of_getElem? (i := 2) rfl)) rfl⟩
theorem fl_X11_56 : hp_F RX11 56 12 11 := ⟨rfl, by decide, in_12, tyX11_ok, nmX11, hp_mu (tm_2_6 (List.mem_of_getElem? (i := 3) rfl)) rfl⟩
theorem fl_X11_62 : hp_F RX11 62 12 12 := ⟨rfl, by decide, in_12, tyX11_ok, nmX11, hp_mu (tm_2_6 (List.mem_of_getElem? (i := 4) rfl)) rfl⟩
theorem fl_X11_66 : hp_F RX11 66 12 13 := ⟨rfl, by decide, in_12, tyX11_ok, nmX11, hp_mu (tm_2_6 (List.mem_of_getElem? (i := 5) rfl)) rfl⟩
theorem fl_X11_69 : hp_F RX11 69 12 14 := ⟨rfl, by decide, in_12, tyX11_ok, nmX11, hp_mu (tm_2_6 (List.mem_of_getElem? (i := 6) rfl)) rfl⟩
theorem fl_X11_75 : hp_F RX11 75 12 15 := ⟨rfl, by decide, in_12, tyX11_ok, nmX11, hp_mu (tm_2_6 (List.mem_of_getElem? (i := 7) rfl)) rfl⟩
theorem fl_X11_82 : hp_F RX11 82 12 16 := ⟨rfl, by decide, in_12, tyX11_ok, nmX11, hp_mu (tm_2_6 (List.mem_of_getElem? (i := 8) rfl)) rfl⟩
theorem fl_X11_86 : hp_F RX11 86 12 17 := ⟨rfl, by decide, in_12, tyX11_ok, nmX11, hp_mu (tm_2_6 (List.mem_of_getElem? (i := 9) rfl)) rfl⟩
theorem fl_X11_90 : hp_F RX11 90 12 18 := ⟨rfl, by decide, in_12, tyX11_ok, nmX11, hp_mu (tm_2_6 (List.mem_of_getElem? (i := 10) rfl)) rfl⟩
theorem kc_X11_502 : Cond.constantLong RX11 502 (3) ∈ lw_u := hp_mu (tm_3_7 (List.mem_of_getElem? (i := 3) rfl)) rfl
theorem kc_X11_504 : Cond.constantLong RX11 504 (7) ∈ lw_u := hp_mu (tm_3_7 (List.mem_of_getElem? (i := 4) rfl)) rfl
theorem kc_X11_506 : Cond.constantLong RX11 506 (17) ∈ lw_u := hp_mu (tm_3_9 (List.mem_of_getElem? (i := 1) rfl)) rfl
theorem kc_J6_127 : Cond.constant RJ6 127 (-2147483648) ∈ lw_u := hp_mu (tm_3_11 (List.mem_of_getElem? (i := 5) rfl)) rfl
theorem kc_J6_264 : Cond.constant RJ6 264 (65536) ∈ lw_u := hp_mu (tm_3_11 (List.mem_of_getElem? (i := 9) rfl)) rfl
theorem kc_X3_155 : Cond.constant RX3 155 (2147483647) ∈ lw_u := hp_mu (tb_4 (List.mem_of_getElem? (i := 10) rfl)) rfl
theorem kc_X11_291 : Cond.constant RX11 291 (1000000) ∈ lw_u := hp_mu (tm_4_14 (List.mem_of_getElem? (i := 10) rfl)) rfl
theorem kc_J6_265 : Cond.constant RJ6 265 (1431655765) ∈ lw_u := hp_mu (tm_4_14 (List.mem_of_getElem? (i := 14) rfl)) rfl
theorem kc_J6_266 : Cond.constant RJ6 266 (858993459) ∈ lw_u := hp_mu (tm_4_14 (List.mem_of_getElem? (i := 15) rfl)) rfl
theorem kc_J6_267 : Cond.constant RJ6 267 (252645135) ∈ lw_u := hp_mu (tb_5 (List.mem_of_getElem? (i := 0) rfl)) rfl
theorem kc_X4_9 : Cond.constant RX4 9 (65521) ∈ lw_u := hp_mu (tm_5_9 (List.mem_of_getElem? (i := 3) rfl)) rfl
theorem fl_X4_10 : hp_F RX4 10 5 0 := ⟨rfl, by decide, in_5, tyX4_ok, nmX4, hp_mu (tm_5_9 (List.mem_of_getElem? (i := 8) rfl)) rfl⟩
theorem fl_X4_16 : hp_F RX4 16 5 1 := ⟨rfl, by decide, in_5, tyX4_ok, nmX4, hp_mu (tm_5_9 (List.mem_of_getElem? (i := 9) rfl)) rfl⟩
theorem fl_X4_19 : hp_F RX4 19 5 2 := ⟨rfl, by decide, in_5, tyX4_ok, nmX4, hp_mu (tm_5_9 (List.mem_of_getElem? (i := 10) rfl)) rfl⟩
theorem fl_X4_26 : hp_F RX4 26 5 3 := ⟨rfl, by decide, in_5, tyX4_ok, nmX4, hp_mu (tm_5_9 (List.mem_of_getElem? (i := 11) rfl)) rfl⟩
theorem fl_X4_33 : hp_F RX4 33 5 4 := ⟨rfl, by decide, in_5, tyX4_ok, nmX4, hp_mu (tm_5_9 (List.mem_of_getElem? (i := 12) rfl)) rfl⟩
theorem fl_X4_37 : hp_F RX4 37 5 5 := ⟨rfl, by decide, in_5, tyX4_ok, nmX4, hp_mu (tm_5_9 (List.mem_of_getElem? (i := 13) rfl)) rfl⟩
theorem fl_X4_40 : hp_F RX4 40 5 6 := ⟨rfl, by decide, in_5, tyX4_ok, nmX4, hp_mu (tm_5_9 (List.mem_of_getElem? (i := 14) rfl)) rfl⟩
theorem fl_X4_43 : hp_F RX4 43 5 7 := ⟨rfl, by decide, in_5, tyX4_ok, nmX4, hp_mu (tm_5_9 (List.mem_of_getElem? (i := 15) rfl)) rfl⟩
theorem fl_X4_46 : hp_F RX4 46 5 8 := ⟨rfl, by decide, in_5, tyX4_ok, nmX4, hp_mu (tm_5_10 (List.mem_of_getElem? (i := 0) rfl)) rfl⟩
theorem fl_X4_49 : hp_F RX4 49 5 9 := ⟨rfl, by decide, in_5, tyX4_ok, nmX4, hp_mu (tm_5_10 (List.mem_of_getElem? (i := 1) rfl)) rfl⟩
theorem fl_X11_373 : hp_F RX11 373 5 9 := ⟨rfl, by decide, in_5, tyX4_ok, nmX4, hp_mu (tm_5_10 (List.mem_of_getElem? (i := 2) rfl)) rfl⟩
theorem fl_X4_52 : hp_F RX4 52 5 10 := ⟨rfl, by decide, in_5, tyX4_ok, nmX4, hp_mu (tm_5_10 (List.mem_of_getElem? (i := 3) rfl)) rfl⟩
theorem fl_X11_376 : hp_F RX11 376 5 10 := ⟨rfl, by decide, in_5, tyX4_ok, nmX4, hp_mu (tm_5_10 (List.mem_of_getElem? (i := 4) rfl)) rfl⟩
theorem kc_X4_55 : Cond.constantLong RX4 55 (3) ∈ lw_u := hp_mu (tm_5_12 (List.mem_of_getElem? (i := 0) rfl)) rfl
theorem kc_X4_102 : Cond.constantLong RX4 102 (17) ∈ lw_u := hp_mu (tm_5_14 (List.mem_of_getElem? (i := 7) rfl)) rfl
theorem kc_X12_42 : Cond.constantLong RX12 42 (9886) ∈ lw_u := hp_mu (tm_6_7 (List.mem_of_getElem? (i := 13) rfl)) rfl
theorem kc_X12_44 : Cond.constantLong RX12 44 (841) ∈ lw_u := hp_mu (tm_6_7 (List.mem_of_getElem? (i := 14) rfl)) rfl
theorem kc_X12_46 : Cond.constantLong RX12 46 (555) ∈ lw_u := hp_mu (tm_6_7 (List.mem_of_getElem? (i := 15) rfl)) rfl
theorem kc_X12_48 : Cond.constantLong RX12 48 (129530) ∈ lw_u := hp_mu (tm_6_8 (List.mem_of_getElem? (i := 0) rfl)) rfl
theorem kc_X12_50 : Cond.constantLong RX12 50 (95762147) ∈ lw_u := hp_mu (tm_6_8 (List.mem_of_getElem? (i := 1) rfl)) rfl
theorem kc_X12_52 : Cond.constantLong RX12 52 (380237) ∈ lw_u := hp_mu (tm_6_8 (List.mem_of_getElem? (i := 2) rfl)) rfl
theorem kc_X12_54 : Cond.constantLong RX12 54 (257) ∈ lw_u := hp_mu (tm_6_8 (List.mem_of_getElem? (i := 3) rfl)) rfl
theorem kc_X12_56 : Cond.constantLong RX12 56 (151331) ∈ lw_u := hp_mu (tm_6_8 (List.mem_of_getElem? (i := 4) rfl)) rfl
theorem kc_X12_58 : Cond.constantLong RX12 58 (411) ∈ lw_u := hp_mu (tm_6_8 (List.mem_of_getElem? (i := 5) rfl)) rfl
theorem kc_X12_60 : Cond.constantLong RX12 60 (257105) ∈ lw_u := hp_mu (tm_6_8 (List.mem_of_getElem? (i := 6) rfl)) rfl
theorem kc_X12_62 : Cond.constantLong RX12 62 (161140) ∈ lw_u := hp_mu (tm_6_8 (List.mem_of_getElem? (i := 7) rfl)) rfl
theorem kc_X12_64 : Cond.constantLong RX12 64 (79) ∈ lw_u := hp_mu (tm_6_8 (List.mem_of_getElem? (i := 8) rfl)) rfl
theorem kc_X12_112 : Cond.constant RX12 112 (65521) ∈ lw_u := hp_mu (tm_6_8 (List.mem_of_getElem? (i := 13) rfl)) rfl
theorem fl_X12_7 : hp_F RX12 7 13 0 := ⟨rfl, by decide, in_13, tyX12_ok, nmX12, hp_mu (tm_6_8 (List.mem_of_getElem? (i := 14) rfl)) rfl⟩
theorem fl_X12_13 : hp_F RX12 13 13 1 := ⟨rfl, by decide, in_13, tyX12_ok, nmX12, hp_mu (tm_6_8 (List.mem_of_getElem? (i := 15) rfl)) rfl⟩
theorem fl_X12_109 : hp_F RX12 109 13 2 := ⟨rfl, by decide, in_13, tyX12_ok, nmX12, hp_mu (tm_6_9 (List.mem_of_getElem? (i := 0) rfl)) rfl⟩
theorem fl_X12_106 : hp_F RX12 106 13 3 := ⟨rfl, by decide, in_13, tyX12_ok, nmX12, hp_mu (tm_6_9 (List.mem_of_getElem? (i := 1) rfl)) rfl⟩
theorem fl_X12_16 : hp_F RX12 16 13 4 := ⟨rfl, by decide, in_13, tyX12_ok, nmX12, hp_mu (tm_6_9 (List.mem_of_getElem? (i := 2) rfl)) rfl⟩
theorem fl_X12_19 : hp_F RX12 19 13 5 := ⟨rfl, by decide, in_13, tyX12_ok, nmX12, hp_mu (tm_6_9 (List.mem_of_getElem? (i := 3) rfl)) rfl⟩
theorem fl_X12_22 : hp_F RX12 22 13 6 := ⟨rfl, by decide, in_13, tyX12_ok, nmX12, hp_mu (tm_6_9 (List.mem_of_getElem? (i := 4) rfl)) rfl⟩
theorem fl_X12_139 : hp_F RX12 139 13 7 := ⟨rfl, by decide, in_13, tyX12_ok, nmX12, hp_mu (tm_6_9 (List.mem_of_getElem? (i := 5) rfl)) rfl⟩
theorem fl_X12_168 : hp_F RX12 168 13 8 := ⟨rfl, by decide, in_13, tyX12_ok, nmX12, hp_mu (tm_6_9 (List.mem_of_getElem? (i := 6) rfl)) rfl⟩
theorem fl_X12_181 : hp_F RX12 181 13 9 := ⟨rfl, by decide, in_13, tyX12_ok, nmX12, hp_mu (tm_6_9 (List.mem_of_getElem? (i := 7) rfl)) rfl⟩
theorem fl_X12_184 : hp_F RX12 184 13 10 := ⟨rfl, by decide, in_13, tyX12_ok, nmX12, hp_mu (tm_6_9 (List.mem_of_getElem? (i := 8) rfl)) rfl⟩
theorem fl_X12_193 : hp_F RX12 193 13 11 := ⟨rfl, by decide, in_13, tyX12_ok, nmX12, hp_mu (tm_6_9 (List.mem_of_getElem? (i := 9) rfl)) rfl⟩
theorem fl_X12_25 : hp_F RX12 25 13 12 := ⟨rfl, by decide, in_13, tyX12_ok, nmX12, hp_mu (tm_6_9 (List.mem_of_getElem? (i := 10) rfl)) rfl⟩
theorem fl_X12_28 : hp_F RX12 28 13 13 := ⟨rfl, by decide, in_13, tyX12_ok, nmX12, hp_mu (tm_6_9 (List.mem_of_getElem? (i := 11) rfl)) rfl⟩
theorem fl_X12_203 : hp_F RX12 203 13 14 := ⟨rfl, by decide, in_13, tyX12_ok, nmX12, hp_mu (tm_6_9 (List.mem_of_getElem? (i := 12) rfl)) rfl⟩
theorem fl_X12_206 : hp_F RX12 206 13 15 := ⟨rfl, by decide, in_13, tyX12_ok, nmX12, hp_mu (tm_6_9 (List.mem_of_getElem? (i := 13) rfl)) rfl⟩
theorem fl_X12_31 : hp_F RX12 31 13 16 := ⟨rfl, by decide, in_13, tyX12_ok, nmX12, hp_mu (tm_6_9 (List.mem_of_getElem? (i := 14) rfl)) rfl⟩
theorem fl_X12_230 : hp_F RX12 230 13 17 := ⟨rfl, by decide, in_13, tyX12_ok, nmX12, hp_mu (tm_6_9 (List.mem_of_getElem? (i := 15) rfl)) rfl⟩
theorem fl_X12_35 : hp_F RX12 35 13 18 := ⟨rfl, by decide, in_13, tyX12_ok, nmX12, hp_mu (tm_6_10 (List.mem_of_getElem? (i := 0) rfl)) rfl⟩
theorem fl_X12_39 : hp_F RX12 39 13 19 := ⟨rfl, by decide, in_13, tyX12_ok, nmX12, hp_mu (tm_6_10 (List.mem_of_getElem? (i := 1) rfl)) rfl⟩
theorem fl_X12_262 : hp_F RX12 262 13 20 := ⟨rfl, by decide, in_13, tyX12_ok, nmX12, hp_mu (tm_6_10 (List.mem_of_getElem? (i := 2) rfl)) rfl⟩
theorem fl_X12_265 : hp_F RX12 265 13 21 := ⟨rfl, by decide, in_13, tyX12_ok, nmX12, hp_mu (tm_6_10 (List.mem_of_getElem? (i := 3) rfl)) rfl⟩
theorem fl_X12_242 : hp_F RX12 242 13 22 := ⟨rfl, by decide, in_13, tyX12_ok, nmX12, hp_mu (tm_6_10 (List.mem_of_getElem? (i := 4) rfl)) rfl⟩
theorem fl_X12_239 : hp_F RX12 239 13 23 := ⟨rfl, by decide, in_13, tyX12_ok, nmX12, hp_mu (tm_6_10 (List.mem_of_getElem? (i := 5) rfl)) rfl⟩
theorem fl_X12_245 : hp_F RX12 245 13 24 := ⟨rfl, by decide, in_13, tyX12_ok, nmX12, hp_mu (tm_6_10 (List.mem_of_getElem? (i := 6) rfl)) rfl⟩
theorem fl_X12_259 : hp_F RX12 259 13 25 := ⟨rfl, by decide, in_13, tyX12_ok, nmX12, hp_mu (tm_6_10 (List.mem_of_getElem? (i := 7) rfl)) rfl⟩
theorem fl_X12_236 : hp_F RX12 236 13 26 := ⟨rfl, by decide, in_13, tyX12_ok, nmX12, hp_mu (tm_6_10 (List.mem_of_getElem? (i := 8) rfl)) rfl⟩
theorem fl_X12_251 : hp_F RX12 251 13 27 := ⟨rfl, by decide, in_13, tyX12_ok, nmX12, hp_mu (tm_6_10 (List.mem_of_getElem? (i := 9) rfl)) rfl⟩
theorem fl_X12_66 : hp_F RX12 66 13 28 := ⟨rfl, by decide, in_13, tyX12_ok, nmX12, hp_mu (tm_6_10 (List.mem_of_getElem? (i := 10) rfl)) rfl⟩
theorem fl_X12_282 : hp_F RX12 282 13 29 := ⟨rfl, by decide, in_13, tyX12_ok, nmX12, hp_mu (tm_6_10 (List.mem_of_getElem? (i := 11) rfl)) rfl⟩
theorem fl_X12_70 : hp_F RX12 70 13 30 := ⟨rfl, by decide, in_13, tyX12_ok, nmX12, hp_mu (tm_6_10 (List.mem_of_getElem? (i := 12) rfl)) rfl⟩
theorem fl_X12_73 : hp_F RX12 73 13 31 := ⟨rfl, by decide, in_13, tyX12_ok, nmX12, hp_mu (tm_6_10 (List.mem_of_getElem? (i := 13) rfl)) rfl⟩
theorem fl_X12_341 : hp_F RX12 341 13 32 := ⟨rfl, by decide, in_13, tyX12_ok, nmX12, hp_mu (tm_6_10 (List.mem_of_getElem? (i := 14) rfl)) rfl⟩
theorem fl_X12_396 : hp_F RX12 396 13 33 := ⟨rfl, by decide, in_13, tyX12_ok, nmX12, hp_mu (tm_6_10 (List.mem_of_getElem? (i := 15) rfl)) rfl⟩
theorem fl_X12_399 : hp_F RX12 399 13 34 := ⟨rfl, by decide, in_13, tyX12_ok, nmX12, hp_mu (tm_6_11 (List.mem_of_getElem? (i := 0) rfl)) rfl⟩
theorem fl_X12_402 : hp_F RX12 402 13 35 := ⟨rfl, by decide, in_13, tyX12_ok, nmX12, hp_mu (tm_6_11 (List.mem_of_getElem? (i := 1) rfl)) rfl⟩
theorem fl_X12_76 : hp_F RX12 76 13 36 := ⟨rfl, by decide, in_13, tyX12_ok, nmX12, hp_mu (tm_6_11 (List.mem_of_getElem? (i := 2) rfl)) rfl⟩
theorem fl_X12_79 : hp_F RX12 79 13 37 := ⟨rfl, by decide, in_13, tyX12_ok, nmX12, hp_mu (tm_6_11 (List.mem_of_getElem? (i := 3) rfl)) rfl⟩
theorem fl_X12_82 : hp_F RX12 82 13 38 := ⟨rfl, by decide, in_13, tyX12_ok, nmX12, hp_mu (tm_6_11 (List.mem_of_getElem? (i := 4) rfl)) rfl⟩
theorem fl_X12_411 : hp_F RX12 411 13 39 := ⟨rfl, by decide, in_13, tyX12_ok, nmX12, hp_mu (tm_6_11 (List.mem_of_getElem? (i := 5) rfl)) rfl⟩
theorem fl_X12_85 : hp_F RX12 85 13 40 := ⟨rfl, by decide, in_13, tyX12_ok, nmX12, hp_mu (tm_6_11 (List.mem_of_getElem? (i := 6) rfl)) rfl⟩
theorem fl_X12_88 : hp_F RX12 88 13 41 := ⟨rfl, by decide, in_13, tyX12_ok, nmX12, hp_mu (tm_6_11 (List.mem_of_getElem? (i := 7) rfl)) rfl⟩
theorem fl_X12_91 : hp_F RX12 91 13 42 := ⟨rfl, by decide, in_13, tyX12_ok, nmX12, hp_mu (tm_6_11 (List.mem_of_getElem? (i := 8) rfl)) rfl⟩
theorem fl_X12_94 : hp_F RX12 94 13 43 := ⟨rfl, by decide, in_13, tyX12_ok, nmX12, hp_mu (tm_6_11 (List.mem_of_getElem? (i := 9) rfl)) rfl⟩
theorem fl_X12_97 : hp_F RX12 97 13 44 := ⟨rfl, by decide, in_13, tyX12_ok, nmX12, hp_mu (tm_6_11 (List.mem_of_getElem? (i := 10) rfl)) rfl⟩
theorem fl_X12_417 : hp_F RX12 417 13 45 := ⟨rfl, by decide, in_13, tyX12_ok, nmX12, hp_mu (tm_6_11 (List.mem_of_getElem? (i := 11) rfl)) rfl⟩
theorem fl_X12_100 : hp_F RX12 100 13 46 := ⟨rfl, by decide, in_13, tyX12_ok, nmX12, hp_mu (tm_6_11 (List.mem_of_getElem? (i := 12) rfl)) rfl⟩
theorem fl_X12_432 : hp_F RX12 432 13 47 := ⟨rfl, by decide, in_13, tyX12_ok, nmX12, hp_mu (tm_6_11 (List.mem_of_getElem? (i := 13) rfl)) rfl⟩
theorem kc_X12_255 : Cond.constantLong RX12 255 (27) ∈ lw_u := hp_mu (tm_7_5 (List.mem_of_getElem? (i := 7) rfl)) rfl
theorem kc_X12_257 : Cond.constantLong RX12 257 (96) ∈ lw_u := hp_mu (tm_7_5 (List.mem_of_getElem? (i := 8) rfl)) rfl
theorem kc_X12_117 : Cond.constantLong RX12 117 (3) ∈ lw_u := hp_mu (tm_7_9 (List.mem_of_getElem? (i := 9) rfl)) rfl
theorem kc_X12_119 : Cond.constantLong RX12 119 (7) ∈ lw_u := hp_mu (tm_7_9 (List.mem_of_getElem? (i := 10) rfl)) rfl
theorem kc_X12_160 : Cond.constant RX12 160 (1073741824) ∈ lw_u := hp_mu (tm_7_10 (List.mem_of_getElem? (i := 6) rfl)) rfl
theorem kc_X12_324 : Cond.constant RX12 324 (99999) ∈ lw_u := hp_mu (tm_7_13 (List.mem_of_getElem? (i := 15) rfl)) rfl
theorem kc_X12_375 : Cond.constant RX12 375 (1000000) ∈ lw_u := hp_mu (tm_8_10 (List.mem_of_getElem? (i := 9) rfl)) rfl
theorem lb_X11_init : hp_LB yX11_init cX11_init 1 none 0 := ⟨hp_mu (tm_1_1 (List.mem_of_getElem? (i := 8) rfl)) rfl, hp_mu (tb_1 (List.mem_of_getElem? (i := 1) rfl)) rfl, by decide, by decide +kernel⟩
theorem li_X11_init : Cond.instanceMethod yX11_init ∈ lw_u := hp_mu (tm_1_1 (List.mem_of_getElem? (i := 7) rfl)) rfl
theorem lb_X10_init : hp_LB yX10_init cX10_init 2 none 0 := ⟨hp_mu (tm_1_2 (List.mem_of_getElem? (i := 0) rfl)) rfl, hp_mu (tb_1 (List.mem_of_getElem? (i := 2) rfl)) rfl, by decide, by decide +kernel⟩
theorem li_X10_init : Cond.instanceMethod yX10_init ∈ lw_u := hp_mu (tm_1_1 (List.mem_of_getElem? (i := 15) rfl)) rfl
theorem lb_X5_init : hp_LB yX5_init cX5_init 1 none 0 := ⟨hp_mu (tm_1_2 (List.mem_of_getElem? (i := 13) rfl)) rfl, hp_mu (tb_1 (List.mem_of_getElem? (i := 3) rfl)) rfl, by decide, by decide +kernel⟩
theorem li_X5_init : Cond.instanceMethod yX5_init ∈ lw_u := hp_mu (tm_1_2 (List.mem_of_getElem? (i := 12) rfl)) rfl
theorem lb_X8_init : hp_LB yX8_init cX8_init 1 none 0 := ⟨hp_mu (tm_1_4 (List.mem_of_getElem? (i := 0) rfl)) rfl, hp_mu (tb_1 (List.mem_of_getElem? (i := 4) rfl)) rfl, by decide, by decide +kernel⟩
theorem li_X8_init : Cond.instanceMethod yX8_init ∈ lw_u := hp_mu (tm_1_3 (List.mem_of_getElem? (i := 15) rfl)) rfl
theorem lb_X2_init : hp_LB yX2_init cX2_init 2 none 0 := ⟨hp_mu (tm_1_5 (List.mem_of_getElem? (i := 9) rfl)) rfl, hp_mu (tb_1 (List.mem_of_getElem? (i := 5) rfl)) rfl, by decide, by decide +kernel⟩
theorem li_X2_init : Cond.instanceMethod yX2_init ∈ lw_u := hp_mu (tm_1_5 (List.mem_of_getElem? (i := 8) rfl)) rfl
theorem lb_X9_init : hp_LB yX9_init cX9_init 1 none 0 := ⟨hp_mu (tm_1_6 (List.mem_of_getElem? (i := 0) rfl)) rfl, hp_mu (tb_1 (List.mem_of_getElem? (i := 6) rfl)) rfl, by decide, by decide +kernel⟩
theorem li_X9_init : Cond.instanceMethod yX9_init ∈ lw_u := hp_mu (tm_1_5 (List.mem_of_getElem? (i := 15) rfl)) rfl
theorem lb_X1_init : hp_LB yX1_init cX1_init 1 none 0 := ⟨hp_mu (tm_1_7 (List.mem_of_getElem? (i := 11) rfl)) rfl, hp_mu (tb_1 (List.mem_of_getElem? (i := 7) rfl)) rfl, by decide, by decide +kernel⟩
theorem li_X1_init : Cond.instanceMethod yX1_init ∈ lw_u := hp_mu (tm_1_7 (List.mem_of_getElem? (i := 10) rfl)) rfl
theorem lb_X7_init : hp_LB yX7_init cX7_init 1 none 0 := ⟨hp_mu (tm_1_9 (List.mem_of_getElem? (i := 11) rfl)) rfl, hp_mu (tb_1 (List.mem_of_getElem? (i := 8) rfl)) rfl, by decide, by decide +kernel⟩
theorem li_X7_init : Cond.instanceMethod yX7_init ∈ lw_u := hp_mu (tm_1_9 (List.mem_of_getElem? (i := 10) rfl)) rfl
theorem lb_X0_init : hp_LB yX0_init cX0_init 1 none 0 := ⟨hp_mu (tm_1_14 (List.mem_of_getElem? (i := 2) rfl)) rfl, hp_mu (tb_1 (List.mem_of_getElem? (i := 9) rfl)) rfl, by decide, by decide +kernel⟩
theorem li_X0_init : Cond.instanceMethod yX0_init ∈ lw_u := hp_mu (tm_1_14 (List.mem_of_getElem? (i := 1) rfl)) rfl
theorem lb_X3_init : hp_LB yX3_init cX3_init 1 none 0 := ⟨hp_mu (tb_2 (List.mem_of_getElem? (i := 10) rfl)) rfl, hp_mu (tb_1 (List.mem_of_getElem? (i := 10) rfl)) rfl, by decide, by decide +kernel⟩
theorem li_X3_init : Cond.instanceMethod yX3_init ∈ lw_u := hp_mu (tb_2 (List.mem_of_getElem? (i := 9) rfl)) rfl
theorem lb_X6_init : hp_LB yX6_init cX6_init 1 none 0 := ⟨hp_mu (tm_2_1 (List.mem_of_getElem? (i := 0) rfl)) rfl, hp_mu (tb_1 (List.mem_of_getElem? (i := 11) rfl)) rfl, by decide, by decide +kernel⟩
theorem li_X6_init : Cond.instanceMethod yX6_init ∈ lw_u := hp_mu (tb_2 (List.mem_of_getElem? (i := 15) rfl)) rfl
theorem lb_X11_status : hp_LB yX11_status cX11_status 1 (some .int) 0 := ⟨hp_mu (tm_2_9 (List.mem_of_getElem? (i := 5) rfl)) rfl, hp_mu (tb_1 (List.mem_of_getElem? (i := 1) rfl)) rfl, by decide, by decide +kernel⟩
theorem lv_X11_status : hp_LV yX11_status 12 := ⟨hp_mu (tm_2_9 (List.mem_of_getElem? (i := 3) rfl)) rfl, hp_mu (tm_2_9 (List.mem_of_getElem? (i := 4) rfl)) rfl, rfl, rfl, rfl⟩
theorem lb_X11_feed : hp_LB yX11_feed cX11_feed 6 (some .int) 5 := ⟨hp_mu (tm_2_9 (List.mem_of_getElem? (i := 9) rfl)) rfl, hp_mu (tb_1 (List.mem_of_getElem? (i := 1) rfl)) rfl, by decide, by decide +kernel⟩
theorem lv_X11_feed : hp_LV yX11_feed 12 := ⟨hp_mu (tm_2_9 (List.mem_of_getElem? (i := 7) rfl)) rfl, hp_mu (tm_2_9 (List.mem_of_getElem? (i := 8) rfl)) rfl, rfl, rfl, rfl⟩
theorem lb_X11_putOnTape : hp_LB yX11_putOnTape cX11_putOnTape 3 none 1 := ⟨hp_mu (tm_2_9 (List.mem_of_getElem? (i := 13) rfl)) rfl, hp_mu (tb_1 (List.mem_of_getElem? (i := 1) rfl)) rfl, by decide, by decide +kernel⟩
theorem lv_X11_putOnTape : hp_LV yX11_putOnTape 12 := ⟨hp_mu (tm_2_9 (List.mem_of_getElem? (i := 12) rfl)) rfl, hp_mu (tb_0 (List.mem_of_getElem? (i := 0) rfl)) rfl, rfl, rfl, rfl⟩
theorem lb_X11_load : hp_LB yX11_load cX11_load 4 (some .int) 1 := ⟨hp_mu (tm_2_10 (List.mem_of_getElem? (i := 1) rfl)) rfl, hp_mu (tb_1 (List.mem_of_getElem? (i := 1) rfl)) rfl, by decide, by decide +kernel⟩
theorem lv_X11_load : hp_LV yX11_load 12 := ⟨hp_mu (tm_2_9 (List.mem_of_getElem? (i := 15) rfl)) rfl, hp_mu (tm_2_10 (List.mem_of_getElem? (i := 0) rfl)) rfl, rfl, rfl, rfl⟩
theorem lb_X11_refuse : hp_LB yX11_refuse cX11_refuse 2 (some .int) 1 := ⟨hp_mu (tm_2_10 (List.mem_of_getElem? (i := 5) rfl)) rfl, hp_mu (tb_1 (List.mem_of_getElem? (i := 1) rfl)) rfl, by decide, by decide +kernel⟩
theorem lv_X11_refuse : hp_LV yX11_refuse 12 := ⟨hp_mu (tm_2_10 (List.mem_of_getElem? (i := 4) rfl)) rfl, hp_mu (tb_0 (List.mem_of_getElem? (i := 1) rfl)) rfl, rfl, rfl, rfl⟩
theorem lb_X10_renew : hp_LB yX10_renew cX10_renew 4 none 0 := ⟨hp_mu (tm_2_10 (List.mem_of_getElem? (i := 9) rfl)) rfl, hp_mu (tb_1 (List.mem_of_getElem? (i := 2) rfl)) rfl, by decide, by decide +kernel⟩
theorem lv_X10_renew : hp_LV yX10_renew 11 := ⟨hp_mu (tm_2_10 (List.mem_of_getElem? (i := 7) rfl)) rfl, hp_mu (tm_2_10 (List.mem_of_getElem? (i := 8) rfl)) rfl, rfl, rfl, rfl⟩
theorem lb_X10_logAt : hp_LB yX10_logAt cX10_logAt 2 (some (.object "ProvenRecord$Log")) 1 := ⟨hp_mu (tm_2_10 (List.mem_of_getElem? (i := 13) rfl)) rfl, hp_mu (tb_1 (List.mem_of_getElem? (i := 2) rfl)) rfl, by decide, by decide +kernel⟩
theorem lv_X10_logAt : hp_LV yX10_logAt 11 := ⟨hp_mu (tm_2_10 (List.mem_of_getElem? (i := 11) rfl)) rfl, hp_mu (tm_2_10 (List.mem_of_getElem? (i := 12) rfl)) rfl, rfl, rfl, rfl⟩
theorem lb_X10_watcherAt : hp_LB yX10_watcherAt cX10_watcherAt 2 (some (.object "ProvenRecord$Watcher")) 1 := ⟨hp_mu (tm_2_11 (List.mem_of_getElem? (i := 1) rfl)) rfl, hp_mu (tb_1 (List.mem_of_getElem? (i := 2) rfl)) rfl, by decide, by decide +kernel⟩
theorem lv_X10_watcherAt : hp_LV yX10_watcherAt 11 := ⟨hp_mu (tm_2_10 (List.mem_of_getElem? (i := 15) rfl)) rfl, hp_mu (tm_2_11 (List.mem_of_getElem? (i := 0) rfl)) rfl, rfl, rfl, rfl⟩
theorem lb_X7_renew : hp_LB yX7_renew cX7_renew 1 none 0 := ⟨hp_mu (tm_2_11 (List.mem_of_getElem? (i := 5) rfl)) rfl, hp_mu (tb_1 (List.mem_of_getElem? (i := 8) rfl)) rfl, by decide, by decide +kernel⟩
theorem lv_X7_renew : hp_LV yX7_renew 8 := ⟨hp_mu (tm_2_11 (List.mem_of_getElem? (i := 3) rfl)) rfl, hp_mu (tm_2_11 (List.mem_of_getElem? (i := 4) rfl)) rfl, rfl, rfl, rfl⟩
theorem lb_X7_trust : hp_LB yX7_trust cX7_trust 3 none 2 := ⟨hp_mu (tm_2_11 (List.mem_of_getElem? (i := 9) rfl)) rfl, hp_mu (tb_1 (List.mem_of_getElem? (i := 8) rfl)) rfl, by decide, by decide +kernel⟩
theorem lv_X7_trust : hp_LV yX7_trust 8 := ⟨hp_mu (tm_2_11 (List.mem_of_getElem? (i := 7) rfl)) rfl, hp_mu (tm_2_11 (List.mem_of_getElem? (i := 8) rfl)) rfl, rfl, rfl, rfl⟩
theorem lb_X11_loadLines : hp_LB yX11_loadLines cX11_loadLines 5 (some .boolean) 1 := ⟨hp_mu (tm_2_11 (List.mem_of_getElem? (i := 13) rfl)) rfl, hp_mu (tb_1 (List.mem_of_getElem? (i := 1) rfl)) rfl, by decide, by decide +kernel⟩
theorem lv_X11_loadLines : hp_LV yX11_loadLines 12 := ⟨hp_mu (tm_2_11 (List.mem_of_getElem? (i := 12) rfl)) rfl, hp_mu (tb_0 (List.mem_of_getElem? (i := 2) rfl)) rfl, rfl, rfl, rfl⟩
theorem lb_X3_begin : hp_LB yX3_begin cX3_begin 3 none 2 := ⟨hp_mu (tm_2_12 (List.mem_of_getElem? (i := 1) rfl)) rfl, hp_mu (tb_1 (List.mem_of_getElem? (i := 10) rfl)) rfl, by decide, by decide +kernel⟩
theorem lv_X3_begin : hp_LV yX3_begin 4 := ⟨hp_mu (tm_2_11 (List.mem_of_getElem? (i := 15) rfl)) rfl, hp_mu (tm_2_12 (List.mem_of_getElem? (i := 0) rfl)) rfl, rfl, rfl, rfl⟩
theorem lb_X6_begin : hp_LB yX6_begin cX6_begin 3 none 2 := ⟨hp_mu (tm_2_12 (List.mem_of_getElem? (i := 5) rfl)) rfl, hp_mu (tb_1 (List.mem_of_getElem? (i := 11) rfl)) rfl, by decide, by decide +kernel⟩
theorem lv_X6_begin : hp_LV yX6_begin 7 := ⟨hp_mu (tm_2_12 (List.mem_of_getElem? (i := 3) rfl)) rfl, hp_mu (tm_2_12 (List.mem_of_getElem? (i := 4) rfl)) rfl, rfl, rfl, rfl⟩
theorem lb_J9_min_7cf53 : hp_LB yJ9_min_7cf53 cJ9_min_7cf53 2 (some .int) 2 := ⟨hp_mu (tm_2_12 (List.mem_of_getElem? (i := 8) rfl)) rfl, hp_mu (tb_1 (List.mem_of_getElem? (i := 13) rfl)) rfl, by decide, by decide +kernel⟩
theorem ls_J9_min_7cf53 : Cond.static yJ9_min_7cf53 ∈ lw_u := hp_mu (tm_2_12 (List.mem_of_getElem? (i := 7) rfl)) rfl
theorem lb_J9_max_7cf53 : hp_LB yJ9_max_7cf53 cJ9_max_7cf53 2 (some .int) 2 := ⟨hp_mu (tm_2_12 (List.mem_of_getElem? (i := 11) rfl)) rfl, hp_mu (tb_1 (List.mem_of_getElem? (i := 13) rfl)) rfl, by decide, by decide +kernel⟩
theorem ls_J9_max_7cf53 : Cond.static yJ9_max_7cf53 ∈ lw_u := hp_mu (tm_2_12 (List.mem_of_getElem? (i := 10) rfl)) rfl
theorem lb_X6_advance : hp_LB yX6_advance cX6_advance 2 none 0 := ⟨hp_mu (tm_2_12 (List.mem_of_getElem? (i := 15) rfl)) rfl, hp_mu (tb_1 (List.mem_of_getElem? (i := 11) rfl)) rfl, by decide, by decide +kernel⟩
theorem lv_X6_advance : hp_LV yX6_advance 7 := ⟨hp_mu (tm_2_12 (List.mem_of_getElem? (i := 13) rfl)) rfl, hp_mu (tm_2_12 (List.mem_of_getElem? (i := 14) rfl)) rfl, rfl, rfl, rfl⟩
theorem lb_X6_byteAt : hp_LB yX6_byteAt cX6_byteAt 2 (some .int) 1 := ⟨hp_mu (tm_2_13 (List.mem_of_getElem? (i := 3) rfl)) rfl, hp_mu (tb_1 (List.mem_of_getElem? (i := 11) rfl)) rfl, by decide, by decide +kernel⟩
theorem lv_X6_byteAt : hp_LV yX6_byteAt 7 := ⟨hp_mu (tm_2_13 (List.mem_of_getElem? (i := 2) rfl)) rfl, hp_mu (tb_0 (List.mem_of_getElem? (i := 3) rfl)) rfl, rfl, rfl, rfl⟩
theorem lb_X6_isBlank : hp_LB yX6_isBlank cX6_isBlank 1 (some .boolean) 1 := ⟨hp_mu (tm_2_13 (List.mem_of_getElem? (i := 6) rfl)) rfl, hp_mu (tb_1 (List.mem_of_getElem? (i := 11) rfl)) rfl, by decide, by decide +kernel⟩
theorem ls_X6_isBlank : Cond.static yX6_isBlank ∈ lw_u := hp_mu (tm_2_13 (List.mem_of_getElem? (i := 5) rfl)) rfl
theorem lb_X6_kindOf : hp_LB yX6_kindOf cX6_kindOf 1 (some .int) 1 := ⟨hp_mu (tm_2_13 (List.mem_of_getElem? (i := 9) rfl)) rfl, hp_mu (tb_1 (List.mem_of_getElem? (i := 11) rfl)) rfl, by decide, by decide +kernel⟩
theorem ls_X6_kindOf : Cond.static yX6_kindOf ∈ lw_u := hp_mu (tm_2_13 (List.mem_of_getElem? (i := 8) rfl)) rfl
theorem lb_X3_readModulus : hp_LB yX3_readModulus cX3_readModulus 2 (some .boolean) 1 := ⟨hp_mu (tm_2_13 (List.mem_of_getElem? (i := 13) rfl)) rfl, hp_mu (tb_1 (List.mem_of_getElem? (i := 10) rfl)) rfl, by decide, by decide +kernel⟩
theorem lv_X3_readModulus : hp_LV yX3_readModulus 4 := ⟨hp_mu (tm_2_13 (List.mem_of_getElem? (i := 11) rfl)) rfl, hp_mu (tm_2_13 (List.mem_of_getElem? (i := 12) rfl)) rfl, rfl, rfl, rfl⟩
theorem lb_X6_spells : hp_LB yX6_spells cX6_spells 4 (some .boolean) 1 := ⟨hp_mu (tm_2_14 (List.mem_of_getElem? (i := 2) rfl)) rfl, hp_mu (tb_1 (List.mem_of_getElem? (i := 11) rfl)) rfl, by decide, by decide +kernel⟩
theorem lv_X6_spells : hp_LV yX6_spells 7 := ⟨hp_mu (tm_2_14 (List.mem_of_getElem? (i := 0) rfl)) rfl, hp_mu (tm_2_14 (List.mem_of_getElem? (i := 1) rfl)) rfl, rfl, rfl, rfl⟩
theorem lb_J0_length_8abf5 : hp_LB yJ0_length_8abf5 cJ0_length_8abf5 1 (some .int) 0 := ⟨hp_mu (tm_2_14 (List.mem_of_getElem? (i := 6) rfl)) rfl, hp_mu (tb_1 (List.mem_of_getElem? (i := 14) rfl)) rfl, by decide, by decide +kernel⟩
theorem li_J0_length_8abf5 : Cond.instanceMethod yJ0_length_8abf5 ∈ lw_u := hp_mu (tm_2_14 (List.mem_of_getElem? (i := 4) rfl)) rfl
theorem lb_J0_coder_7d493 : hp_LB yJ0_coder_7d493 cJ0_coder_7d493 1 (some .byte) 0 := ⟨hp_mu (tm_2_14 (List.mem_of_getElem? (i := 10) rfl)) rfl, hp_mu (tb_1 (List.mem_of_getElem? (i := 14) rfl)) rfl, by decide, by decide +kernel⟩
theorem li_J0_coder_7d493 : Cond.instanceMethod yJ0_coder_7d493 ∈ lw_u := hp_mu (tm_2_14 (List.mem_of_getElem? (i := 8) rfl)) rfl
theorem lb_J0_charAt_5068e : hp_LB yJ0_charAt_5068e cJ0_charAt_5068e 2 (some .char) 1 := ⟨hp_mu (tb_3 (List.mem_of_getElem? (i := 0) rfl)) rfl, hp_mu (tb_1 (List.mem_of_getElem? (i := 14) rfl)) rfl, by decide, by decide +kernel⟩
theorem li_J0_charAt_5068e : Cond.instanceMethod yJ0_charAt_5068e ∈ lw_u := hp_mu (tm_2_14 (List.mem_of_getElem? (i := 14) rfl)) rfl
theorem lb_J0_isLatin1_aae02 : hp_LB yJ0_isLatin1_aae02 cJ0_isLatin1_aae02 1 (some .boolean) 0 := ⟨hp_mu (tb_3 (List.mem_of_getElem? (i := 4) rfl)) rfl, hp_mu (tb_1 (List.mem_of_getElem? (i := 14) rfl)) rfl, by decide, by decide +kernel⟩
theorem li_J0_isLatin1_aae02 : Cond.instanceMethod yJ0_isLatin1_aae02 ∈ lw_u := hp_mu (tb_3 (List.mem_of_getElem? (i := 2) rfl)) rfl
theorem lb_J1_charAt_3b067 : hp_LB yJ1_charAt_3b067 cJ1_charAt_3b067 2 (some .char) 2 := ⟨hp_mu (tb_3 (List.mem_of_getElem? (i := 7) rfl)) rfl, hp_mu (tb_1 (List.mem_of_getElem? (i := 15) rfl)) rfl, by decide, by decide +kernel⟩
theorem ls_J1_charAt_3b067 : Cond.static yJ1_charAt_3b067 ∈ lw_u := hp_mu (tb_3 (List.mem_of_getElem? (i := 6) rfl)) rfl
theorem lb_J0_checkIndex_df160 : hp_LB yJ0_checkIndex_df160 cJ0_checkIndex_df160 2 none 2 := ⟨hp_mu (tb_3 (List.mem_of_getElem? (i := 10) rfl)) rfl, hp_mu (tb_1 (List.mem_of_getElem? (i := 14) rfl)) rfl, by decide, by decide +kernel⟩
theorem ls_J0_checkIndex_df160 : Cond.static yJ0_checkIndex_df160 ∈ lw_u := hp_mu (tb_3 (List.mem_of_getElem? (i := 9) rfl)) rfl
theorem lb_J3_checkIndex_8e157 : hp_LB yJ3_checkIndex_8e157 cJ3_checkIndex_8e157 3 (some .int) 3 := ⟨hp_mu (tb_3 (List.mem_of_getElem? (i := 15) rfl)) rfl, hp_mu (tm_1_1 (List.mem_of_getElem? (i := 0) rfl)) rfl, by decide, by decide +kernel⟩
theorem ls_J3_checkIndex_8e157 : Cond.static yJ3_checkIndex_8e157 ∈ lw_u := hp_mu (tb_3 (List.mem_of_getElem? (i := 14) rfl)) rfl
theorem lb_X3_readNumber : hp_LB yX3_readNumber cX3_readNumber 3 (some .boolean) 2 := ⟨hp_mu (tm_3_2 (List.mem_of_getElem? (i := 6) rfl)) rfl, hp_mu (tb_1 (List.mem_of_getElem? (i := 10) rfl)) rfl, by decide, by decide +kernel⟩
theorem lv_X3_readNumber : hp_LV yX3_readNumber 4 := ⟨hp_mu (tm_3_2 (List.mem_of_getElem? (i := 5) rfl)) rfl, hp_mu (tb_0 (List.mem_of_getElem? (i := 4) rfl)) rfl, rfl, rfl, rfl⟩
theorem lb_X3_stray : hp_LB yX3_stray cX3_stray 1 (some .boolean) 0 := ⟨hp_mu (tm_3_2 (List.mem_of_getElem? (i := 10) rfl)) rfl, hp_mu (tb_1 (List.mem_of_getElem? (i := 10) rfl)) rfl, by decide, by decide +kernel⟩
theorem lv_X3_stray : hp_LV yX3_stray 4 := ⟨hp_mu (tm_3_2 (List.mem_of_getElem? (i := 9) rfl)) rfl, hp_mu (tb_0 (List.mem_of_getElem? (i := 5) rfl)) rfl, rfl, rfl, rfl⟩
theorem lb_X3_fail : hp_LB yX3_fail cX3_fail 2 (some .boolean) 1 := ⟨hp_mu (tm_3_2 (List.mem_of_getElem? (i := 14) rfl)) rfl, hp_mu (tb_1 (List.mem_of_getElem? (i := 10) rfl)) rfl, by decide, by decide +kernel⟩
theorem lv_X3_fail : hp_LV yX3_fail 4 := ⟨hp_mu (tm_3_2 (List.mem_of_getElem? (i := 13) rfl)) rfl, hp_mu (tb_0 (List.mem_of_getElem? (i := 6) rfl)) rfl, rfl, rfl, rfl⟩
theorem lb_X3_readSign : hp_LB yX3_readSign cX3_readSign 1 (some .boolean) 0 := ⟨hp_mu (tm_3_3 (List.mem_of_getElem? (i := 2) rfl)) rfl, hp_mu (tb_1 (List.mem_of_getElem? (i := 10) rfl)) rfl, by decide, by decide +kernel⟩
theorem lv_X3_readSign : hp_LV yX3_readSign 4 := ⟨hp_mu (tm_3_3 (List.mem_of_getElem? (i := 1) rfl)) rfl, hp_mu (tb_0 (List.mem_of_getElem? (i := 7) rfl)) rfl, rfl, rfl, rfl⟩
theorem lb_X3_isAtEnd : hp_LB yX3_isAtEnd cX3_isAtEnd 1 (some .boolean) 0 := ⟨hp_mu (tm_3_3 (List.mem_of_getElem? (i := 6) rfl)) rfl, hp_mu (tb_1 (List.mem_of_getElem? (i := 10) rfl)) rfl, by decide, by decide +kernel⟩
theorem lv_X3_isAtEnd : hp_LV yX3_isAtEnd 4 := ⟨hp_mu (tm_3_3 (List.mem_of_getElem? (i := 4) rfl)) rfl, hp_mu (tm_3_3 (List.mem_of_getElem? (i := 5) rfl)) rfl, rfl, rfl, rfl⟩
theorem lb_X3_readLine : hp_LB yX3_readLine cX3_readLine 4 (some .boolean) 2 := ⟨hp_mu (tm_3_3 (List.mem_of_getElem? (i := 11) rfl)) rfl, hp_mu (tb_1 (List.mem_of_getElem? (i := 10) rfl)) rfl, by decide, by decide +kernel⟩
theorem lv_X3_readLine : hp_LV yX3_readLine 4 := ⟨hp_mu (tm_3_3 (List.mem_of_getElem? (i := 9) rfl)) rfl, hp_mu (tm_3_3 (List.mem_of_getElem? (i := 10) rfl)) rfl, rfl, rfl, rfl⟩
theorem lb_X3_readAdd : hp_LB yX3_readAdd cX3_readAdd 2 (some .boolean) 1 := ⟨hp_mu (tm_3_4 (List.mem_of_getElem? (i := 0) rfl)) rfl, hp_mu (tb_1 (List.mem_of_getElem? (i := 10) rfl)) rfl, by decide, by decide +kernel⟩
theorem lv_X3_readAdd : hp_LV yX3_readAdd 4 := ⟨hp_mu (tm_3_3 (List.mem_of_getElem? (i := 15) rfl)) rfl, hp_mu (tb_0 (List.mem_of_getElem? (i := 8) rfl)) rfl, rfl, rfl, rfl⟩
theorem lb_X3_hasRoom : hp_LB yX3_hasRoom cX3_hasRoom 3 (some .boolean) 2 := ⟨hp_mu (tm_3_4 (List.mem_of_getElem? (i := 4) rfl)) rfl, hp_mu (tb_1 (List.mem_of_getElem? (i := 10) rfl)) rfl, by decide, by decide +kernel⟩
theorem lv_X3_hasRoom : hp_LV yX3_hasRoom 4 := ⟨hp_mu (tm_3_4 (List.mem_of_getElem? (i := 3) rfl)) rfl, hp_mu (tb_0 (List.mem_of_getElem? (i := 9) rfl)) rfl, rfl, rfl, rfl⟩
theorem lb_X9_clear : hp_LB yX9_clear cX9_clear 1 none 0 := ⟨hp_mu (tm_3_4 (List.mem_of_getElem? (i := 8) rfl)) rfl, hp_mu (tb_1 (List.mem_of_getElem? (i := 6) rfl)) rfl, by decide, by decide +kernel⟩
theorem lv_X9_clear : hp_LV yX9_clear 10 := ⟨hp_mu (tm_3_4 (List.mem_of_getElem? (i := 6) rfl)) rfl, hp_mu (tm_3_4 (List.mem_of_getElem? (i := 7) rfl)) rfl, rfl, rfl, rfl⟩
theorem lb_X6_copyWord : hp_LB yX6_copyWord cX6_copyWord 3 none 1 := ⟨hp_mu (tm_3_4 (List.mem_of_getElem? (i := 12) rfl)) rfl, hp_mu (tb_1 (List.mem_of_getElem? (i := 11) rfl)) rfl, by decide, by decide +kernel⟩
theorem lv_X6_copyWord : hp_LV yX6_copyWord 7 := ⟨hp_mu (tm_3_4 (List.mem_of_getElem? (i := 10) rfl)) rfl, hp_mu (tm_3_4 (List.mem_of_getElem? (i := 11) rfl)) rfl, rfl, rfl, rfl⟩
theorem lb_X9_put : hp_LB yX9_put cX9_put 2 none 1 := ⟨hp_mu (tm_3_5 (List.mem_of_getElem? (i := 1) rfl)) rfl, hp_mu (tb_1 (List.mem_of_getElem? (i := 6) rfl)) rfl, by decide, by decide +kernel⟩
theorem lv_X9_put : hp_LV yX9_put 10 := ⟨hp_mu (tm_3_4 (List.mem_of_getElem? (i := 15) rfl)) rfl, hp_mu (tm_3_5 (List.mem_of_getElem? (i := 0) rfl)) rfl, rfl, rfl, rfl⟩
theorem lb_X3_readShow : hp_LB yX3_readShow cX3_readShow 2 (some .boolean) 1 := ⟨hp_mu (tm_3_5 (List.mem_of_getElem? (i := 9) rfl)) rfl, hp_mu (tb_1 (List.mem_of_getElem? (i := 10) rfl)) rfl, by decide, by decide +kernel⟩
theorem lv_X3_readShow : hp_LV yX3_readShow 4 := ⟨hp_mu (tm_3_5 (List.mem_of_getElem? (i := 8) rfl)) rfl, hp_mu (tb_0 (List.mem_of_getElem? (i := 10) rfl)) rfl, rfl, rfl, rfl⟩
theorem lb_X10_addWord : hp_LB yX10_addWord cX10_addWord 3 none 2 := ⟨hp_mu (tm_3_5 (List.mem_of_getElem? (i := 13) rfl)) rfl, hp_mu (tb_1 (List.mem_of_getElem? (i := 2) rfl)) rfl, by decide, by decide +kernel⟩
theorem lv_X10_addWord : hp_LV yX10_addWord 11 := ⟨hp_mu (tm_3_5 (List.mem_of_getElem? (i := 11) rfl)) rfl, hp_mu (tm_3_5 (List.mem_of_getElem? (i := 12) rfl)) rfl, rfl, rfl, rfl⟩
theorem lb_X2_putWord : hp_LB yX2_putWord cX2_putWord 3 none 2 := ⟨hp_mu (tm_3_6 (List.mem_of_getElem? (i := 1) rfl)) rfl, hp_mu (tb_1 (List.mem_of_getElem? (i := 5) rfl)) rfl, by decide, by decide +kernel⟩
theorem lv_X2_putWord : hp_LV yX2_putWord 3 := ⟨hp_mu (tm_3_5 (List.mem_of_getElem? (i := 15) rfl)) rfl, hp_mu (tm_3_6 (List.mem_of_getElem? (i := 0) rfl)) rfl, rfl, rfl, rfl⟩
theorem lb_X9_copy : hp_LB yX9_copy cX9_copy 3 none 1 := ⟨hp_mu (tm_3_6 (List.mem_of_getElem? (i := 5) rfl)) rfl, hp_mu (tb_1 (List.mem_of_getElem? (i := 6) rfl)) rfl, by decide, by decide +kernel⟩
theorem lv_X9_copy : hp_LV yX9_copy 10 := ⟨hp_mu (tm_3_6 (List.mem_of_getElem? (i := 3) rfl)) rfl, hp_mu (tm_3_6 (List.mem_of_getElem? (i := 4) rfl)) rfl, rfl, rfl, rfl⟩
theorem lb_X9_letterAt : hp_LB yX9_letterAt cX9_letterAt 2 (some .int) 1 := ⟨hp_mu (tm_3_6 (List.mem_of_getElem? (i := 10) rfl)) rfl, hp_mu (tb_1 (List.mem_of_getElem? (i := 6) rfl)) rfl, by decide, by decide +kernel⟩
theorem lv_X9_letterAt : hp_LV yX9_letterAt 10 := ⟨hp_mu (tm_3_6 (List.mem_of_getElem? (i := 8) rfl)) rfl, hp_mu (tm_3_6 (List.mem_of_getElem? (i := 9) rfl)) rfl, rfl, rfl, rfl⟩
theorem lb_X9_markBy : hp_LB yX9_markBy cX9_markBy 4 (some .int) 1 := ⟨hp_mu (tm_3_6 (List.mem_of_getElem? (i := 15) rfl)) rfl, hp_mu (tb_1 (List.mem_of_getElem? (i := 6) rfl)) rfl, by decide, by decide +kernel⟩
theorem lv_X9_markBy : hp_LV yX9_markBy 10 := ⟨hp_mu (tm_3_6 (List.mem_of_getElem? (i := 13) rfl)) rfl, hp_mu (tm_3_6 (List.mem_of_getElem? (i := 14) rfl)) rfl, rfl, rfl, rfl⟩
theorem lb_X11_mixed : hp_LB yX11_mixed cX11_mixed 3 (some .int) 3 := ⟨hp_mu (tm_3_7 (List.mem_of_getElem? (i := 2) rfl)) rfl, hp_mu (tb_1 (List.mem_of_getElem? (i := 1) rfl)) rfl, by decide, by decide +kernel⟩
theorem ls_X11_mixed : Cond.static yX11_mixed ∈ lw_u := hp_mu (tm_3_7 (List.mem_of_getElem? (i := 1) rfl)) rfl
theorem lb_X10_forkLog : hp_LB yX10_forkLog cX10_forkLog 6 (some .int) 2 := ⟨hp_mu (tm_3_7 (List.mem_of_getElem? (i := 8) rfl)) rfl, hp_mu (tb_1 (List.mem_of_getElem? (i := 2) rfl)) rfl, by decide, by decide +kernel⟩
theorem lv_X10_forkLog : hp_LV yX10_forkLog 11 := ⟨hp_mu (tm_3_7 (List.mem_of_getElem? (i := 6) rfl)) rfl, hp_mu (tm_3_7 (List.mem_of_getElem? (i := 7) rfl)) rfl, rfl, rfl, rfl⟩
theorem lb_X2_wordAt : hp_LB yX2_wordAt cX2_wordAt 2 (some (.object "ProvenRecord$Word")) 1 := ⟨hp_mu (tm_3_7 (List.mem_of_getElem? (i := 12) rfl)) rfl, hp_mu (tb_1 (List.mem_of_getElem? (i := 5) rfl)) rfl, by decide, by decide +kernel⟩
theorem lv_X2_wordAt : hp_LV yX2_wordAt 3 := ⟨hp_mu (tm_3_7 (List.mem_of_getElem? (i := 10) rfl)) rfl, hp_mu (tm_3_7 (List.mem_of_getElem? (i := 11) rfl)) rfl, rfl, rfl, rfl⟩
theorem lb_X10_freezeHead : hp_LB yX10_freezeHead cX10_freezeHead 4 (some .int) 1 := ⟨hp_mu (tm_3_8 (List.mem_of_getElem? (i := 0) rfl)) rfl, hp_mu (tb_1 (List.mem_of_getElem? (i := 2) rfl)) rfl, by decide, by decide +kernel⟩
theorem lv_X10_freezeHead : hp_LV yX10_freezeHead 11 := ⟨hp_mu (tm_3_7 (List.mem_of_getElem? (i := 14) rfl)) rfl, hp_mu (tm_3_7 (List.mem_of_getElem? (i := 15) rfl)) rfl, rfl, rfl, rfl⟩
theorem lb_X10_headOf : hp_LB yX10_headOf cX10_headOf 3 (some .int) 2 := ⟨hp_mu (tm_3_8 (List.mem_of_getElem? (i := 4) rfl)) rfl, hp_mu (tb_1 (List.mem_of_getElem? (i := 2) rfl)) rfl, by decide, by decide +kernel⟩
theorem lv_X10_headOf : hp_LV yX10_headOf 11 := ⟨hp_mu (tm_3_8 (List.mem_of_getElem? (i := 2) rfl)) rfl, hp_mu (tm_3_8 (List.mem_of_getElem? (i := 3) rfl)) rfl, rfl, rfl, rfl⟩
theorem lb_X10_treeMark : hp_LB yX10_treeMark cX10_treeMark 8 (some .int) 3 := ⟨hp_mu (tm_3_8 (List.mem_of_getElem? (i := 8) rfl)) rfl, hp_mu (tb_1 (List.mem_of_getElem? (i := 2) rfl)) rfl, by decide, by decide +kernel⟩
theorem lv_X10_treeMark : hp_LV yX10_treeMark 11 := ⟨hp_mu (tm_3_8 (List.mem_of_getElem? (i := 6) rfl)) rfl, hp_mu (tm_3_8 (List.mem_of_getElem? (i := 7) rfl)) rfl, rfl, rfl, rfl⟩
theorem lb_X2_markAt : hp_LB yX2_markAt cX2_markAt 2 (some .int) 1 := ⟨hp_mu (tm_3_8 (List.mem_of_getElem? (i := 13) rfl)) rfl, hp_mu (tb_1 (List.mem_of_getElem? (i := 5) rfl)) rfl, by decide, by decide +kernel⟩
theorem lv_X2_markAt : hp_LV yX2_markAt 3 := ⟨hp_mu (tm_3_8 (List.mem_of_getElem? (i := 11) rfl)) rfl, hp_mu (tm_3_8 (List.mem_of_getElem? (i := 12) rfl)) rfl, rfl, rfl, rfl⟩
theorem lb_X11_markOfTwo : hp_LB yX11_markOfTwo cX11_markOfTwo 5 (some .int) 3 := ⟨hp_mu (tm_3_9 (List.mem_of_getElem? (i := 0) rfl)) rfl, hp_mu (tb_1 (List.mem_of_getElem? (i := 1) rfl)) rfl, by decide, by decide +kernel⟩
theorem ls_X11_markOfTwo : Cond.static yX11_markOfTwo ∈ lw_u := hp_mu (tm_3_8 (List.mem_of_getElem? (i := 15) rfl)) rfl
theorem lb_X10_peaksOf : hp_LB yX10_peaksOf cX10_peaksOf 6 none 3 := ⟨hp_mu (tm_3_9 (List.mem_of_getElem? (i := 5) rfl)) rfl, hp_mu (tb_1 (List.mem_of_getElem? (i := 2) rfl)) rfl, by decide, by decide +kernel⟩
theorem lv_X10_peaksOf : hp_LV yX10_peaksOf 11 := ⟨hp_mu (tm_3_9 (List.mem_of_getElem? (i := 3) rfl)) rfl, hp_mu (tm_3_9 (List.mem_of_getElem? (i := 4) rfl)) rfl, rfl, rfl, rfl⟩
theorem lb_X5_shorten : hp_LB yX5_shorten cX5_shorten 2 none 1 := ⟨hp_mu (tm_3_9 (List.mem_of_getElem? (i := 9) rfl)) rfl, hp_mu (tb_1 (List.mem_of_getElem? (i := 3) rfl)) rfl, by decide, by decide +kernel⟩
theorem lv_X5_shorten : hp_LV yX5_shorten 6 := ⟨hp_mu (tm_3_9 (List.mem_of_getElem? (i := 7) rfl)) rfl, hp_mu (tm_3_9 (List.mem_of_getElem? (i := 8) rfl)) rfl, rfl, rfl, rfl⟩
theorem lb_X5_put : hp_LB yX5_put cX5_put 2 none 1 := ⟨hp_mu (tm_3_9 (List.mem_of_getElem? (i := 13) rfl)) rfl, hp_mu (tb_1 (List.mem_of_getElem? (i := 3) rfl)) rfl, by decide, by decide +kernel⟩
theorem lv_X5_put : hp_LV yX5_put 6 := ⟨hp_mu (tm_3_9 (List.mem_of_getElem? (i := 11) rfl)) rfl, hp_mu (tm_3_9 (List.mem_of_getElem? (i := 12) rfl)) rfl, rfl, rfl, rfl⟩
theorem lb_X10_showTo : hp_LB yX10_showTo cX10_showTo 7 (some .int) 3 := ⟨hp_mu (tm_3_10 (List.mem_of_getElem? (i := 2) rfl)) rfl, hp_mu (tb_1 (List.mem_of_getElem? (i := 2) rfl)) rfl, by decide, by decide +kernel⟩
theorem lv_X10_showTo : hp_LV yX10_showTo 11 := ⟨hp_mu (tm_3_10 (List.mem_of_getElem? (i := 0) rfl)) rfl, hp_mu (tm_3_10 (List.mem_of_getElem? (i := 1) rfl)) rfl, rfl, rfl, rfl⟩
theorem lb_X10_whyGrown : hp_LB yX10_whyGrown cX10_whyGrown 6 (some .int) 5 := ⟨hp_mu (tm_3_10 (List.mem_of_getElem? (i := 6) rfl)) rfl, hp_mu (tb_1 (List.mem_of_getElem? (i := 2) rfl)) rfl, by decide, by decide +kernel⟩
theorem lv_X10_whyGrown : hp_LV yX10_whyGrown 11 := ⟨hp_mu (tm_3_10 (List.mem_of_getElem? (i := 4) rfl)) rfl, hp_mu (tm_3_10 (List.mem_of_getElem? (i := 5) rfl)) rfl, rfl, rfl, rfl⟩
theorem lb_X8_toGrowth : hp_LB yX8_toGrowth cX8_toGrowth 8 none 2 := ⟨hp_mu (tm_3_10 (List.mem_of_getElem? (i := 10) rfl)) rfl, hp_mu (tb_1 (List.mem_of_getElem? (i := 4) rfl)) rfl, by decide, by decide +kernel⟩
theorem lv_X8_toGrowth : hp_LV yX8_toGrowth 9 := ⟨hp_mu (tm_3_10 (List.mem_of_getElem? (i := 8) rfl)) rfl, hp_mu (tm_3_10 (List.mem_of_getElem? (i := 9) rfl)) rfl, rfl, rfl, rfl⟩
theorem lb_X8_clear : hp_LB yX8_clear cX8_clear 1 none 0 := ⟨hp_mu (tm_3_10 (List.mem_of_getElem? (i := 14) rfl)) rfl, hp_mu (tb_1 (List.mem_of_getElem? (i := 4) rfl)) rfl, by decide, by decide +kernel⟩
theorem lv_X8_clear : hp_LV yX8_clear 9 := ⟨hp_mu (tm_3_10 (List.mem_of_getElem? (i := 13) rfl)) rfl, hp_mu (tb_0 (List.mem_of_getElem? (i := 11) rfl)) rfl, rfl, rfl, rfl⟩
theorem lb_X11_firstPartOf : hp_LB yX11_firstPartOf cX11_firstPartOf 1 (some .int) 1 := ⟨hp_mu (tm_3_11 (List.mem_of_getElem? (i := 1) rfl)) rfl, hp_mu (tb_1 (List.mem_of_getElem? (i := 1) rfl)) rfl, by decide, by decide +kernel⟩
theorem ls_X11_firstPartOf : Cond.static yX11_firstPartOf ∈ lw_u := hp_mu (tm_3_11 (List.mem_of_getElem? (i := 0) rfl)) rfl
theorem lb_J6_highestOneBit_0f7a4 : hp_LB yJ6_highestOneBit_0f7a4 cJ6_highestOneBit_0f7a4 1 (some .int) 1 := ⟨hp_mu (tm_3_11 (List.mem_of_getElem? (i := 4) rfl)) rfl, hp_mu (tm_1_1 (List.mem_of_getElem? (i := 2) rfl)) rfl, by decide, by decide +kernel⟩
theorem ls_J6_highestOneBit_0f7a4 : Cond.static yJ6_highestOneBit_0f7a4 ∈ lw_u := hp_mu (tm_3_11 (List.mem_of_getElem? (i := 3) rfl)) rfl
theorem lb_J6_numberOfLeadingZeros_0f7a4 : hp_LB yJ6_numberOfLeadingZeros_0f7a4 cJ6_numberOfLeadingZeros_0f7a4 2 (some .int) 1 := ⟨hp_mu (tm_3_11 (List.mem_of_getElem? (i := 8) rfl)) rfl, hp_mu (tm_1_1 (List.mem_of_getElem? (i := 2) rfl)) rfl, by decide, by decide +kernel⟩
theorem ls_J6_numberOfLeadingZeros_0f7a4 : Cond.static yJ6_numberOfLeadingZeros_0f7a4 ∈ lw_u := hp_mu (tm_3_11 (List.mem_of_getElem? (i := 7) rfl)) rfl
theorem lb_X8_put : hp_LB yX8_put cX8_put 4 none 3 := ⟨hp_mu (tm_3_11 (List.mem_of_getElem? (i := 13) rfl)) rfl, hp_mu (tb_1 (List.mem_of_getElem? (i := 4) rfl)) rfl, by decide, by decide +kernel⟩
theorem lv_X8_put : hp_LV yX8_put 9 := ⟨hp_mu (tm_3_11 (List.mem_of_getElem? (i := 12) rfl)) rfl, hp_mu (tb_0 (List.mem_of_getElem? (i := 12) rfl)) rfl, rfl, rfl, rfl⟩
theorem lb_X8_turnRound : hp_LB yX8_turnRound cX8_turnRound 6 none 0 := ⟨hp_mu (tm_3_12 (List.mem_of_getElem? (i := 1) rfl)) rfl, hp_mu (tb_1 (List.mem_of_getElem? (i := 4) rfl)) rfl, by decide, by decide +kernel⟩
theorem lv_X8_turnRound : hp_LV yX8_turnRound 9 := ⟨hp_mu (tm_3_12 (List.mem_of_getElem? (i := 0) rfl)) rfl, hp_mu (tb_0 (List.mem_of_getElem? (i := 13) rfl)) rfl, rfl, rfl, rfl⟩
theorem lb_X10_marksAlong : hp_LB yX10_marksAlong cX10_marksAlong 5 none 3 := ⟨hp_mu (tm_3_12 (List.mem_of_getElem? (i := 5) rfl)) rfl, hp_mu (tb_1 (List.mem_of_getElem? (i := 2) rfl)) rfl, by decide, by decide +kernel⟩
theorem lv_X10_marksAlong : hp_LV yX10_marksAlong 11 := ⟨hp_mu (tm_3_12 (List.mem_of_getElem? (i := 3) rfl)) rfl, hp_mu (tm_3_12 (List.mem_of_getElem? (i := 4) rfl)) rfl, rfl, rfl, rfl⟩
theorem lb_X8_firstAt : hp_LB yX8_firstAt cX8_firstAt 2 (some .int) 1 := ⟨hp_mu (tm_3_12 (List.mem_of_getElem? (i := 9) rfl)) rfl, hp_mu (tb_1 (List.mem_of_getElem? (i := 4) rfl)) rfl, by decide, by decide +kernel⟩
theorem lv_X8_firstAt : hp_LV yX8_firstAt 9 := ⟨hp_mu (tm_3_12 (List.mem_of_getElem? (i := 7) rfl)) rfl, hp_mu (tm_3_12 (List.mem_of_getElem? (i := 8) rfl)) rfl, rfl, rfl, rfl⟩
theorem lb_X8_manyAt : hp_LB yX8_manyAt cX8_manyAt 2 (some .int) 1 := ⟨hp_mu (tm_3_12 (List.mem_of_getElem? (i := 13) rfl)) rfl, hp_mu (tb_1 (List.mem_of_getElem? (i := 4) rfl)) rfl, by decide, by decide +kernel⟩
theorem lv_X8_manyAt : hp_LV yX8_manyAt 9 := ⟨hp_mu (tm_3_12 (List.mem_of_getElem? (i := 11) rfl)) rfl, hp_mu (tm_3_12 (List.mem_of_getElem? (i := 12) rfl)) rfl, rfl, rfl, rfl⟩
theorem lb_X8_whyGrowth : hp_LB yX8_whyGrowth cX8_whyGrowth 10 (some .int) 6 := ⟨hp_mu (tm_3_13 (List.mem_of_getElem? (i := 1) rfl)) rfl, hp_mu (tb_1 (List.mem_of_getElem? (i := 4) rfl)) rfl, by decide, by decide +kernel⟩
theorem lv_X8_whyGrowth : hp_LV yX8_whyGrowth 9 := ⟨hp_mu (tm_3_12 (List.mem_of_getElem? (i := 15) rfl)) rfl, hp_mu (tm_3_13 (List.mem_of_getElem? (i := 0) rfl)) rfl, rfl, rfl, rfl⟩
theorem lb_X5_at : hp_LB yX5_at cX5_at 2 (some .int) 1 := ⟨hp_mu (tm_3_13 (List.mem_of_getElem? (i := 6) rfl)) rfl, hp_mu (tb_1 (List.mem_of_getElem? (i := 3) rfl)) rfl, by decide, by decide +kernel⟩
theorem lv_X5_at : hp_LV yX5_at 6 := ⟨hp_mu (tm_3_13 (List.mem_of_getElem? (i := 4) rfl)) rfl, hp_mu (tm_3_13 (List.mem_of_getElem? (i := 5) rfl)) rfl, rfl, rfl, rfl⟩
theorem lb_X8_joined : hp_LB yX8_joined cX8_joined 5 (some .int) 4 := ⟨hp_mu (tm_3_13 (List.mem_of_getElem? (i := 10) rfl)) rfl, hp_mu (tb_1 (List.mem_of_getElem? (i := 4) rfl)) rfl, by decide, by decide +kernel⟩
theorem lv_X8_joined : hp_LV yX8_joined 9 := ⟨hp_mu (tm_3_13 (List.mem_of_getElem? (i := 8) rfl)) rfl, hp_mu (tm_3_13 (List.mem_of_getElem? (i := 9) rfl)) rfl, rfl, rfl, rfl⟩
theorem lb_X8_isAhead : hp_LB yX8_isAhead cX8_isAhead 2 (some .boolean) 1 := ⟨hp_mu (tm_3_13 (List.mem_of_getElem? (i := 14) rfl)) rfl, hp_mu (tb_1 (List.mem_of_getElem? (i := 4) rfl)) rfl, by decide, by decide +kernel⟩
theorem lv_X8_isAhead : hp_LV yX8_isAhead 9 := ⟨hp_mu (tm_3_13 (List.mem_of_getElem? (i := 12) rfl)) rfl, hp_mu (tm_3_13 (List.mem_of_getElem? (i := 13) rfl)) rfl, rfl, rfl, rfl⟩
theorem lb_X7_hearWhy : hp_LB yX7_hearWhy cX7_hearWhy 2 none 1 := ⟨hp_mu (tm_3_14 (List.mem_of_getElem? (i := 4) rfl)) rfl, hp_mu (tb_1 (List.mem_of_getElem? (i := 8) rfl)) rfl, by decide, by decide +kernel⟩
theorem lv_X7_hearWhy : hp_LV yX7_hearWhy 8 := ⟨hp_mu (tm_3_14 (List.mem_of_getElem? (i := 2) rfl)) rfl, hp_mu (tm_3_14 (List.mem_of_getElem? (i := 3) rfl)) rfl, rfl, rfl, rfl⟩
theorem lb_X11_answer : hp_LB yX11_answer cX11_answer 2 (some .int) 1 := ⟨hp_mu (tm_3_14 (List.mem_of_getElem? (i := 9) rfl)) rfl, hp_mu (tb_1 (List.mem_of_getElem? (i := 1) rfl)) rfl, by decide, by decide +kernel⟩
theorem lv_X11_answer : hp_LV yX11_answer 12 := ⟨hp_mu (tm_3_14 (List.mem_of_getElem? (i := 8) rfl)) rfl, hp_mu (tb_0 (List.mem_of_getElem? (i := 14) rfl)) rfl, rfl, rfl, rfl⟩
theorem lb_X11_hear : hp_LB yX11_hear cX11_hear 4 (some .int) 1 := ⟨hp_mu (tm_3_14 (List.mem_of_getElem? (i := 13) rfl)) rfl, hp_mu (tb_1 (List.mem_of_getElem? (i := 1) rfl)) rfl, by decide, by decide +kernel⟩
theorem lv_X11_hear : hp_LV yX11_hear 12 := ⟨hp_mu (tm_3_14 (List.mem_of_getElem? (i := 11) rfl)) rfl, hp_mu (tm_3_14 (List.mem_of_getElem? (i := 12) rfl)) rfl, rfl, rfl, rfl⟩
theorem lb_X3_readProofs : hp_LB yX3_readProofs cX3_readProofs 5 (some .boolean) 2 := ⟨hp_mu (tb_4 (List.mem_of_getElem? (i := 1) rfl)) rfl, hp_mu (tb_1 (List.mem_of_getElem? (i := 10) rfl)) rfl, by decide, by decide +kernel⟩
theorem lv_X3_readProofs : hp_LV yX3_readProofs 4 := ⟨hp_mu (tm_3_14 (List.mem_of_getElem? (i := 15) rfl)) rfl, hp_mu (tb_4 (List.mem_of_getElem? (i := 0) rfl)) rfl, rfl, rfl, rfl⟩
theorem lb_X3_readInclusion : hp_LB yX3_readInclusion cX3_readInclusion 5 (some .boolean) 1 := ⟨hp_mu (tb_4 (List.mem_of_getElem? (i := 9) rfl)) rfl, hp_mu (tb_1 (List.mem_of_getElem? (i := 10) rfl)) rfl, by decide, by decide +kernel⟩
theorem lv_X3_readInclusion : hp_LV yX3_readInclusion 4 := ⟨hp_mu (tb_4 (List.mem_of_getElem? (i := 8) rfl)) rfl, hp_mu (tb_0 (List.mem_of_getElem? (i := 15) rfl)) rfl, rfl, rfl, rfl⟩
theorem lb_X3_readWord : hp_LB yX3_readWord cX3_readWord 2 (some .boolean) 1 := ⟨hp_mu (tb_4 (List.mem_of_getElem? (i := 15) rfl)) rfl, hp_mu (tb_1 (List.mem_of_getElem? (i := 10) rfl)) rfl, by decide, by decide +kernel⟩
theorem lv_X3_readWord : hp_LV yX3_readWord 4 := ⟨hp_mu (tb_4 (List.mem_of_getElem? (i := 14) rfl)) rfl, hp_mu (tm_0_1 (List.mem_of_getElem? (i := 0) rfl)) rfl, rfl, rfl, rfl⟩
theorem lb_X3_readMark : hp_LB yX3_readMark cX3_readMark 2 (some .boolean) 1 := ⟨hp_mu (tm_4_1 (List.mem_of_getElem? (i := 4) rfl)) rfl, hp_mu (tb_1 (List.mem_of_getElem? (i := 10) rfl)) rfl, by decide, by decide +kernel⟩
theorem lv_X3_readMark : hp_LV yX3_readMark 4 := ⟨hp_mu (tm_4_1 (List.mem_of_getElem? (i := 3) rfl)) rfl, hp_mu (tm_0_1 (List.mem_of_getElem? (i := 1) rfl)) rfl, rfl, rfl, rfl⟩
theorem lb_X3_readRow : hp_LB yX3_readRow cX3_readRow 2 (some .boolean) 0 := ⟨hp_mu (tm_4_1 (List.mem_of_getElem? (i := 9) rfl)) rfl, hp_mu (tb_1 (List.mem_of_getElem? (i := 10) rfl)) rfl, by decide, by decide +kernel⟩
theorem lv_X3_readRow : hp_LV yX3_readRow 4 := ⟨hp_mu (tm_4_1 (List.mem_of_getElem? (i := 8) rfl)) rfl, hp_mu (tm_0_1 (List.mem_of_getElem? (i := 2) rfl)) rfl, rfl, rfl, rfl⟩
theorem lb_X8_toThing : hp_LB yX8_toThing cX8_toThing 7 none 2 := ⟨hp_mu (tm_4_1 (List.mem_of_getElem? (i := 15) rfl)) rfl, hp_mu (tb_1 (List.mem_of_getElem? (i := 4) rfl)) rfl, by decide, by decide +kernel⟩
theorem lv_X8_toThing : hp_LV yX8_toThing 9 := ⟨hp_mu (tm_4_1 (List.mem_of_getElem? (i := 13) rfl)) rfl, hp_mu (tm_4_1 (List.mem_of_getElem? (i := 14) rfl)) rfl, rfl, rfl, rfl⟩
theorem lb_X8_whyInclusion : hp_LB yX8_whyInclusion cX8_whyInclusion 5 (some .int) 4 := ⟨hp_mu (tm_4_2 (List.mem_of_getElem? (i := 3) rfl)) rfl, hp_mu (tb_1 (List.mem_of_getElem? (i := 4) rfl)) rfl, by decide, by decide +kernel⟩
theorem lv_X8_whyInclusion : hp_LV yX8_whyInclusion 9 := ⟨hp_mu (tm_4_2 (List.mem_of_getElem? (i := 1) rfl)) rfl, hp_mu (tm_4_2 (List.mem_of_getElem? (i := 2) rfl)) rfl, rfl, rfl, rfl⟩
theorem lb_X8_folded : hp_LB yX8_folded cX8_folded 7 (some .int) 4 := ⟨hp_mu (tm_4_2 (List.mem_of_getElem? (i := 7) rfl)) rfl, hp_mu (tb_1 (List.mem_of_getElem? (i := 4) rfl)) rfl, by decide, by decide +kernel⟩
theorem lv_X8_folded : hp_LV yX8_folded 9 := ⟨hp_mu (tm_4_2 (List.mem_of_getElem? (i := 5) rfl)) rfl, hp_mu (tm_4_2 (List.mem_of_getElem? (i := 6) rfl)) rfl, rfl, rfl, rfl⟩
theorem lb_X3_readGrowth : hp_LB yX3_readGrowth cX3_readGrowth 5 (some .boolean) 1 := ⟨hp_mu (tm_4_2 (List.mem_of_getElem? (i := 11) rfl)) rfl, hp_mu (tb_1 (List.mem_of_getElem? (i := 10) rfl)) rfl, by decide, by decide +kernel⟩
theorem lv_X3_readGrowth : hp_LV yX3_readGrowth 4 := ⟨hp_mu (tm_4_2 (List.mem_of_getElem? (i := 10) rfl)) rfl, hp_mu (tm_0_1 (List.mem_of_getElem? (i := 3) rfl)) rfl, rfl, rfl, rfl⟩
theorem lb_X5_countOf : hp_LB yX5_countOf cX5_countOf 4 (some .int) 1 := ⟨hp_mu (tm_4_3 (List.mem_of_getElem? (i := 0) rfl)) rfl, hp_mu (tb_1 (List.mem_of_getElem? (i := 3) rfl)) rfl, by decide, by decide +kernel⟩
theorem lv_X5_countOf : hp_LV yX5_countOf 6 := ⟨hp_mu (tm_4_2 (List.mem_of_getElem? (i := 14) rfl)) rfl, hp_mu (tm_4_2 (List.mem_of_getElem? (i := 15) rfl)) rfl, rfl, rfl, rfl⟩
theorem lb_X11_heard : hp_LB yX11_heard cX11_heard 2 (some .int) 1 := ⟨hp_mu (tm_4_3 (List.mem_of_getElem? (i := 5) rfl)) rfl, hp_mu (tb_1 (List.mem_of_getElem? (i := 1) rfl)) rfl, by decide, by decide +kernel⟩
theorem lv_X11_heard : hp_LV yX11_heard 12 := ⟨hp_mu (tm_4_3 (List.mem_of_getElem? (i := 3) rfl)) rfl, hp_mu (tm_4_3 (List.mem_of_getElem? (i := 4) rfl)) rfl, rfl, rfl, rfl⟩
theorem lb_X11_fault : hp_LB yX11_fault cX11_fault 2 (some .int) 1 := ⟨hp_mu (tm_4_3 (List.mem_of_getElem? (i := 10) rfl)) rfl, hp_mu (tb_1 (List.mem_of_getElem? (i := 1) rfl)) rfl, by decide, by decide +kernel⟩
theorem lv_X11_fault : hp_LV yX11_fault 12 := ⟨hp_mu (tm_4_3 (List.mem_of_getElem? (i := 8) rfl)) rfl, hp_mu (tm_4_3 (List.mem_of_getElem? (i := 9) rfl)) rfl, rfl, rfl, rfl⟩
theorem lb_X11_type : hp_LB yX11_type cX11_type 5 (some .int) 2 := ⟨hp_mu (tm_4_3 (List.mem_of_getElem? (i := 14) rfl)) rfl, hp_mu (tb_1 (List.mem_of_getElem? (i := 1) rfl)) rfl, by decide, by decide +kernel⟩
theorem lv_X11_type : hp_LV yX11_type 12 := ⟨hp_mu (tm_4_3 (List.mem_of_getElem? (i := 12) rfl)) rfl, hp_mu (tm_4_3 (List.mem_of_getElem? (i := 13) rfl)) rfl, rfl, rfl, rfl⟩
theorem lb_X11_many : hp_LB yX11_many cX11_many 2 (some .int) 1 := ⟨hp_mu (tm_4_4 (List.mem_of_getElem? (i := 4) rfl)) rfl, hp_mu (tb_1 (List.mem_of_getElem? (i := 1) rfl)) rfl, by decide, by decide +kernel⟩
theorem lv_X11_many : hp_LV yX11_many 12 := ⟨hp_mu (tm_4_4 (List.mem_of_getElem? (i := 2) rfl)) rfl, hp_mu (tm_4_4 (List.mem_of_getElem? (i := 3) rfl)) rfl, rfl, rfl, rfl⟩
theorem lb_X10_alarmedBits : hp_LB yX10_alarmedBits cX10_alarmedBits 4 (some .int) 0 := ⟨hp_mu (tm_4_4 (List.mem_of_getElem? (i := 8) rfl)) rfl, hp_mu (tb_1 (List.mem_of_getElem? (i := 2) rfl)) rfl, by decide, by decide +kernel⟩
theorem lv_X10_alarmedBits : hp_LV yX10_alarmedBits 11 := ⟨hp_mu (tm_4_4 (List.mem_of_getElem? (i := 6) rfl)) rfl, hp_mu (tm_4_4 (List.mem_of_getElem? (i := 7) rfl)) rfl, rfl, rfl, rfl⟩
theorem lb_X11_size : hp_LB yX11_size cX11_size 3 (some .int) 1 := ⟨hp_mu (tm_4_4 (List.mem_of_getElem? (i := 12) rfl)) rfl, hp_mu (tb_1 (List.mem_of_getElem? (i := 1) rfl)) rfl, by decide, by decide +kernel⟩
theorem lv_X11_size : hp_LV yX11_size 12 := ⟨hp_mu (tm_4_4 (List.mem_of_getElem? (i := 10) rfl)) rfl, hp_mu (tm_4_4 (List.mem_of_getElem? (i := 11) rfl)) rfl, rfl, rfl, rfl⟩
theorem lb_X11_entry : hp_LB yX11_entry cX11_entry 6 (some .int) 3 := ⟨hp_mu (tm_4_5 (List.mem_of_getElem? (i := 0) rfl)) rfl, hp_mu (tb_1 (List.mem_of_getElem? (i := 1) rfl)) rfl, by decide, by decide +kernel⟩
theorem lv_X11_entry : hp_LV yX11_entry 12 := ⟨hp_mu (tm_4_4 (List.mem_of_getElem? (i := 14) rfl)) rfl, hp_mu (tm_4_4 (List.mem_of_getElem? (i := 15) rfl)) rfl, rfl, rfl, rfl⟩
theorem lb_X11_head : hp_LB yX11_head cX11_head 5 (some .int) 2 := ⟨hp_mu (tm_4_5 (List.mem_of_getElem? (i := 7) rfl)) rfl, hp_mu (tb_1 (List.mem_of_getElem? (i := 1) rfl)) rfl, by decide, by decide +kernel⟩
theorem lv_X11_head : hp_LV yX11_head 12 := ⟨hp_mu (tm_4_5 (List.mem_of_getElem? (i := 5) rfl)) rfl, hp_mu (tm_4_5 (List.mem_of_getElem? (i := 6) rfl)) rfl, rfl, rfl, rfl⟩
theorem lb_X11_wrongGrowth : hp_LB yX11_wrongGrowth cX11_wrongGrowth 3 (some .int) 3 := ⟨hp_mu (tm_4_5 (List.mem_of_getElem? (i := 10) rfl)) rfl, hp_mu (tb_1 (List.mem_of_getElem? (i := 1) rfl)) rfl, by decide, by decide +kernel⟩
theorem ls_X11_wrongGrowth : Cond.static yX11_wrongGrowth ∈ lw_u := hp_mu (tm_4_5 (List.mem_of_getElem? (i := 9) rfl)) rfl
theorem lb_X11_join : hp_LB yX11_join cX11_join 3 (some .int) 2 := ⟨hp_mu (tm_4_5 (List.mem_of_getElem? (i := 15) rfl)) rfl, hp_mu (tb_1 (List.mem_of_getElem? (i := 1) rfl)) rfl, by decide, by decide +kernel⟩
theorem lv_X11_join : hp_LV yX11_join 12 := ⟨hp_mu (tm_4_5 (List.mem_of_getElem? (i := 13) rfl)) rfl, hp_mu (tm_4_5 (List.mem_of_getElem? (i := 14) rfl)) rfl, rfl, rfl, rfl⟩
theorem lb_X11_isMark : hp_LB yX11_isMark cX11_isMark 2 (some .boolean) 1 := ⟨hp_mu (tm_4_6 (List.mem_of_getElem? (i := 3) rfl)) rfl, hp_mu (tb_1 (List.mem_of_getElem? (i := 1) rfl)) rfl, by decide, by decide +kernel⟩
theorem lv_X11_isMark : hp_LV yX11_isMark 12 := ⟨hp_mu (tm_4_6 (List.mem_of_getElem? (i := 2) rfl)) rfl, hp_mu (tm_0_1 (List.mem_of_getElem? (i := 4) rfl)) rfl, rfl, rfl, rfl⟩
theorem lb_X11_mark : hp_LB yX11_mark cX11_mark 1 (some .int) 0 := ⟨hp_mu (tm_4_6 (List.mem_of_getElem? (i := 8) rfl)) rfl, hp_mu (tb_1 (List.mem_of_getElem? (i := 1) rfl)) rfl, by decide, by decide +kernel⟩
theorem lv_X11_mark : hp_LV yX11_mark 12 := ⟨hp_mu (tm_4_6 (List.mem_of_getElem? (i := 6) rfl)) rfl, hp_mu (tm_4_6 (List.mem_of_getElem? (i := 7) rfl)) rfl, rfl, rfl, rfl⟩
theorem lb_X11_frozen : hp_LB yX11_frozen cX11_frozen 4 (some .int) 2 := ⟨hp_mu (tm_4_6 (List.mem_of_getElem? (i := 13) rfl)) rfl, hp_mu (tb_1 (List.mem_of_getElem? (i := 1) rfl)) rfl, by decide, by decide +kernel⟩
theorem lv_X11_frozen : hp_LV yX11_frozen 12 := ⟨hp_mu (tm_4_6 (List.mem_of_getElem? (i := 11) rfl)) rfl, hp_mu (tm_4_6 (List.mem_of_getElem? (i := 12) rfl)) rfl, rfl, rfl, rfl⟩
theorem lb_X10_frozenAt : hp_LB yX10_frozenAt cX10_frozenAt 2 (some (.object "ProvenRecord$Frozen")) 1 := ⟨hp_mu (tm_4_7 (List.mem_of_getElem? (i := 1) rfl)) rfl, hp_mu (tb_1 (List.mem_of_getElem? (i := 2) rfl)) rfl, by decide, by decide +kernel⟩
theorem lv_X10_frozenAt : hp_LV yX10_frozenAt 11 := ⟨hp_mu (tm_4_6 (List.mem_of_getElem? (i := 15) rfl)) rfl, hp_mu (tm_4_7 (List.mem_of_getElem? (i := 0) rfl)) rfl, rfl, rfl, rfl⟩
theorem lb_X10_isSound : hp_LB yX10_isSound cX10_isSound 2 (some .boolean) 1 := ⟨hp_mu (tm_4_7 (List.mem_of_getElem? (i := 5) rfl)) rfl, hp_mu (tb_1 (List.mem_of_getElem? (i := 2) rfl)) rfl, by decide, by decide +kernel⟩
theorem lv_X10_isSound : hp_LV yX10_isSound 11 := ⟨hp_mu (tm_4_7 (List.mem_of_getElem? (i := 3) rfl)) rfl, hp_mu (tm_4_7 (List.mem_of_getElem? (i := 4) rfl)) rfl, rfl, rfl, rfl⟩
theorem lb_X10_hasHead : hp_LB yX10_hasHead cX10_hasHead 4 (some .boolean) 3 := ⟨hp_mu (tm_4_7 (List.mem_of_getElem? (i := 9) rfl)) rfl, hp_mu (tb_1 (List.mem_of_getElem? (i := 2) rfl)) rfl, by decide, by decide +kernel⟩
theorem lv_X10_hasHead : hp_LV yX10_hasHead 11 := ⟨hp_mu (tm_4_7 (List.mem_of_getElem? (i := 7) rfl)) rfl, hp_mu (tm_4_7 (List.mem_of_getElem? (i := 8) rfl)) rfl, rfl, rfl, rfl⟩
theorem lb_X11_watcher : hp_LB yX11_watcher cX11_watcher 4 (some .int) 2 := ⟨hp_mu (tm_4_7 (List.mem_of_getElem? (i := 13) rfl)) rfl, hp_mu (tb_1 (List.mem_of_getElem? (i := 1) rfl)) rfl, by decide, by decide +kernel⟩
theorem lv_X11_watcher : hp_LV yX11_watcher 12 := ⟨hp_mu (tm_4_7 (List.mem_of_getElem? (i := 11) rfl)) rfl, hp_mu (tm_4_7 (List.mem_of_getElem? (i := 12) rfl)) rfl, rfl, rfl, rfl⟩
theorem lb_X11_add : hp_LB yX11_add cX11_add 3 (some .int) 1 := ⟨hp_mu (tm_4_8 (List.mem_of_getElem? (i := 1) rfl)) rfl, hp_mu (tb_1 (List.mem_of_getElem? (i := 1) rfl)) rfl, by decide, by decide +kernel⟩
theorem lv_X11_add : hp_LV yX11_add 12 := ⟨hp_mu (tm_4_7 (List.mem_of_getElem? (i := 15) rfl)) rfl, hp_mu (tm_4_8 (List.mem_of_getElem? (i := 0) rfl)) rfl, rfl, rfl, rfl⟩
theorem lb_X11_fork : hp_LB yX11_fork cX11_fork 4 (some .int) 2 := ⟨hp_mu (tm_4_8 (List.mem_of_getElem? (i := 5) rfl)) rfl, hp_mu (tb_1 (List.mem_of_getElem? (i := 1) rfl)) rfl, by decide, by decide +kernel⟩
theorem lv_X11_fork : hp_LV yX11_fork 12 := ⟨hp_mu (tm_4_8 (List.mem_of_getElem? (i := 3) rfl)) rfl, hp_mu (tm_4_8 (List.mem_of_getElem? (i := 4) rfl)) rfl, rfl, rfl, rfl⟩
theorem lb_X11_freeze : hp_LB yX11_freeze cX11_freeze 2 (some .int) 1 := ⟨hp_mu (tm_4_8 (List.mem_of_getElem? (i := 9) rfl)) rfl, hp_mu (tb_1 (List.mem_of_getElem? (i := 1) rfl)) rfl, by decide, by decide +kernel⟩
theorem lv_X11_freeze : hp_LV yX11_freeze 12 := ⟨hp_mu (tm_4_8 (List.mem_of_getElem? (i := 7) rfl)) rfl, hp_mu (tm_4_8 (List.mem_of_getElem? (i := 8) rfl)) rfl, rfl, rfl, rfl⟩
theorem lb_X11_show : hp_LB yX11_show cX11_show 6 (some .int) 3 := ⟨hp_mu (tm_4_8 (List.mem_of_getElem? (i := 13) rfl)) rfl, hp_mu (tb_1 (List.mem_of_getElem? (i := 1) rfl)) rfl, by decide, by decide +kernel⟩
theorem lv_X11_show : hp_LV yX11_show 12 := ⟨hp_mu (tm_4_8 (List.mem_of_getElem? (i := 11) rfl)) rfl, hp_mu (tm_4_8 (List.mem_of_getElem? (i := 12) rfl)) rfl, rfl, rfl, rfl⟩
theorem lb_X11_meet : hp_LB yX11_meet cX11_meet 7 (some .int) 3 := ⟨hp_mu (tm_4_9 (List.mem_of_getElem? (i := 1) rfl)) rfl, hp_mu (tb_1 (List.mem_of_getElem? (i := 1) rfl)) rfl, by decide, by decide +kernel⟩
theorem lv_X11_meet : hp_LV yX11_meet 12 := ⟨hp_mu (tm_4_8 (List.mem_of_getElem? (i := 15) rfl)) rfl, hp_mu (tm_4_9 (List.mem_of_getElem? (i := 0) rfl)) rfl, rfl, rfl, rfl⟩
theorem lb_X10_meetBy : hp_LB yX10_meetBy cX10_meetBy 8 (some .int) 3 := ⟨hp_mu (tm_4_9 (List.mem_of_getElem? (i := 5) rfl)) rfl, hp_mu (tb_1 (List.mem_of_getElem? (i := 2) rfl)) rfl, by decide, by decide +kernel⟩
theorem lv_X10_meetBy : hp_LV yX10_meetBy 11 := ⟨hp_mu (tm_4_9 (List.mem_of_getElem? (i := 3) rfl)) rfl, hp_mu (tm_4_9 (List.mem_of_getElem? (i := 4) rfl)) rfl, rfl, rfl, rfl⟩
theorem lb_X11_spoil : hp_LB yX11_spoil cX11_spoil 8 (some .int) 4 := ⟨hp_mu (tm_4_9 (List.mem_of_getElem? (i := 9) rfl)) rfl, hp_mu (tb_1 (List.mem_of_getElem? (i := 1) rfl)) rfl, by decide, by decide +kernel⟩
theorem lv_X11_spoil : hp_LV yX11_spoil 12 := ⟨hp_mu (tm_4_9 (List.mem_of_getElem? (i := 7) rfl)) rfl, hp_mu (tm_4_9 (List.mem_of_getElem? (i := 8) rfl)) rfl, rfl, rfl, rfl⟩
theorem lb_X10_spoilLetter : hp_LB yX10_spoilLetter cX10_spoilLetter 5 none 4 := ⟨hp_mu (tm_4_9 (List.mem_of_getElem? (i := 13) rfl)) rfl, hp_mu (tb_1 (List.mem_of_getElem? (i := 2) rfl)) rfl, by decide, by decide +kernel⟩
theorem lv_X10_spoilLetter : hp_LV yX10_spoilLetter 11 := ⟨hp_mu (tm_4_9 (List.mem_of_getElem? (i := 11) rfl)) rfl, hp_mu (tm_4_9 (List.mem_of_getElem? (i := 12) rfl)) rfl, rfl, rfl, rfl⟩
theorem lb_X2_changeLetter : hp_LB yX2_changeLetter cX2_changeLetter 6 none 4 := ⟨hp_mu (tm_4_10 (List.mem_of_getElem? (i := 1) rfl)) rfl, hp_mu (tb_1 (List.mem_of_getElem? (i := 5) rfl)) rfl, by decide, by decide +kernel⟩
theorem lv_X2_changeLetter : hp_LV yX2_changeLetter 3 := ⟨hp_mu (tm_4_9 (List.mem_of_getElem? (i := 15) rfl)) rfl, hp_mu (tm_4_10 (List.mem_of_getElem? (i := 0) rfl)) rfl, rfl, rfl, rfl⟩
theorem lb_X9_change : hp_LB yX9_change cX9_change 3 none 2 := ⟨hp_mu (tm_4_10 (List.mem_of_getElem? (i := 6) rfl)) rfl, hp_mu (tb_1 (List.mem_of_getElem? (i := 6) rfl)) rfl, by decide, by decide +kernel⟩
theorem lv_X9_change : hp_LV yX9_change 10 := ⟨hp_mu (tm_4_10 (List.mem_of_getElem? (i := 4) rfl)) rfl, hp_mu (tm_4_10 (List.mem_of_getElem? (i := 5) rfl)) rfl, rfl, rfl, rfl⟩
theorem lb_X11_push : hp_LB yX11_push cX11_push 2 (some .int) 1 := ⟨hp_mu (tm_4_10 (List.mem_of_getElem? (i := 10) rfl)) rfl, hp_mu (tb_1 (List.mem_of_getElem? (i := 1) rfl)) rfl, by decide, by decide +kernel⟩
theorem lv_X11_push : hp_LV yX11_push 12 := ⟨hp_mu (tm_4_10 (List.mem_of_getElem? (i := 8) rfl)) rfl, hp_mu (tm_4_10 (List.mem_of_getElem? (i := 9) rfl)) rfl, rfl, rfl, rfl⟩
theorem lb_X11_poke : hp_LB yX11_poke cX11_poke 4 (some .int) 2 := ⟨hp_mu (tm_4_10 (List.mem_of_getElem? (i := 15) rfl)) rfl, hp_mu (tb_1 (List.mem_of_getElem? (i := 1) rfl)) rfl, by decide, by decide +kernel⟩
theorem lv_X11_poke : hp_LV yX11_poke 12 := ⟨hp_mu (tm_4_10 (List.mem_of_getElem? (i := 13) rfl)) rfl, hp_mu (tm_4_10 (List.mem_of_getElem? (i := 14) rfl)) rfl, rfl, rfl, rfl⟩
theorem lb_X5_change : hp_LB yX5_change cX5_change 3 none 2 := ⟨hp_mu (tm_4_11 (List.mem_of_getElem? (i := 3) rfl)) rfl, hp_mu (tb_1 (List.mem_of_getElem? (i := 3) rfl)) rfl, by decide, by decide +kernel⟩
theorem lv_X5_change : hp_LV yX5_change 6 := ⟨hp_mu (tm_4_11 (List.mem_of_getElem? (i := 1) rfl)) rfl, hp_mu (tm_4_11 (List.mem_of_getElem? (i := 2) rfl)) rfl, rfl, rfl, rfl⟩
theorem lb_X11_pad : hp_LB yX11_pad cX11_pad 2 (some .int) 1 := ⟨hp_mu (tm_4_11 (List.mem_of_getElem? (i := 7) rfl)) rfl, hp_mu (tb_1 (List.mem_of_getElem? (i := 1) rfl)) rfl, by decide, by decide +kernel⟩
theorem lv_X11_pad : hp_LV yX11_pad 12 := ⟨hp_mu (tm_4_11 (List.mem_of_getElem? (i := 5) rfl)) rfl, hp_mu (tm_4_11 (List.mem_of_getElem? (i := 6) rfl)) rfl, rfl, rfl, rfl⟩
theorem lb_X11_cut : hp_LB yX11_cut cX11_cut 2 (some .int) 1 := ⟨hp_mu (tm_4_11 (List.mem_of_getElem? (i := 11) rfl)) rfl, hp_mu (tb_1 (List.mem_of_getElem? (i := 1) rfl)) rfl, by decide, by decide +kernel⟩
theorem lv_X11_cut : hp_LV yX11_cut 12 := ⟨hp_mu (tm_4_11 (List.mem_of_getElem? (i := 9) rfl)) rfl, hp_mu (tm_4_11 (List.mem_of_getElem? (i := 10) rfl)) rfl, rfl, rfl, rfl⟩
theorem lb_X11_include : hp_LB yX11_include cX11_include 6 (some .int) 3 := ⟨hp_mu (tm_4_11 (List.mem_of_getElem? (i := 15) rfl)) rfl, hp_mu (tb_1 (List.mem_of_getElem? (i := 1) rfl)) rfl, by decide, by decide +kernel⟩
theorem lv_X11_include : hp_LV yX11_include 12 := ⟨hp_mu (tm_4_11 (List.mem_of_getElem? (i := 13) rfl)) rfl, hp_mu (tm_4_11 (List.mem_of_getElem? (i := 14) rfl)) rfl, rfl, rfl, rfl⟩
theorem lb_X11_wrongInclusion : hp_LB yX11_wrongInclusion cX11_wrongInclusion 3 (some .int) 3 := ⟨hp_mu (tm_4_12 (List.mem_of_getElem? (i := 2) rfl)) rfl, hp_mu (tb_1 (List.mem_of_getElem? (i := 1) rfl)) rfl, by decide, by decide +kernel⟩
theorem ls_X11_wrongInclusion : Cond.static yX11_wrongInclusion ∈ lw_u := hp_mu (tm_4_12 (List.mem_of_getElem? (i := 1) rfl)) rfl
theorem lb_X11_grow : hp_LB yX11_grow cX11_grow 6 (some .int) 3 := ⟨hp_mu (tm_4_12 (List.mem_of_getElem? (i := 8) rfl)) rfl, hp_mu (tb_1 (List.mem_of_getElem? (i := 1) rfl)) rfl, by decide, by decide +kernel⟩
theorem lv_X11_grow : hp_LV yX11_grow 12 := ⟨hp_mu (tm_4_12 (List.mem_of_getElem? (i := 6) rfl)) rfl, hp_mu (tm_4_12 (List.mem_of_getElem? (i := 7) rfl)) rfl, rfl, rfl, rfl⟩
theorem lb_X11_bundle : hp_LB yX11_bundle cX11_bundle 5 (some .int) 3 := ⟨hp_mu (tm_4_12 (List.mem_of_getElem? (i := 13) rfl)) rfl, hp_mu (tb_1 (List.mem_of_getElem? (i := 1) rfl)) rfl, by decide, by decide +kernel⟩
theorem lv_X11_bundle : hp_LV yX11_bundle 12 := ⟨hp_mu (tm_4_12 (List.mem_of_getElem? (i := 11) rfl)) rfl, hp_mu (tm_4_12 (List.mem_of_getElem? (i := 12) rfl)) rfl, rfl, rfl, rfl⟩
theorem lb_X11_isSet : hp_LB yX11_isSet cX11_isSet 1 (some .boolean) 1 := ⟨hp_mu (tm_4_13 (List.mem_of_getElem? (i := 0) rfl)) rfl, hp_mu (tb_1 (List.mem_of_getElem? (i := 1) rfl)) rfl, by decide, by decide +kernel⟩
theorem ls_X11_isSet : Cond.static yX11_isSet ∈ lw_u := hp_mu (tm_4_12 (List.mem_of_getElem? (i := 15) rfl)) rfl
theorem lb_X11_lieBelow : hp_LB yX11_lieBelow cX11_lieBelow 2 (some .boolean) 2 := ⟨hp_mu (tm_4_13 (List.mem_of_getElem? (i := 3) rfl)) rfl, hp_mu (tb_1 (List.mem_of_getElem? (i := 1) rfl)) rfl, by decide, by decide +kernel⟩
theorem ls_X11_lieBelow : Cond.static yX11_lieBelow ∈ lw_u := hp_mu (tm_4_13 (List.mem_of_getElem? (i := 2) rfl)) rfl
theorem lb_X8_toBundle : hp_LB yX8_toBundle cX8_toBundle 5 none 2 := ⟨hp_mu (tm_4_13 (List.mem_of_getElem? (i := 9) rfl)) rfl, hp_mu (tb_1 (List.mem_of_getElem? (i := 4) rfl)) rfl, by decide, by decide +kernel⟩
theorem lv_X8_toBundle : hp_LV yX8_toBundle 9 := ⟨hp_mu (tm_4_13 (List.mem_of_getElem? (i := 7) rfl)) rfl, hp_mu (tm_4_13 (List.mem_of_getElem? (i := 8) rfl)) rfl, rfl, rfl, rfl⟩
theorem lb_X11_hasOneOf : hp_LB yX11_hasOneOf cX11_hasOneOf 4 (some .boolean) 3 := ⟨hp_mu (tm_4_13 (List.mem_of_getElem? (i := 12) rfl)) rfl, hp_mu (tb_1 (List.mem_of_getElem? (i := 1) rfl)) rfl, by decide, by decide +kernel⟩
theorem ls_X11_hasOneOf : Cond.static yX11_hasOneOf ∈ lw_u := hp_mu (tm_4_13 (List.mem_of_getElem? (i := 11) rfl)) rfl
theorem lb_X8_putGreatestWithout : hp_LB yX8_putGreatestWithout cX8_putGreatestWithout 8 (some .int) 3 := ⟨hp_mu (tm_4_14 (List.mem_of_getElem? (i := 0) rfl)) rfl, hp_mu (tb_1 (List.mem_of_getElem? (i := 4) rfl)) rfl, by decide, by decide +kernel⟩
theorem lv_X8_putGreatestWithout : hp_LV yX8_putGreatestWithout 9 := ⟨hp_mu (tm_4_13 (List.mem_of_getElem? (i := 15) rfl)) rfl, hp_mu (tm_0_1 (List.mem_of_getElem? (i := 5) rfl)) rfl, rfl, rfl, rfl⟩
theorem lb_X11_peaks : hp_LB yX11_peaks cX11_peaks 5 (some .int) 2 := ⟨hp_mu (tm_4_14 (List.mem_of_getElem? (i := 4) rfl)) rfl, hp_mu (tb_1 (List.mem_of_getElem? (i := 1) rfl)) rfl, by decide, by decide +kernel⟩
theorem lv_X11_peaks : hp_LV yX11_peaks 12 := ⟨hp_mu (tm_4_14 (List.mem_of_getElem? (i := 2) rfl)) rfl, hp_mu (tm_4_14 (List.mem_of_getElem? (i := 3) rfl)) rfl, rfl, rfl, rfl⟩
theorem lb_X11_extend : hp_LB yX11_extend cX11_extend 3 (some .int) 2 := ⟨hp_mu (tm_4_14 (List.mem_of_getElem? (i := 9) rfl)) rfl, hp_mu (tb_1 (List.mem_of_getElem? (i := 1) rfl)) rfl, by decide, by decide +kernel⟩
theorem lv_X11_extend : hp_LV yX11_extend 12 := ⟨hp_mu (tm_4_14 (List.mem_of_getElem? (i := 7) rfl)) rfl, hp_mu (tm_4_14 (List.mem_of_getElem? (i := 8) rfl)) rfl, rfl, rfl, rfl⟩
theorem lb_J6_bitCount_0f7a4 : hp_LB yJ6_bitCount_0f7a4 cJ6_bitCount_0f7a4 1 (some .int) 1 := ⟨hp_mu (tm_4_14 (List.mem_of_getElem? (i := 13) rfl)) rfl, hp_mu (tm_1_1 (List.mem_of_getElem? (i := 2) rfl)) rfl, by decide, by decide +kernel⟩
theorem ls_J6_bitCount_0f7a4 : Cond.static yJ6_bitCount_0f7a4 ∈ lw_u := hp_mu (tm_4_14 (List.mem_of_getElem? (i := 12) rfl)) rfl
theorem lb_X5_putPeak : hp_LB yX5_putPeak cX5_putPeak 7 none 3 := ⟨hp_mu (tb_5 (List.mem_of_getElem? (i := 4) rfl)) rfl, hp_mu (tb_1 (List.mem_of_getElem? (i := 3) rfl)) rfl, by decide, by decide +kernel⟩
theorem lv_X5_putPeak : hp_LV yX5_putPeak 6 := ⟨hp_mu (tb_5 (List.mem_of_getElem? (i := 2) rfl)) rfl, hp_mu (tb_5 (List.mem_of_getElem? (i := 3) rfl)) rfl, rfl, rfl, rfl⟩
theorem lb_X11_checks : hp_LB yX11_checks cX11_checks 5 (some .int) 4 := ⟨hp_mu (tb_5 (List.mem_of_getElem? (i := 11) rfl)) rfl, hp_mu (tb_1 (List.mem_of_getElem? (i := 1) rfl)) rfl, by decide, by decide +kernel⟩
theorem lv_X11_checks : hp_LV yX11_checks 12 := ⟨hp_mu (tb_5 (List.mem_of_getElem? (i := 9) rfl)) rfl, hp_mu (tb_5 (List.mem_of_getElem? (i := 10) rfl)) rfl, rfl, rfl, rfl⟩
theorem lb_X11_isThing : hp_LB yX11_isThing cX11_isThing 2 (some .boolean) 2 := ⟨hp_mu (tb_5 (List.mem_of_getElem? (i := 14) rfl)) rfl, hp_mu (tb_1 (List.mem_of_getElem? (i := 1) rfl)) rfl, by decide, by decide +kernel⟩
theorem ls_X11_isThing : Cond.static yX11_isThing ∈ lw_u := hp_mu (tb_5 (List.mem_of_getElem? (i := 13) rfl)) rfl
theorem lb_X11_growth : hp_LB yX11_growth cX11_growth 5 (some .int) 4 := ⟨hp_mu (tm_5_1 (List.mem_of_getElem? (i := 3) rfl)) rfl, hp_mu (tb_1 (List.mem_of_getElem? (i := 1) rfl)) rfl, by decide, by decide +kernel⟩
theorem lv_X11_growth : hp_LV yX11_growth 12 := ⟨hp_mu (tm_5_1 (List.mem_of_getElem? (i := 1) rfl)) rfl, hp_mu (tm_5_1 (List.mem_of_getElem? (i := 2) rfl)) rfl, rfl, rfl, rfl⟩
theorem lb_X11_bundled : hp_LB yX11_bundled cX11_bundled 4 (some .int) 3 := ⟨hp_mu (tm_5_1 (List.mem_of_getElem? (i := 8) rfl)) rfl, hp_mu (tb_1 (List.mem_of_getElem? (i := 1) rfl)) rfl, by decide, by decide +kernel⟩
theorem lv_X11_bundled : hp_LV yX11_bundled 12 := ⟨hp_mu (tm_5_1 (List.mem_of_getElem? (i := 6) rfl)) rfl, hp_mu (tm_5_1 (List.mem_of_getElem? (i := 7) rfl)) rfl, rfl, rfl, rfl⟩
theorem lb_X0_why : hp_LB yX0_why cX0_why 8 (some .int) 6 := ⟨hp_mu (tm_5_1 (List.mem_of_getElem? (i := 12) rfl)) rfl, hp_mu (tb_1 (List.mem_of_getElem? (i := 9) rfl)) rfl, by decide, by decide +kernel⟩
theorem lv_X0_why : hp_LV yX0_why 1 := ⟨hp_mu (tm_5_1 (List.mem_of_getElem? (i := 10) rfl)) rfl, hp_mu (tm_5_1 (List.mem_of_getElem? (i := 11) rfl)) rfl, rfl, rfl, rfl⟩
theorem lb_X0_foldedTree : hp_LB yX0_foldedTree cX0_foldedTree 7 (some .int) 4 := ⟨hp_mu (tm_5_2 (List.mem_of_getElem? (i := 0) rfl)) rfl, hp_mu (tb_1 (List.mem_of_getElem? (i := 9) rfl)) rfl, by decide, by decide +kernel⟩
theorem ls_X0_foldedTree : Cond.static yX0_foldedTree ∈ lw_u := hp_mu (tm_5_1 (List.mem_of_getElem? (i := 15) rfl)) rfl
theorem lb_X11_fold : hp_LB yX11_fold cX11_fold 1 (some .int) 0 := ⟨hp_mu (tm_5_2 (List.mem_of_getElem? (i := 8) rfl)) rfl, hp_mu (tb_1 (List.mem_of_getElem? (i := 1) rfl)) rfl, by decide, by decide +kernel⟩
theorem lv_X11_fold : hp_LV yX11_fold 12 := ⟨hp_mu (tm_5_2 (List.mem_of_getElem? (i := 6) rfl)) rfl, hp_mu (tm_5_2 (List.mem_of_getElem? (i := 7) rfl)) rfl, rfl, rfl, rfl⟩
theorem lb_X5_foldedPeaks : hp_LB yX5_foldedPeaks cX5_foldedPeaks 4 (some .int) 1 := ⟨hp_mu (tm_5_2 (List.mem_of_getElem? (i := 12) rfl)) rfl, hp_mu (tb_1 (List.mem_of_getElem? (i := 3) rfl)) rfl, by decide, by decide +kernel⟩
theorem lv_X5_foldedPeaks : hp_LV yX5_foldedPeaks 6 := ⟨hp_mu (tm_5_2 (List.mem_of_getElem? (i := 10) rfl)) rfl, hp_mu (tm_5_2 (List.mem_of_getElem? (i := 11) rfl)) rfl, rfl, rfl, rfl⟩
theorem lb_X11_steps : hp_LB yX11_steps cX11_steps 3 (some .int) 2 := ⟨hp_mu (tm_5_3 (List.mem_of_getElem? (i := 0) rfl)) rfl, hp_mu (tb_1 (List.mem_of_getElem? (i := 1) rfl)) rfl, by decide, by decide +kernel⟩
theorem lv_X11_steps : hp_LV yX11_steps 12 := ⟨hp_mu (tm_5_2 (List.mem_of_getElem? (i := 14) rfl)) rfl, hp_mu (tm_5_2 (List.mem_of_getElem? (i := 15) rfl)) rfl, rfl, rfl, rfl⟩
theorem lb_X11_climbs : hp_LB yX11_climbs cX11_climbs 3 (some .int) 2 := ⟨hp_mu (tm_5_3 (List.mem_of_getElem? (i := 4) rfl)) rfl, hp_mu (tb_1 (List.mem_of_getElem? (i := 1) rfl)) rfl, by decide, by decide +kernel⟩
theorem lv_X11_climbs : hp_LV yX11_climbs 12 := ⟨hp_mu (tm_5_3 (List.mem_of_getElem? (i := 2) rfl)) rfl, hp_mu (tm_5_3 (List.mem_of_getElem? (i := 3) rfl)) rfl, rfl, rfl, rfl⟩
theorem lb_X11_agree : hp_LB yX11_agree cX11_agree 5 (some .int) 2 := ⟨hp_mu (tm_5_3 (List.mem_of_getElem? (i := 8) rfl)) rfl, hp_mu (tb_1 (List.mem_of_getElem? (i := 1) rfl)) rfl, by decide, by decide +kernel⟩
theorem lv_X11_agree : hp_LV yX11_agree 12 := ⟨hp_mu (tm_5_3 (List.mem_of_getElem? (i := 6) rfl)) rfl, hp_mu (tm_5_3 (List.mem_of_getElem? (i := 7) rfl)) rfl, rfl, rfl, rfl⟩
theorem lb_X10_doAgree : hp_LB yX10_doAgree cX10_doAgree 5 (some .boolean) 2 := ⟨hp_mu (tm_5_3 (List.mem_of_getElem? (i := 12) rfl)) rfl, hp_mu (tb_1 (List.mem_of_getElem? (i := 2) rfl)) rfl, by decide, by decide +kernel⟩
theorem lv_X10_doAgree : hp_LV yX10_doAgree 11 := ⟨hp_mu (tm_5_3 (List.mem_of_getElem? (i := 10) rfl)) rfl, hp_mu (tm_5_3 (List.mem_of_getElem? (i := 11) rfl)) rfl, rfl, rfl, rfl⟩
theorem lb_X11_where : hp_LB yX11_where cX11_where 5 (some .int) 2 := ⟨hp_mu (tm_5_4 (List.mem_of_getElem? (i := 0) rfl)) rfl, hp_mu (tb_1 (List.mem_of_getElem? (i := 1) rfl)) rfl, by decide, by decide +kernel⟩
theorem lv_X11_where : hp_LV yX11_where 12 := ⟨hp_mu (tm_5_3 (List.mem_of_getElem? (i := 14) rfl)) rfl, hp_mu (tm_5_3 (List.mem_of_getElem? (i := 15) rfl)) rfl, rfl, rfl, rfl⟩
theorem lb_X2_countLike : hp_LB yX2_countLike cX2_countLike 5 (some .int) 1 := ⟨hp_mu (tm_5_4 (List.mem_of_getElem? (i := 4) rfl)) rfl, hp_mu (tb_1 (List.mem_of_getElem? (i := 5) rfl)) rfl, by decide, by decide +kernel⟩
theorem lv_X2_countLike : hp_LV yX2_countLike 3 := ⟨hp_mu (tm_5_4 (List.mem_of_getElem? (i := 2) rfl)) rfl, hp_mu (tm_5_4 (List.mem_of_getElem? (i := 3) rfl)) rfl, rfl, rfl, rfl⟩
theorem lb_X9_isLike : hp_LB yX9_isLike cX9_isLike 4 (some .boolean) 1 := ⟨hp_mu (tm_5_4 (List.mem_of_getElem? (i := 8) rfl)) rfl, hp_mu (tb_1 (List.mem_of_getElem? (i := 6) rfl)) rfl, by decide, by decide +kernel⟩
theorem lv_X9_isLike : hp_LV yX9_isLike 10 := ⟨hp_mu (tm_5_4 (List.mem_of_getElem? (i := 6) rfl)) rfl, hp_mu (tm_5_4 (List.mem_of_getElem? (i := 7) rfl)) rfl, rfl, rfl, rfl⟩
theorem lb_X2_firstLike : hp_LB yX2_firstLike cX2_firstLike 4 (some .int) 1 := ⟨hp_mu (tm_5_4 (List.mem_of_getElem? (i := 12) rfl)) rfl, hp_mu (tb_1 (List.mem_of_getElem? (i := 5) rfl)) rfl, by decide, by decide +kernel⟩
theorem lv_X2_firstLike : hp_LV yX2_firstLike 3 := ⟨hp_mu (tm_5_4 (List.mem_of_getElem? (i := 10) rfl)) rfl, hp_mu (tm_5_4 (List.mem_of_getElem? (i := 11) rfl)) rfl, rfl, rfl, rfl⟩
theorem lb_X11_tree : hp_LB yX11_tree cX11_tree 7 (some .int) 4 := ⟨hp_mu (tm_5_5 (List.mem_of_getElem? (i := 0) rfl)) rfl, hp_mu (tb_1 (List.mem_of_getElem? (i := 1) rfl)) rfl, by decide, by decide +kernel⟩
theorem lv_X11_tree : hp_LV yX11_tree 12 := ⟨hp_mu (tm_5_4 (List.mem_of_getElem? (i := 14) rfl)) rfl, hp_mu (tm_5_4 (List.mem_of_getElem? (i := 15) rfl)) rfl, rfl, rfl, rfl⟩
theorem lb_X8_toTree : hp_LB yX8_toTree cX8_toTree 8 none 2 := ⟨hp_mu (tm_5_5 (List.mem_of_getElem? (i := 4) rfl)) rfl, hp_mu (tb_1 (List.mem_of_getElem? (i := 4) rfl)) rfl, by decide, by decide +kernel⟩
theorem lv_X8_toTree : hp_LV yX8_toTree 9 := ⟨hp_mu (tm_5_5 (List.mem_of_getElem? (i := 2) rfl)) rfl, hp_mu (tm_5_5 (List.mem_of_getElem? (i := 3) rfl)) rfl, rfl, rfl, rfl⟩
theorem lb_X11_proves : hp_LB yX11_proves cX11_proves 6 (some .int) 2 := ⟨hp_mu (tm_5_5 (List.mem_of_getElem? (i := 11) rfl)) rfl, hp_mu (tb_1 (List.mem_of_getElem? (i := 1) rfl)) rfl, by decide, by decide +kernel⟩
theorem lv_X11_proves : hp_LV yX11_proves 12 := ⟨hp_mu (tm_5_5 (List.mem_of_getElem? (i := 9) rfl)) rfl, hp_mu (tm_5_5 (List.mem_of_getElem? (i := 10) rfl)) rfl, rfl, rfl, rfl⟩
theorem lb_X11_longest : hp_LB yX11_longest cX11_longest 7 (some .int) 2 := ⟨hp_mu (tm_5_6 (List.mem_of_getElem? (i := 0) rfl)) rfl, hp_mu (tb_1 (List.mem_of_getElem? (i := 1) rfl)) rfl, by decide, by decide +kernel⟩
theorem lv_X11_longest : hp_LV yX11_longest 12 := ⟨hp_mu (tm_5_5 (List.mem_of_getElem? (i := 14) rfl)) rfl, hp_mu (tm_5_5 (List.mem_of_getElem? (i := 15) rfl)) rfl, rfl, rfl, rfl⟩
theorem lb_X11_part : hp_LB yX11_part cX11_part 6 (some .int) 3 := ⟨hp_mu (tm_5_6 (List.mem_of_getElem? (i := 4) rfl)) rfl, hp_mu (tb_1 (List.mem_of_getElem? (i := 1) rfl)) rfl, by decide, by decide +kernel⟩
theorem lv_X11_part : hp_LV yX11_part 12 := ⟨hp_mu (tm_5_6 (List.mem_of_getElem? (i := 2) rfl)) rfl, hp_mu (tm_5_6 (List.mem_of_getElem? (i := 3) rfl)) rfl, rfl, rfl, rfl⟩
theorem lb_X10_partingEntry : hp_LB yX10_partingEntry cX10_partingEntry 4 (some .int) 2 := ⟨hp_mu (tm_5_6 (List.mem_of_getElem? (i := 8) rfl)) rfl, hp_mu (tb_1 (List.mem_of_getElem? (i := 2) rfl)) rfl, by decide, by decide +kernel⟩
theorem lv_X10_partingEntry : hp_LV yX10_partingEntry 11 := ⟨hp_mu (tm_5_6 (List.mem_of_getElem? (i := 6) rfl)) rfl, hp_mu (tm_5_6 (List.mem_of_getElem? (i := 7) rfl)) rfl, rfl, rfl, rfl⟩
theorem lb_X10_partingTrees : hp_LB yX10_partingTrees cX10_partingTrees 10 (some .int) 4 := ⟨hp_mu (tm_5_6 (List.mem_of_getElem? (i := 12) rfl)) rfl, hp_mu (tb_1 (List.mem_of_getElem? (i := 2) rfl)) rfl, by decide, by decide +kernel⟩
theorem lv_X10_partingTrees : hp_LV yX10_partingTrees 11 := ⟨hp_mu (tm_5_6 (List.mem_of_getElem? (i := 11) rfl)) rfl, hp_mu (tm_0_1 (List.mem_of_getElem? (i := 6) rfl)) rfl, rfl, rfl, rfl⟩
theorem lb_X10_partingCompared : hp_LB yX10_partingCompared cX10_partingCompared 4 (some .int) 2 := ⟨hp_mu (tm_5_7 (List.mem_of_getElem? (i := 1) rfl)) rfl, hp_mu (tb_1 (List.mem_of_getElem? (i := 2) rfl)) rfl, by decide, by decide +kernel⟩
theorem lv_X10_partingCompared : hp_LV yX10_partingCompared 11 := ⟨hp_mu (tm_5_6 (List.mem_of_getElem? (i := 15) rfl)) rfl, hp_mu (tm_5_7 (List.mem_of_getElem? (i := 0) rfl)) rfl, rfl, rfl, rfl⟩
theorem lb_X11_blame : hp_LB yX11_blame cX11_blame 4 (some .int) 2 := ⟨hp_mu (tm_5_7 (List.mem_of_getElem? (i := 5) rfl)) rfl, hp_mu (tb_1 (List.mem_of_getElem? (i := 1) rfl)) rfl, by decide, by decide +kernel⟩
theorem lv_X11_blame : hp_LV yX11_blame 12 := ⟨hp_mu (tm_5_7 (List.mem_of_getElem? (i := 3) rfl)) rfl, hp_mu (tm_5_7 (List.mem_of_getElem? (i := 4) rfl)) rfl, rfl, rfl, rfl⟩
theorem lb_X10_countUnsound : hp_LB yX10_countUnsound cX10_countUnsound 5 (some .int) 1 := ⟨hp_mu (tm_5_7 (List.mem_of_getElem? (i := 9) rfl)) rfl, hp_mu (tb_1 (List.mem_of_getElem? (i := 2) rfl)) rfl, by decide, by decide +kernel⟩
theorem lv_X10_countUnsound : hp_LV yX10_countUnsound 11 := ⟨hp_mu (tm_5_7 (List.mem_of_getElem? (i := 7) rfl)) rfl, hp_mu (tm_5_7 (List.mem_of_getElem? (i := 8) rfl)) rfl, rfl, rfl, rfl⟩
theorem lb_X10_leastUnsound : hp_LB yX10_leastUnsound cX10_leastUnsound 5 (some .int) 1 := ⟨hp_mu (tm_5_7 (List.mem_of_getElem? (i := 15) rfl)) rfl, hp_mu (tb_1 (List.mem_of_getElem? (i := 2) rfl)) rfl, by decide, by decide +kernel⟩
theorem lv_X10_leastUnsound : hp_LV yX10_leastUnsound 11 := ⟨hp_mu (tm_5_7 (List.mem_of_getElem? (i := 13) rfl)) rfl, hp_mu (tm_5_7 (List.mem_of_getElem? (i := 14) rfl)) rfl, rfl, rfl, rfl⟩
theorem lb_X10_greatestSoundBelow : hp_LB yX10_greatestSoundBelow cX10_greatestSoundBelow 6 (some .int) 2 := ⟨hp_mu (tm_5_8 (List.mem_of_getElem? (i := 3) rfl)) rfl, hp_mu (tb_1 (List.mem_of_getElem? (i := 2) rfl)) rfl, by decide, by decide +kernel⟩
theorem lv_X10_greatestSoundBelow : hp_LV yX10_greatestSoundBelow 11 := ⟨hp_mu (tm_5_8 (List.mem_of_getElem? (i := 1) rfl)) rfl, hp_mu (tm_5_8 (List.mem_of_getElem? (i := 2) rfl)) rfl, rfl, rfl, rfl⟩
theorem lb_X11_weak : hp_LB yX11_weak cX11_weak 8 (some .int) 4 := ⟨hp_mu (tm_5_8 (List.mem_of_getElem? (i := 8) rfl)) rfl, hp_mu (tb_1 (List.mem_of_getElem? (i := 1) rfl)) rfl, by decide, by decide +kernel⟩
theorem lv_X11_weak : hp_LV yX11_weak 12 := ⟨hp_mu (tm_5_8 (List.mem_of_getElem? (i := 6) rfl)) rfl, hp_mu (tm_5_8 (List.mem_of_getElem? (i := 7) rfl)) rfl, rfl, rfl, rfl⟩
theorem lb_X11_preparedRoots : hp_LB yX11_preparedRoots cX11_preparedRoots 1 (some (.object "ProvenRecord$Roots")) 0 := ⟨hp_mu (tm_5_8 (List.mem_of_getElem? (i := 12) rfl)) rfl, hp_mu (tb_1 (List.mem_of_getElem? (i := 1) rfl)) rfl, by decide, by decide +kernel⟩
theorem lv_X11_preparedRoots : hp_LV yX11_preparedRoots 12 := ⟨hp_mu (tm_5_8 (List.mem_of_getElem? (i := 11) rfl)) rfl, hp_mu (tm_0_1 (List.mem_of_getElem? (i := 7) rfl)) rfl, rfl, rfl, rfl⟩
theorem lb_X4_init : hp_LB yX4_init cX4_init 1 none 0 := ⟨hp_mu (tm_5_9 (List.mem_of_getElem? (i := 1) rfl)) rfl, hp_mu (tm_1_1 (List.mem_of_getElem? (i := 3) rfl)) rfl, by decide, by decide +kernel⟩
theorem li_X4_init : Cond.instanceMethod yX4_init ∈ lw_u := hp_mu (tm_5_9 (List.mem_of_getElem? (i := 0) rfl)) rfl
theorem lb_X4_prepare : hp_LB yX4_prepare cX4_prepare 4 none 1 := ⟨hp_mu (tm_5_11 (List.mem_of_getElem? (i := 15) rfl)) rfl, hp_mu (tm_1_1 (List.mem_of_getElem? (i := 3) rfl)) rfl, by decide, by decide +kernel⟩
theorem lv_X4_prepare : hp_LV yX4_prepare 5 := ⟨hp_mu (tm_5_11 (List.mem_of_getElem? (i := 13) rfl)) rfl, hp_mu (tm_5_11 (List.mem_of_getElem? (i := 14) rfl)) rfl, rfl, rfl, rfl⟩
theorem lb_X4_seekThing : hp_LB yX4_seekThing cX4_seekThing 5 none 4 := ⟨hp_mu (tm_5_12 (List.mem_of_getElem? (i := 4) rfl)) rfl, hp_mu (tm_1_1 (List.mem_of_getElem? (i := 3) rfl)) rfl, by decide, by decide +kernel⟩
theorem lv_X4_seekThing : hp_LV yX4_seekThing 5 := ⟨hp_mu (tm_5_12 (List.mem_of_getElem? (i := 2) rfl)) rfl, hp_mu (tm_5_12 (List.mem_of_getElem? (i := 3) rfl)) rfl, rfl, rfl, rfl⟩
theorem lb_X4_seek : hp_LB yX4_seek cX4_seek 2 none 1 := ⟨hp_mu (tm_5_12 (List.mem_of_getElem? (i := 8) rfl)) rfl, hp_mu (tm_1_1 (List.mem_of_getElem? (i := 3) rfl)) rfl, by decide, by decide +kernel⟩
theorem lv_X4_seek : hp_LV yX4_seek 5 := ⟨hp_mu (tm_5_12 (List.mem_of_getElem? (i := 7) rfl)) rfl, hp_mu (tm_0_1 (List.mem_of_getElem? (i := 8) rfl)) rfl, rfl, rfl, rfl⟩
theorem lb_X4_goBack : hp_LB yX4_goBack cX4_goBack 7 none 3 := ⟨hp_mu (tm_5_12 (List.mem_of_getElem? (i := 11) rfl)) rfl, hp_mu (tm_1_1 (List.mem_of_getElem? (i := 3) rfl)) rfl, by decide, by decide +kernel⟩
theorem ls_X4_goBack : Cond.static yX4_goBack ∈ lw_u := hp_mu (tm_5_12 (List.mem_of_getElem? (i := 10) rfl)) rfl
theorem lb_X4_take : hp_LB yX4_take cX4_take 2 none 1 := ⟨hp_mu (tm_5_12 (List.mem_of_getElem? (i := 15) rfl)) rfl, hp_mu (tm_1_1 (List.mem_of_getElem? (i := 3) rfl)) rfl, by decide, by decide +kernel⟩
theorem lv_X4_take : hp_LV yX4_take 5 := ⟨hp_mu (tm_5_12 (List.mem_of_getElem? (i := 14) rfl)) rfl, hp_mu (tm_0_1 (List.mem_of_getElem? (i := 9) rfl)) rfl, rfl, rfl, rfl⟩
theorem lb_X4_secondOf : hp_LB yX4_secondOf cX4_secondOf 3 (some .int) 2 := ⟨hp_mu (tm_5_13 (List.mem_of_getElem? (i := 6) rfl)) rfl, hp_mu (tm_1_1 (List.mem_of_getElem? (i := 3) rfl)) rfl, by decide, by decide +kernel⟩
theorem lv_X4_secondOf : hp_LV yX4_secondOf 5 := ⟨hp_mu (tm_5_13 (List.mem_of_getElem? (i := 5) rfl)) rfl, hp_mu (tm_0_1 (List.mem_of_getElem? (i := 10) rfl)) rfl, rfl, rfl, rfl⟩
theorem lb_X4_restOf : hp_LB yX4_restOf cX4_restOf 3 (some .int) 1 := ⟨hp_mu (tm_5_13 (List.mem_of_getElem? (i := 11) rfl)) rfl, hp_mu (tm_1_1 (List.mem_of_getElem? (i := 3) rfl)) rfl, by decide, by decide +kernel⟩
theorem lv_X4_restOf : hp_LV yX4_restOf 5 := ⟨hp_mu (tm_5_13 (List.mem_of_getElem? (i := 10) rfl)) rfl, hp_mu (tm_0_1 (List.mem_of_getElem? (i := 11) rfl)) rfl, rfl, rfl, rfl⟩
theorem lb_J9_floorMod_f86c9 : hp_LB yJ9_floorMod_f86c9 cJ9_floorMod_f86c9 6 (some .long) 2 := ⟨hp_mu (tm_5_13 (List.mem_of_getElem? (i := 14) rfl)) rfl, hp_mu (tb_1 (List.mem_of_getElem? (i := 13) rfl)) rfl, by decide, by decide +kernel⟩
theorem ls_J9_floorMod_f86c9 : Cond.static yJ9_floorMod_f86c9 ∈ lw_u := hp_mu (tm_5_13 (List.mem_of_getElem? (i := 13) rfl)) rfl
theorem lb_X4_leastRoot : hp_LB yX4_leastRoot cX4_leastRoot 4 (some .int) 2 := ⟨hp_mu (tm_5_14 (List.mem_of_getElem? (i := 2) rfl)) rfl, hp_mu (tm_1_1 (List.mem_of_getElem? (i := 3) rfl)) rfl, by decide, by decide +kernel⟩
theorem lv_X4_leastRoot : hp_LV yX4_leastRoot 5 := ⟨hp_mu (tm_5_14 (List.mem_of_getElem? (i := 1) rfl)) rfl, hp_mu (tm_0_1 (List.mem_of_getElem? (i := 12) rfl)) rfl, rfl, rfl, rfl⟩
theorem lb_X4_firstOf : hp_LB yX4_firstOf cX4_firstOf 2 (some .int) 1 := ⟨hp_mu (tm_5_14 (List.mem_of_getElem? (i := 6) rfl)) rfl, hp_mu (tm_1_1 (List.mem_of_getElem? (i := 3) rfl)) rfl, by decide, by decide +kernel⟩
theorem lv_X4_firstOf : hp_LV yX4_firstOf 5 := ⟨hp_mu (tm_5_14 (List.mem_of_getElem? (i := 5) rfl)) rfl, hp_mu (tm_0_1 (List.mem_of_getElem? (i := 13) rfl)) rfl, rfl, rfl, rfl⟩
theorem lb_X11_clash : hp_LB yX11_clash cX11_clash 13 (some .int) 5 := ⟨hp_mu (tm_5_14 (List.mem_of_getElem? (i := 11) rfl)) rfl, hp_mu (tb_1 (List.mem_of_getElem? (i := 1) rfl)) rfl, by decide, by decide +kernel⟩
theorem lv_X11_clash : hp_LV yX11_clash 12 := ⟨hp_mu (tm_5_14 (List.mem_of_getElem? (i := 9) rfl)) rfl, hp_mu (tm_5_14 (List.mem_of_getElem? (i := 10) rfl)) rfl, rfl, rfl, rfl⟩
theorem lb_X11_clashingStep : hp_LB yX11_clashingStep cX11_clashingStep 7 (some .int) 2 := ⟨hp_mu (tm_5_14 (List.mem_of_getElem? (i := 15) rfl)) rfl, hp_mu (tb_1 (List.mem_of_getElem? (i := 1) rfl)) rfl, by decide, by decide +kernel⟩
theorem lv_X11_clashingStep : hp_LV yX11_clashingStep 12 := ⟨hp_mu (tm_5_14 (List.mem_of_getElem? (i := 14) rfl)) rfl, hp_mu (tm_0_1 (List.mem_of_getElem? (i := 14) rfl)) rfl, rfl, rfl, rfl⟩
theorem lb_X11_forge : hp_LB yX11_forge cX11_forge 7 (some .int) 5 := ⟨hp_mu (tb_6 (List.mem_of_getElem? (i := 6) rfl)) rfl, hp_mu (tb_1 (List.mem_of_getElem? (i := 1) rfl)) rfl, by decide, by decide +kernel⟩
theorem lv_X11_forge : hp_LV yX11_forge 12 := ⟨hp_mu (tb_6 (List.mem_of_getElem? (i := 4) rfl)) rfl, hp_mu (tb_6 (List.mem_of_getElem? (i := 5) rfl)) rfl, rfl, rfl, rfl⟩
theorem lb_X4_seekStep : hp_LB yX4_seekStep cX4_seekStep 6 none 5 := ⟨hp_mu (tb_6 (List.mem_of_getElem? (i := 10) rfl)) rfl, hp_mu (tm_1_1 (List.mem_of_getElem? (i := 3) rfl)) rfl, by decide, by decide +kernel⟩
theorem lv_X4_seekStep : hp_LV yX4_seekStep 5 := ⟨hp_mu (tb_6 (List.mem_of_getElem? (i := 8) rfl)) rfl, hp_mu (tb_6 (List.mem_of_getElem? (i := 9) rfl)) rfl, rfl, rfl, rfl⟩
theorem lb_X11_trace : hp_LB yX11_trace cX11_trace 5 (some .int) 4 := ⟨hp_mu (tb_6 (List.mem_of_getElem? (i := 14) rfl)) rfl, hp_mu (tb_1 (List.mem_of_getElem? (i := 1) rfl)) rfl, by decide, by decide +kernel⟩
theorem lv_X11_trace : hp_LV yX11_trace 12 := ⟨hp_mu (tb_6 (List.mem_of_getElem? (i := 12) rfl)) rfl, hp_mu (tb_6 (List.mem_of_getElem? (i := 13) rfl)) rfl, rfl, rfl, rfl⟩
theorem lb_X11_span : hp_LB yX11_span cX11_span 5 (some .int) 4 := ⟨hp_mu (tm_6_1 (List.mem_of_getElem? (i := 2) rfl)) rfl, hp_mu (tb_1 (List.mem_of_getElem? (i := 1) rfl)) rfl, by decide, by decide +kernel⟩
theorem lv_X11_span : hp_LV yX11_span 12 := ⟨hp_mu (tm_6_1 (List.mem_of_getElem? (i := 0) rfl)) rfl, hp_mu (tm_6_1 (List.mem_of_getElem? (i := 1) rfl)) rfl, rfl, rfl, rfl⟩
theorem lb_X11_treeOfWay : hp_LB yX11_treeOfWay cX11_treeOfWay 3 (some .int) 2 := ⟨hp_mu (tm_6_1 (List.mem_of_getElem? (i := 6) rfl)) rfl, hp_mu (tb_1 (List.mem_of_getElem? (i := 1) rfl)) rfl, by decide, by decide +kernel⟩
theorem lv_X11_treeOfWay : hp_LV yX11_treeOfWay 12 := ⟨hp_mu (tm_6_1 (List.mem_of_getElem? (i := 5) rfl)) rfl, hp_mu (tm_0_1 (List.mem_of_getElem? (i := 15) rfl)) rfl, rfl, rfl, rfl⟩
theorem lb_X11_rise : hp_LB yX11_rise cX11_rise 5 (some .int) 4 := ⟨hp_mu (tm_6_1 (List.mem_of_getElem? (i := 10) rfl)) rfl, hp_mu (tb_1 (List.mem_of_getElem? (i := 1) rfl)) rfl, by decide, by decide +kernel⟩
theorem lv_X11_rise : hp_LV yX11_rise 12 := ⟨hp_mu (tm_6_1 (List.mem_of_getElem? (i := 8) rfl)) rfl, hp_mu (tm_6_1 (List.mem_of_getElem? (i := 9) rfl)) rfl, rfl, rfl, rfl⟩
theorem lb_X11_kept : hp_LB yX11_kept cX11_kept 4 (some .int) 3 := ⟨hp_mu (tm_6_1 (List.mem_of_getElem? (i := 14) rfl)) rfl, hp_mu (tb_1 (List.mem_of_getElem? (i := 1) rfl)) rfl, by decide, by decide +kernel⟩
theorem lv_X11_kept : hp_LV yX11_kept 12 := ⟨hp_mu (tm_6_1 (List.mem_of_getElem? (i := 12) rfl)) rfl, hp_mu (tm_6_1 (List.mem_of_getElem? (i := 13) rfl)) rfl, rfl, rfl, rfl⟩
theorem lb_X8_countShared : hp_LB yX8_countShared cX8_countShared 5 (some .int) 1 := ⟨hp_mu (tm_6_2 (List.mem_of_getElem? (i := 2) rfl)) rfl, hp_mu (tb_1 (List.mem_of_getElem? (i := 4) rfl)) rfl, by decide, by decide +kernel⟩
theorem lv_X8_countShared : hp_LV yX8_countShared 9 := ⟨hp_mu (tm_6_2 (List.mem_of_getElem? (i := 0) rfl)) rfl, hp_mu (tm_6_2 (List.mem_of_getElem? (i := 1) rfl)) rfl, rfl, rfl, rfl⟩
theorem lb_X11_sick : hp_LB yX11_sick cX11_sick 3 (some .int) 1 := ⟨hp_mu (tm_6_2 (List.mem_of_getElem? (i := 8) rfl)) rfl, hp_mu (tb_1 (List.mem_of_getElem? (i := 1) rfl)) rfl, by decide, by decide +kernel⟩
theorem lv_X11_sick : hp_LV yX11_sick 12 := ⟨hp_mu (tm_6_2 (List.mem_of_getElem? (i := 6) rfl)) rfl, hp_mu (tm_6_2 (List.mem_of_getElem? (i := 7) rfl)) rfl, rfl, rfl, rfl⟩
theorem lb_X10_sickBits : hp_LB yX10_sickBits cX10_sickBits 5 (some .int) 2 := ⟨hp_mu (tm_6_2 (List.mem_of_getElem? (i := 12) rfl)) rfl, hp_mu (tb_1 (List.mem_of_getElem? (i := 2) rfl)) rfl, by decide, by decide +kernel⟩
theorem lv_X10_sickBits : hp_LV yX10_sickBits 11 := ⟨hp_mu (tm_6_2 (List.mem_of_getElem? (i := 10) rfl)) rfl, hp_mu (tm_6_2 (List.mem_of_getElem? (i := 11) rfl)) rfl, rfl, rfl, rfl⟩
theorem lb_X11_chain : hp_LB yX11_chain cX11_chain 9 (some .int) 2 := ⟨hp_mu (tm_6_3 (List.mem_of_getElem? (i := 1) rfl)) rfl, hp_mu (tb_1 (List.mem_of_getElem? (i := 1) rfl)) rfl, by decide, by decide +kernel⟩
theorem lv_X11_chain : hp_LV yX11_chain 12 := ⟨hp_mu (tm_6_2 (List.mem_of_getElem? (i := 15) rfl)) rfl, hp_mu (tm_6_3 (List.mem_of_getElem? (i := 0) rfl)) rfl, rfl, rfl, rfl⟩
theorem lb_X10_leastFrozenAbove : hp_LB yX10_leastFrozenAbove cX10_leastFrozenAbove 6 (some .int) 2 := ⟨hp_mu (tm_6_3 (List.mem_of_getElem? (i := 5) rfl)) rfl, hp_mu (tb_1 (List.mem_of_getElem? (i := 2) rfl)) rfl, by decide, by decide +kernel⟩
theorem lv_X10_leastFrozenAbove : hp_LV yX10_leastFrozenAbove 11 := ⟨hp_mu (tm_6_3 (List.mem_of_getElem? (i := 3) rfl)) rfl, hp_mu (tm_6_3 (List.mem_of_getElem? (i := 4) rfl)) rfl, rfl, rfl, rfl⟩
theorem lb_X11_addLinks : hp_LB yX11_addLinks cX11_addLinks 5 (some .int) 1 := ⟨hp_mu (tm_6_3 (List.mem_of_getElem? (i := 9) rfl)) rfl, hp_mu (tb_1 (List.mem_of_getElem? (i := 1) rfl)) rfl, by decide, by decide +kernel⟩
theorem lv_X11_addLinks : hp_LV yX11_addLinks 12 := ⟨hp_mu (tm_6_3 (List.mem_of_getElem? (i := 8) rfl)) rfl, hp_mu (tm_0_2 (List.mem_of_getElem? (i := 0) rfl)) rfl, rfl, rfl, rfl⟩
theorem lb_X11_isLink : hp_LB yX11_isLink cX11_isLink 4 (some .boolean) 2 := ⟨hp_mu (tm_6_3 (List.mem_of_getElem? (i := 13) rfl)) rfl, hp_mu (tb_1 (List.mem_of_getElem? (i := 1) rfl)) rfl, by decide, by decide +kernel⟩
theorem lv_X11_isLink : hp_LV yX11_isLink 12 := ⟨hp_mu (tm_6_3 (List.mem_of_getElem? (i := 12) rfl)) rfl, hp_mu (tm_0_2 (List.mem_of_getElem? (i := 1) rfl)) rfl, rfl, rfl, rfl⟩
theorem lb_X11_split : hp_LB yX11_split cX11_split 6 (some .int) 1 := ⟨hp_mu (tm_6_4 (List.mem_of_getElem? (i := 1) rfl)) rfl, hp_mu (tb_1 (List.mem_of_getElem? (i := 1) rfl)) rfl, by decide, by decide +kernel⟩
theorem lv_X11_split : hp_LV yX11_split 12 := ⟨hp_mu (tm_6_3 (List.mem_of_getElem? (i := 15) rfl)) rfl, hp_mu (tm_6_4 (List.mem_of_getElem? (i := 0) rfl)) rfl, rfl, rfl, rfl⟩
theorem lb_X11_tell : hp_LB yX11_tell cX11_tell 6 (some .int) 3 := ⟨hp_mu (tm_6_4 (List.mem_of_getElem? (i := 5) rfl)) rfl, hp_mu (tb_1 (List.mem_of_getElem? (i := 1) rfl)) rfl, by decide, by decide +kernel⟩
theorem lv_X11_tell : hp_LV yX11_tell 12 := ⟨hp_mu (tm_6_4 (List.mem_of_getElem? (i := 3) rfl)) rfl, hp_mu (tm_6_4 (List.mem_of_getElem? (i := 4) rfl)) rfl, rfl, rfl, rfl⟩
theorem lb_X11_tellText : hp_LB yX11_tellText cX11_tellText 3 none 1 := ⟨hp_mu (tm_6_4 (List.mem_of_getElem? (i := 10) rfl)) rfl, hp_mu (tb_1 (List.mem_of_getElem? (i := 1) rfl)) rfl, by decide, by decide +kernel⟩
theorem lv_X11_tellText : hp_LV yX11_tellText 12 := ⟨hp_mu (tm_6_4 (List.mem_of_getElem? (i := 9) rfl)) rfl, hp_mu (tm_0_2 (List.mem_of_getElem? (i := 2) rfl)) rfl, rfl, rfl, rfl⟩
theorem lb_X11_tellByte : hp_LB yX11_tellByte cX11_tellByte 2 none 1 := ⟨hp_mu (tm_6_5 (List.mem_of_getElem? (i := 0) rfl)) rfl, hp_mu (tb_1 (List.mem_of_getElem? (i := 1) rfl)) rfl, by decide, by decide +kernel⟩
theorem lv_X11_tellByte : hp_LV yX11_tellByte 12 := ⟨hp_mu (tm_6_4 (List.mem_of_getElem? (i := 15) rfl)) rfl, hp_mu (tm_0_2 (List.mem_of_getElem? (i := 3) rfl)) rfl, rfl, rfl, rfl⟩
theorem lb_X11_tellNumber : hp_LB yX11_tellNumber cX11_tellNumber 4 none 1 := ⟨hp_mu (tm_6_5 (List.mem_of_getElem? (i := 4) rfl)) rfl, hp_mu (tb_1 (List.mem_of_getElem? (i := 1) rfl)) rfl, by decide, by decide +kernel⟩
theorem lv_X11_tellNumber : hp_LV yX11_tellNumber 12 := ⟨hp_mu (tm_6_5 (List.mem_of_getElem? (i := 3) rfl)) rfl, hp_mu (tm_0_2 (List.mem_of_getElem? (i := 4) rfl)) rfl, rfl, rfl, rfl⟩
theorem lb_X11_tellProof : hp_LB yX11_tellProof cX11_tellProof 2 none 0 := ⟨hp_mu (tm_6_5 (List.mem_of_getElem? (i := 11) rfl)) rfl, hp_mu (tb_1 (List.mem_of_getElem? (i := 1) rfl)) rfl, by decide, by decide +kernel⟩
theorem lv_X11_tellProof : hp_LV yX11_tellProof 12 := ⟨hp_mu (tm_6_5 (List.mem_of_getElem? (i := 10) rfl)) rfl, hp_mu (tm_0_2 (List.mem_of_getElem? (i := 5) rfl)) rfl, rfl, rfl, rfl⟩
theorem lb_X11_tellGrowth : hp_LB yX11_tellGrowth cX11_tellGrowth 6 (some .int) 3 := ⟨hp_mu (tm_6_6 (List.mem_of_getElem? (i := 2) rfl)) rfl, hp_mu (tb_1 (List.mem_of_getElem? (i := 1) rfl)) rfl, by decide, by decide +kernel⟩
theorem lv_X11_tellGrowth : hp_LV yX11_tellGrowth 12 := ⟨hp_mu (tm_6_6 (List.mem_of_getElem? (i := 0) rfl)) rfl, hp_mu (tm_6_6 (List.mem_of_getElem? (i := 1) rfl)) rfl, rfl, rfl, rfl⟩
theorem lb_X11_out : hp_LB yX11_out cX11_out 2 (some .int) 1 := ⟨hp_mu (tm_6_6 (List.mem_of_getElem? (i := 8) rfl)) rfl, hp_mu (tb_1 (List.mem_of_getElem? (i := 1) rfl)) rfl, by decide, by decide +kernel⟩
theorem lv_X11_out : hp_LV yX11_out 12 := ⟨hp_mu (tm_6_6 (List.mem_of_getElem? (i := 6) rfl)) rfl, hp_mu (tm_6_6 (List.mem_of_getElem? (i := 7) rfl)) rfl, rfl, rfl, rfl⟩
theorem lb_X11_trusted : hp_LB yX11_trusted cX11_trusted 6 (some .int) 2 := ⟨hp_mu (tm_6_6 (List.mem_of_getElem? (i := 12) rfl)) rfl, hp_mu (tb_1 (List.mem_of_getElem? (i := 1) rfl)) rfl, by decide, by decide +kernel⟩
theorem lv_X11_trusted : hp_LV yX11_trusted 12 := ⟨hp_mu (tm_6_6 (List.mem_of_getElem? (i := 10) rfl)) rfl, hp_mu (tm_6_6 (List.mem_of_getElem? (i := 11) rfl)) rfl, rfl, rfl, rfl⟩
theorem lb_X11_saves : hp_LB yX11_saves cX11_saves 5 (some .int) 2 := ⟨hp_mu (tm_6_7 (List.mem_of_getElem? (i := 0) rfl)) rfl, hp_mu (tb_1 (List.mem_of_getElem? (i := 1) rfl)) rfl, by decide, by decide +kernel⟩
theorem lv_X11_saves : hp_LV yX11_saves 12 := ⟨hp_mu (tm_6_6 (List.mem_of_getElem? (i := 14) rfl)) rfl, hp_mu (tm_6_6 (List.mem_of_getElem? (i := 15) rfl)) rfl, rfl, rfl, rfl⟩
theorem lb_X11_who : hp_LB yX11_who cX11_who 5 (some .int) 2 := ⟨hp_mu (tm_6_7 (List.mem_of_getElem? (i := 5) rfl)) rfl, hp_mu (tb_1 (List.mem_of_getElem? (i := 1) rfl)) rfl, by decide, by decide +kernel⟩
theorem lv_X11_who : hp_LV yX11_who 12 := ⟨hp_mu (tm_6_7 (List.mem_of_getElem? (i := 3) rfl)) rfl, hp_mu (tm_6_7 (List.mem_of_getElem? (i := 4) rfl)) rfl, rfl, rfl, rfl⟩
theorem lb_X12_init : hp_LB yX12_init cX12_init 1 none 0 := ⟨hp_mu (tm_6_7 (List.mem_of_getElem? (i := 11) rfl)) rfl, hp_mu (tb_1 (List.mem_of_getElem? (i := 12) rfl)) rfl, by decide, by decide +kernel⟩
theorem li_X12_init : Cond.instanceMethod yX12_init ∈ lw_u := hp_mu (tm_6_7 (List.mem_of_getElem? (i := 10) rfl)) rfl
theorem lb_X12_clears : hp_LB yX12_clears cX12_clears 2 none 0 := ⟨hp_mu (tm_6_8 (List.mem_of_getElem? (i := 12) rfl)) rfl, hp_mu (tb_1 (List.mem_of_getElem? (i := 12) rfl)) rfl, by decide, by decide +kernel⟩
theorem lv_X12_clears : hp_LV yX12_clears 13 := ⟨hp_mu (tm_6_8 (List.mem_of_getElem? (i := 11) rfl)) rfl, hp_mu (tm_0_2 (List.mem_of_getElem? (i := 6) rfl)) rfl, rfl, rfl, rfl⟩
theorem lb_X12_status : hp_LB yX12_status cX12_status 1 (some .int) 0 := ⟨hp_mu (tm_7_3 (List.mem_of_getElem? (i := 3) rfl)) rfl, hp_mu (tb_1 (List.mem_of_getElem? (i := 12) rfl)) rfl, by decide, by decide +kernel⟩
theorem lv_X12_status : hp_LV yX12_status 13 := ⟨hp_mu (tm_7_3 (List.mem_of_getElem? (i := 1) rfl)) rfl, hp_mu (tm_7_3 (List.mem_of_getElem? (i := 2) rfl)) rfl, rfl, rfl, rfl⟩
theorem lb_X12_type : hp_LB yX12_type cX12_type 7 (some .int) 2 := ⟨hp_mu (tm_7_3 (List.mem_of_getElem? (i := 7) rfl)) rfl, hp_mu (tb_1 (List.mem_of_getElem? (i := 12) rfl)) rfl, by decide, by decide +kernel⟩
theorem lv_X12_type : hp_LV yX12_type 13 := ⟨hp_mu (tm_7_3 (List.mem_of_getElem? (i := 5) rfl)) rfl, hp_mu (tm_7_3 (List.mem_of_getElem? (i := 6) rfl)) rfl, rfl, rfl, rfl⟩
theorem lb_X12_feed : hp_LB yX12_feed cX12_feed 6 (some .int) 5 := ⟨hp_mu (tm_7_3 (List.mem_of_getElem? (i := 11) rfl)) rfl, hp_mu (tb_1 (List.mem_of_getElem? (i := 12) rfl)) rfl, by decide, by decide +kernel⟩
theorem lv_X12_feed : hp_LV yX12_feed 13 := ⟨hp_mu (tm_7_3 (List.mem_of_getElem? (i := 9) rfl)) rfl, hp_mu (tm_7_3 (List.mem_of_getElem? (i := 10) rfl)) rfl, rfl, rfl, rfl⟩
theorem lb_X12_puts : hp_LB yX12_puts cX12_puts 3 none 1 := ⟨hp_mu (tm_7_3 (List.mem_of_getElem? (i := 15) rfl)) rfl, hp_mu (tb_1 (List.mem_of_getElem? (i := 12) rfl)) rfl, by decide, by decide +kernel⟩
theorem lv_X12_puts : hp_LV yX12_puts 13 := ⟨hp_mu (tm_7_3 (List.mem_of_getElem? (i := 14) rfl)) rfl, hp_mu (tm_0_2 (List.mem_of_getElem? (i := 7) rfl)) rfl, rfl, rfl, rfl⟩
theorem lb_X12_load : hp_LB yX12_load cX12_load 3 (some .int) 1 := ⟨hp_mu (tm_7_4 (List.mem_of_getElem? (i := 3) rfl)) rfl, hp_mu (tb_1 (List.mem_of_getElem? (i := 12) rfl)) rfl, by decide, by decide +kernel⟩
theorem lv_X12_load : hp_LV yX12_load 13 := ⟨hp_mu (tm_7_4 (List.mem_of_getElem? (i := 1) rfl)) rfl, hp_mu (tm_7_4 (List.mem_of_getElem? (i := 2) rfl)) rfl, rfl, rfl, rfl⟩
theorem lb_X12_isIn : hp_LB yX12_isIn cX12_isIn 3 (some .boolean) 3 := ⟨hp_mu (tm_7_4 (List.mem_of_getElem? (i := 6) rfl)) rfl, hp_mu (tb_1 (List.mem_of_getElem? (i := 12) rfl)) rfl, by decide, by decide +kernel⟩
theorem ls_X12_isIn : Cond.static yX12_isIn ∈ lw_u := hp_mu (tm_7_4 (List.mem_of_getElem? (i := 5) rfl)) rfl
theorem lb_X12_is : hp_LB yX12_is cX12_is 2 (some .boolean) 1 := ⟨hp_mu (tm_7_4 (List.mem_of_getElem? (i := 10) rfl)) rfl, hp_mu (tb_1 (List.mem_of_getElem? (i := 12) rfl)) rfl, by decide, by decide +kernel⟩
theorem lv_X12_is : hp_LV yX12_is 13 := ⟨hp_mu (tm_7_4 (List.mem_of_getElem? (i := 9) rfl)) rfl, hp_mu (tm_0_2 (List.mem_of_getElem? (i := 8) rfl)) rfl, rfl, rfl, rfl⟩
theorem lb_X12_begins : hp_LB yX12_begins cX12_begins 2 none 1 := ⟨hp_mu (tm_7_4 (List.mem_of_getElem? (i := 14) rfl)) rfl, hp_mu (tb_1 (List.mem_of_getElem? (i := 12) rfl)) rfl, by decide, by decide +kernel⟩
theorem lv_X12_begins : hp_LV yX12_begins 13 := ⟨hp_mu (tm_7_4 (List.mem_of_getElem? (i := 13) rfl)) rfl, hp_mu (tm_0_2 (List.mem_of_getElem? (i := 9) rfl)) rfl, rfl, rfl, rfl⟩
theorem lb_X12_reads : hp_LB yX12_reads cX12_reads 1 none 0 := ⟨hp_mu (tm_7_5 (List.mem_of_getElem? (i := 2) rfl)) rfl, hp_mu (tb_1 (List.mem_of_getElem? (i := 12) rfl)) rfl, by decide, by decide +kernel⟩
theorem lv_X12_reads : hp_LV yX12_reads 13 := ⟨hp_mu (tm_7_5 (List.mem_of_getElem? (i := 1) rfl)) rfl, hp_mu (tm_0_2 (List.mem_of_getElem? (i := 10) rfl)) rfl, rfl, rfl, rfl⟩
theorem lb_X12_isOf : hp_LB yX12_isOf cX12_isOf 4 (some .boolean) 3 := ⟨hp_mu (tm_7_5 (List.mem_of_getElem? (i := 6) rfl)) rfl, hp_mu (tb_1 (List.mem_of_getElem? (i := 12) rfl)) rfl, by decide, by decide +kernel⟩
theorem lv_X12_isOf : hp_LV yX12_isOf 13 := ⟨hp_mu (tm_7_5 (List.mem_of_getElem? (i := 5) rfl)) rfl, hp_mu (tm_0_2 (List.mem_of_getElem? (i := 11) rfl)) rfl, rfl, rfl, rfl⟩
theorem lb_X12_isWord : hp_LB yX12_isWord cX12_isWord 2 (some .boolean) 1 := ⟨hp_mu (tm_7_5 (List.mem_of_getElem? (i := 12) rfl)) rfl, hp_mu (tb_1 (List.mem_of_getElem? (i := 12) rfl)) rfl, by decide, by decide +kernel⟩
theorem lv_X12_isWord : hp_LV yX12_isWord 13 := ⟨hp_mu (tm_7_5 (List.mem_of_getElem? (i := 11) rfl)) rfl, hp_mu (tm_0_2 (List.mem_of_getElem? (i := 12) rfl)) rfl, rfl, rfl, rfl⟩
theorem lb_X12_takesNumber : hp_LB yX12_takesNumber cX12_takesNumber 4 (some .int) 2 := ⟨hp_mu (tm_7_6 (List.mem_of_getElem? (i := 0) rfl)) rfl, hp_mu (tb_1 (List.mem_of_getElem? (i := 12) rfl)) rfl, by decide, by decide +kernel⟩
theorem lv_X12_takesNumber : hp_LV yX12_takesNumber 13 := ⟨hp_mu (tm_7_5 (List.mem_of_getElem? (i := 15) rfl)) rfl, hp_mu (tm_0_2 (List.mem_of_getElem? (i := 13) rfl)) rfl, rfl, rfl, rfl⟩
theorem lb_X12_must : hp_LB yX12_must cX12_must 3 none 2 := ⟨hp_mu (tm_7_6 (List.mem_of_getElem? (i := 4) rfl)) rfl, hp_mu (tb_1 (List.mem_of_getElem? (i := 12) rfl)) rfl, by decide, by decide +kernel⟩
theorem lv_X12_must : hp_LV yX12_must 13 := ⟨hp_mu (tm_7_6 (List.mem_of_getElem? (i := 3) rfl)) rfl, hp_mu (tm_0_2 (List.mem_of_getElem? (i := 14) rfl)) rfl, rfl, rfl, rfl⟩
theorem lb_X12_takesEnd : hp_LB yX12_takesEnd cX12_takesEnd 1 none 0 := ⟨hp_mu (tm_7_6 (List.mem_of_getElem? (i := 8) rfl)) rfl, hp_mu (tb_1 (List.mem_of_getElem? (i := 12) rfl)) rfl, by decide, by decide +kernel⟩
theorem lv_X12_takesEnd : hp_LV yX12_takesEnd 13 := ⟨hp_mu (tm_7_6 (List.mem_of_getElem? (i := 7) rfl)) rfl, hp_mu (tm_0_2 (List.mem_of_getElem? (i := 15) rfl)) rfl, rfl, rfl, rfl⟩
theorem lb_X12_line : hp_LB yX12_line cX12_line 3 none 0 := ⟨hp_mu (tm_7_6 (List.mem_of_getElem? (i := 12) rfl)) rfl, hp_mu (tb_1 (List.mem_of_getElem? (i := 12) rfl)) rfl, by decide, by decide +kernel⟩
theorem lv_X12_line : hp_LV yX12_line 13 := ⟨hp_mu (tm_7_6 (List.mem_of_getElem? (i := 11) rfl)) rfl, hp_mu (tm_0_3 (List.mem_of_getElem? (i := 0) rfl)) rfl, rfl, rfl, rfl⟩
theorem lb_X12_addLine : hp_LB yX12_addLine cX12_addLine 2 none 0 := ⟨hp_mu (tm_7_7 (List.mem_of_getElem? (i := 0) rfl)) rfl, hp_mu (tb_1 (List.mem_of_getElem? (i := 12) rfl)) rfl, by decide, by decide +kernel⟩
theorem lv_X12_addLine : hp_LV yX12_addLine 13 := ⟨hp_mu (tm_7_6 (List.mem_of_getElem? (i := 15) rfl)) rfl, hp_mu (tm_0_3 (List.mem_of_getElem? (i := 1) rfl)) rfl, rfl, rfl, rfl⟩
theorem lb_X12_sizeOf : hp_LB yX12_sizeOf cX12_sizeOf 2 (some .int) 1 := ⟨hp_mu (tm_7_7 (List.mem_of_getElem? (i := 4) rfl)) rfl, hp_mu (tb_1 (List.mem_of_getElem? (i := 12) rfl)) rfl, by decide, by decide +kernel⟩
theorem lv_X12_sizeOf : hp_LV yX12_sizeOf 13 := ⟨hp_mu (tm_7_7 (List.mem_of_getElem? (i := 3) rfl)) rfl, hp_mu (tm_0_3 (List.mem_of_getElem? (i := 2) rfl)) rfl, rfl, rfl, rfl⟩
theorem lb_X12_adds : hp_LB yX12_adds cX12_adds 4 (some .int) 1 := ⟨hp_mu (tm_7_7 (List.mem_of_getElem? (i := 8) rfl)) rfl, hp_mu (tb_1 (List.mem_of_getElem? (i := 12) rfl)) rfl, by decide, by decide +kernel⟩
theorem lv_X12_adds : hp_LV yX12_adds 13 := ⟨hp_mu (tm_7_7 (List.mem_of_getElem? (i := 7) rfl)) rfl, hp_mu (tm_0_3 (List.mem_of_getElem? (i := 3) rfl)) rfl, rfl, rfl, rfl⟩
theorem lb_X12_refuse : hp_LB yX12_refuse cX12_refuse 2 (some .int) 1 := ⟨hp_mu (tm_7_7 (List.mem_of_getElem? (i := 12) rfl)) rfl, hp_mu (tb_1 (List.mem_of_getElem? (i := 12) rfl)) rfl, by decide, by decide +kernel⟩
theorem lv_X12_refuse : hp_LV yX12_refuse 13 := ⟨hp_mu (tm_7_7 (List.mem_of_getElem? (i := 11) rfl)) rfl, hp_mu (tm_0_3 (List.mem_of_getElem? (i := 4) rfl)) rfl, rfl, rfl, rfl⟩
theorem lb_X12_forkLine : hp_LB yX12_forkLine cX12_forkLine 2 none 0 := ⟨hp_mu (tm_7_8 (List.mem_of_getElem? (i := 0) rfl)) rfl, hp_mu (tb_1 (List.mem_of_getElem? (i := 12) rfl)) rfl, by decide, by decide +kernel⟩
theorem lv_X12_forkLine : hp_LV yX12_forkLine 13 := ⟨hp_mu (tm_7_7 (List.mem_of_getElem? (i := 15) rfl)) rfl, hp_mu (tm_0_3 (List.mem_of_getElem? (i := 5) rfl)) rfl, rfl, rfl, rfl⟩
theorem lb_X12_forks : hp_LB yX12_forks cX12_forks 6 (some .int) 2 := ⟨hp_mu (tm_7_8 (List.mem_of_getElem? (i := 4) rfl)) rfl, hp_mu (tb_1 (List.mem_of_getElem? (i := 12) rfl)) rfl, by decide, by decide +kernel⟩
theorem lv_X12_forks : hp_LV yX12_forks 13 := ⟨hp_mu (tm_7_8 (List.mem_of_getElem? (i := 3) rfl)) rfl, hp_mu (tm_0_3 (List.mem_of_getElem? (i := 6) rfl)) rfl, rfl, rfl, rfl⟩
theorem lb_X12_freezes : hp_LB yX12_freezes cX12_freezes 4 (some .int) 1 := ⟨hp_mu (tm_7_8 (List.mem_of_getElem? (i := 8) rfl)) rfl, hp_mu (tb_1 (List.mem_of_getElem? (i := 12) rfl)) rfl, by decide, by decide +kernel⟩
theorem lv_X12_freezes : hp_LV yX12_freezes 13 := ⟨hp_mu (tm_7_8 (List.mem_of_getElem? (i := 7) rfl)) rfl, hp_mu (tm_0_3 (List.mem_of_getElem? (i := 7) rfl)) rfl, rfl, rfl, rfl⟩
theorem lb_X12_headOf : hp_LB yX12_headOf cX12_headOf 3 (some .int) 2 := ⟨hp_mu (tm_7_8 (List.mem_of_getElem? (i := 12) rfl)) rfl, hp_mu (tb_1 (List.mem_of_getElem? (i := 12) rfl)) rfl, by decide, by decide +kernel⟩
theorem lv_X12_headOf : hp_LV yX12_headOf 13 := ⟨hp_mu (tm_7_8 (List.mem_of_getElem? (i := 11) rfl)) rfl, hp_mu (tm_0_3 (List.mem_of_getElem? (i := 8) rfl)) rfl, rfl, rfl, rfl⟩
theorem lb_X12_treeMark : hp_LB yX12_treeMark cX12_treeMark 5 (some .int) 3 := ⟨hp_mu (tm_7_9 (List.mem_of_getElem? (i := 0) rfl)) rfl, hp_mu (tb_1 (List.mem_of_getElem? (i := 12) rfl)) rfl, by decide, by decide +kernel⟩
theorem lv_X12_treeMark : hp_LV yX12_treeMark 13 := ⟨hp_mu (tm_7_8 (List.mem_of_getElem? (i := 15) rfl)) rfl, hp_mu (tm_0_3 (List.mem_of_getElem? (i := 9) rfl)) rfl, rfl, rfl, rfl⟩
theorem lb_X12_entryMark : hp_LB yX12_entryMark cX12_entryMark 6 (some .int) 2 := ⟨hp_mu (tm_7_9 (List.mem_of_getElem? (i := 4) rfl)) rfl, hp_mu (tb_1 (List.mem_of_getElem? (i := 12) rfl)) rfl, by decide, by decide +kernel⟩
theorem lv_X12_entryMark : hp_LV yX12_entryMark 13 := ⟨hp_mu (tm_7_9 (List.mem_of_getElem? (i := 3) rfl)) rfl, hp_mu (tm_0_3 (List.mem_of_getElem? (i := 10) rfl)) rfl, rfl, rfl, rfl⟩
theorem lb_X12_mixed : hp_LB yX12_mixed cX12_mixed 3 (some .int) 2 := ⟨hp_mu (tm_7_9 (List.mem_of_getElem? (i := 8) rfl)) rfl, hp_mu (tb_1 (List.mem_of_getElem? (i := 12) rfl)) rfl, by decide, by decide +kernel⟩
theorem lv_X12_mixed : hp_LV yX12_mixed 13 := ⟨hp_mu (tm_7_9 (List.mem_of_getElem? (i := 7) rfl)) rfl, hp_mu (tm_0_3 (List.mem_of_getElem? (i := 11) rfl)) rfl, rfl, rfl, rfl⟩
theorem lb_X12_part0 : hp_LB yX12_part0 cX12_part0 2 (some .int) 1 := ⟨hp_mu (tm_7_9 (List.mem_of_getElem? (i := 13) rfl)) rfl, hp_mu (tb_1 (List.mem_of_getElem? (i := 12) rfl)) rfl, by decide, by decide +kernel⟩
theorem ls_X12_part0 : Cond.static yX12_part0 ∈ lw_u := hp_mu (tm_7_9 (List.mem_of_getElem? (i := 12) rfl)) rfl
theorem lb_X12_both : hp_LB yX12_both cX12_both 3 (some .int) 2 := ⟨hp_mu (tm_7_10 (List.mem_of_getElem? (i := 1) rfl)) rfl, hp_mu (tb_1 (List.mem_of_getElem? (i := 12) rfl)) rfl, by decide, by decide +kernel⟩
theorem lv_X12_both : hp_LV yX12_both 13 := ⟨hp_mu (tm_7_10 (List.mem_of_getElem? (i := 0) rfl)) rfl, hp_mu (tm_0_3 (List.mem_of_getElem? (i := 12) rfl)) rfl, rfl, rfl, rfl⟩
theorem lb_X12_peaksOf : hp_LB yX12_peaksOf cX12_peaksOf 4 none 1 := ⟨hp_mu (tm_7_10 (List.mem_of_getElem? (i := 5) rfl)) rfl, hp_mu (tb_1 (List.mem_of_getElem? (i := 12) rfl)) rfl, by decide, by decide +kernel⟩
theorem lv_X12_peaksOf : hp_LV yX12_peaksOf 13 := ⟨hp_mu (tm_7_10 (List.mem_of_getElem? (i := 4) rfl)) rfl, hp_mu (tm_0_3 (List.mem_of_getElem? (i := 13) rfl)) rfl, rfl, rfl, rfl⟩
theorem lb_X12_asks : hp_LB yX12_asks cX12_asks 3 none 2 := ⟨hp_mu (tm_7_10 (List.mem_of_getElem? (i := 10) rfl)) rfl, hp_mu (tb_1 (List.mem_of_getElem? (i := 12) rfl)) rfl, by decide, by decide +kernel⟩
theorem lv_X12_asks : hp_LV yX12_asks 13 := ⟨hp_mu (tm_7_10 (List.mem_of_getElem? (i := 9) rfl)) rfl, hp_mu (tm_0_3 (List.mem_of_getElem? (i := 14) rfl)) rfl, rfl, rfl, rfl⟩
theorem lb_X12_fetches : hp_LB yX12_fetches cX12_fetches 3 none 1 := ⟨hp_mu (tm_7_10 (List.mem_of_getElem? (i := 14) rfl)) rfl, hp_mu (tb_1 (List.mem_of_getElem? (i := 12) rfl)) rfl, by decide, by decide +kernel⟩
theorem lv_X12_fetches : hp_LV yX12_fetches 13 := ⟨hp_mu (tm_7_10 (List.mem_of_getElem? (i := 13) rfl)) rfl, hp_mu (tm_0_3 (List.mem_of_getElem? (i := 15) rfl)) rfl, rfl, rfl, rfl⟩
theorem lb_X12_takes : hp_LB yX12_takes cX12_takes 2 none 1 := ⟨hp_mu (tm_7_11 (List.mem_of_getElem? (i := 2) rfl)) rfl, hp_mu (tb_1 (List.mem_of_getElem? (i := 12) rfl)) rfl, by decide, by decide +kernel⟩
theorem lv_X12_takes : hp_LV yX12_takes 13 := ⟨hp_mu (tm_7_11 (List.mem_of_getElem? (i := 1) rfl)) rfl, hp_mu (tm_0_4 (List.mem_of_getElem? (i := 0) rfl)) rfl, rfl, rfl, rfl⟩
theorem lb_X12_shows : hp_LB yX12_shows cX12_shows 7 (some .int) 3 := ⟨hp_mu (tm_7_11 (List.mem_of_getElem? (i := 6) rfl)) rfl, hp_mu (tb_1 (List.mem_of_getElem? (i := 12) rfl)) rfl, by decide, by decide +kernel⟩
theorem lv_X12_shows : hp_LV yX12_shows 13 := ⟨hp_mu (tm_7_11 (List.mem_of_getElem? (i := 5) rfl)) rfl, hp_mu (tm_0_4 (List.mem_of_getElem? (i := 1) rfl)) rfl, rfl, rfl, rfl⟩
theorem lb_X12_trust : hp_LB yX12_trust cX12_trust 3 (some .int) 2 := ⟨hp_mu (tm_7_11 (List.mem_of_getElem? (i := 10) rfl)) rfl, hp_mu (tb_1 (List.mem_of_getElem? (i := 12) rfl)) rfl, by decide, by decide +kernel⟩
theorem lv_X12_trust : hp_LV yX12_trust 13 := ⟨hp_mu (tm_7_11 (List.mem_of_getElem? (i := 9) rfl)) rfl, hp_mu (tm_0_4 (List.mem_of_getElem? (i := 2) rfl)) rfl, rfl, rfl, rfl⟩
theorem lb_X12_whyByRecord : hp_LB yX12_whyByRecord cX12_whyByRecord 6 (some .int) 5 := ⟨hp_mu (tm_7_11 (List.mem_of_getElem? (i := 14) rfl)) rfl, hp_mu (tb_1 (List.mem_of_getElem? (i := 12) rfl)) rfl, by decide, by decide +kernel⟩
theorem lv_X12_whyByRecord : hp_LV yX12_whyByRecord 13 := ⟨hp_mu (tm_7_11 (List.mem_of_getElem? (i := 13) rfl)) rfl, hp_mu (tm_0_4 (List.mem_of_getElem? (i := 3) rfl)) rfl, rfl, rfl, rfl⟩
theorem lb_X12_growth : hp_LB yX12_growth cX12_growth 3 none 2 := ⟨hp_mu (tm_7_12 (List.mem_of_getElem? (i := 2) rfl)) rfl, hp_mu (tb_1 (List.mem_of_getElem? (i := 12) rfl)) rfl, by decide, by decide +kernel⟩
theorem lv_X12_growth : hp_LV yX12_growth 13 := ⟨hp_mu (tm_7_12 (List.mem_of_getElem? (i := 1) rfl)) rfl, hp_mu (tm_0_4 (List.mem_of_getElem? (i := 4) rfl)) rfl, rfl, rfl, rfl⟩
theorem lb_X12_growsIn : hp_LB yX12_growsIn cX12_growsIn 6 none 4 := ⟨hp_mu (tm_7_12 (List.mem_of_getElem? (i := 6) rfl)) rfl, hp_mu (tb_1 (List.mem_of_getElem? (i := 12) rfl)) rfl, by decide, by decide +kernel⟩
theorem lv_X12_growsIn : hp_LV yX12_growsIn 13 := ⟨hp_mu (tm_7_12 (List.mem_of_getElem? (i := 5) rfl)) rfl, hp_mu (tm_0_4 (List.mem_of_getElem? (i := 5) rfl)) rfl, rfl, rfl, rfl⟩
theorem lb_X12_whyGrown : hp_LB yX12_whyGrown cX12_whyGrown 6 (some .int) 5 := ⟨hp_mu (tm_7_12 (List.mem_of_getElem? (i := 10) rfl)) rfl, hp_mu (tb_1 (List.mem_of_getElem? (i := 12) rfl)) rfl, by decide, by decide +kernel⟩
theorem lv_X12_whyGrown : hp_LV yX12_whyGrown 13 := ⟨hp_mu (tm_7_12 (List.mem_of_getElem? (i := 9) rfl)) rfl, hp_mu (tm_0_4 (List.mem_of_getElem? (i := 6) rfl)) rfl, rfl, rfl, rfl⟩
theorem lb_X12_foldsGrowth : hp_LB yX12_foldsGrowth cX12_foldsGrowth 6 none 4 := ⟨hp_mu (tm_7_12 (List.mem_of_getElem? (i := 14) rfl)) rfl, hp_mu (tb_1 (List.mem_of_getElem? (i := 12) rfl)) rfl, by decide, by decide +kernel⟩
theorem lv_X12_foldsGrowth : hp_LV yX12_foldsGrowth 13 := ⟨hp_mu (tm_7_12 (List.mem_of_getElem? (i := 13) rfl)) rfl, hp_mu (tm_0_4 (List.mem_of_getElem? (i := 7) rfl)) rfl, rfl, rfl, rfl⟩
theorem lb_X12_trusts : hp_LB yX12_trusts cX12_trusts 4 none 3 := ⟨hp_mu (tm_7_13 (List.mem_of_getElem? (i := 2) rfl)) rfl, hp_mu (tb_1 (List.mem_of_getElem? (i := 12) rfl)) rfl, by decide, by decide +kernel⟩
theorem lv_X12_trusts : hp_LV yX12_trusts 13 := ⟨hp_mu (tm_7_13 (List.mem_of_getElem? (i := 1) rfl)) rfl, hp_mu (tm_0_4 (List.mem_of_getElem? (i := 8) rfl)) rfl, rfl, rfl, rfl⟩
theorem lb_X12_ends : hp_LB yX12_ends cX12_ends 1 none 0 := ⟨hp_mu (tm_7_13 (List.mem_of_getElem? (i := 6) rfl)) rfl, hp_mu (tb_1 (List.mem_of_getElem? (i := 12) rfl)) rfl, by decide, by decide +kernel⟩
theorem lv_X12_ends : hp_LV yX12_ends 13 := ⟨hp_mu (tm_7_13 (List.mem_of_getElem? (i := 5) rfl)) rfl, hp_mu (tm_0_4 (List.mem_of_getElem? (i := 9) rfl)) rfl, rfl, rfl, rfl⟩
theorem lb_X12_hear : hp_LB yX12_hear cX12_hear 5 (some .int) 1 := ⟨hp_mu (tm_7_13 (List.mem_of_getElem? (i := 10) rfl)) rfl, hp_mu (tb_1 (List.mem_of_getElem? (i := 12) rfl)) rfl, by decide, by decide +kernel⟩
theorem lv_X12_hear : hp_LV yX12_hear 13 := ⟨hp_mu (tm_7_13 (List.mem_of_getElem? (i := 8) rfl)) rfl, hp_mu (tm_7_13 (List.mem_of_getElem? (i := 9) rfl)) rfl, rfl, rfl, rfl⟩
theorem lb_X12_statementIn : hp_LB yX12_statementIn cX12_statementIn 6 (some .int) 0 := ⟨hp_mu (tm_7_13 (List.mem_of_getElem? (i := 14) rfl)) rfl, hp_mu (tb_1 (List.mem_of_getElem? (i := 12) rfl)) rfl, by decide, by decide +kernel⟩
theorem lv_X12_statementIn : hp_LV yX12_statementIn 13 := ⟨hp_mu (tm_7_13 (List.mem_of_getElem? (i := 13) rfl)) rfl, hp_mu (tm_0_4 (List.mem_of_getElem? (i := 10) rfl)) rfl, rfl, rfl, rfl⟩
theorem lb_X12_takesMark : hp_LB yX12_takesMark cX12_takesMark 1 (some .int) 0 := ⟨hp_mu (tm_7_14 (List.mem_of_getElem? (i := 3) rfl)) rfl, hp_mu (tb_1 (List.mem_of_getElem? (i := 12) rfl)) rfl, by decide, by decide +kernel⟩
theorem lv_X12_takesMark : hp_LV yX12_takesMark 13 := ⟨hp_mu (tm_7_14 (List.mem_of_getElem? (i := 2) rfl)) rfl, hp_mu (tm_0_4 (List.mem_of_getElem? (i := 11) rfl)) rfl, rfl, rfl, rfl⟩
theorem lb_X12_takesMarks : hp_LB yX12_takesMarks cX12_takesMarks 2 (some .int) 0 := ⟨hp_mu (tm_7_14 (List.mem_of_getElem? (i := 7) rfl)) rfl, hp_mu (tb_1 (List.mem_of_getElem? (i := 12) rfl)) rfl, by decide, by decide +kernel⟩
theorem lv_X12_takesMarks : hp_LV yX12_takesMarks 13 := ⟨hp_mu (tm_7_14 (List.mem_of_getElem? (i := 6) rfl)) rfl, hp_mu (tm_0_4 (List.mem_of_getElem? (i := 12) rfl)) rfl, rfl, rfl, rfl⟩
theorem lb_X12_isMark : hp_LB yX12_isMark cX12_isMark 2 (some .boolean) 1 := ⟨hp_mu (tm_7_14 (List.mem_of_getElem? (i := 11) rfl)) rfl, hp_mu (tb_1 (List.mem_of_getElem? (i := 12) rfl)) rfl, by decide, by decide +kernel⟩
theorem lv_X12_isMark : hp_LV yX12_isMark 13 := ⟨hp_mu (tm_7_14 (List.mem_of_getElem? (i := 10) rfl)) rfl, hp_mu (tm_0_4 (List.mem_of_getElem? (i := 13) rfl)) rfl, rfl, rfl, rfl⟩
theorem lb_X12_whyIn : hp_LB yX12_whyIn cX12_whyIn 7 (some .int) 5 := ⟨hp_mu (tm_7_14 (List.mem_of_getElem? (i := 15) rfl)) rfl, hp_mu (tb_1 (List.mem_of_getElem? (i := 12) rfl)) rfl, by decide, by decide +kernel⟩
theorem lv_X12_whyIn : hp_LV yX12_whyIn 13 := ⟨hp_mu (tm_7_14 (List.mem_of_getElem? (i := 14) rfl)) rfl, hp_mu (tm_0_4 (List.mem_of_getElem? (i := 14) rfl)) rfl, rfl, rfl, rfl⟩
theorem lb_X12_inclusion : hp_LB yX12_inclusion cX12_inclusion 3 none 2 := ⟨hp_mu (tb_8 (List.mem_of_getElem? (i := 3) rfl)) rfl, hp_mu (tb_1 (List.mem_of_getElem? (i := 12) rfl)) rfl, by decide, by decide +kernel⟩
theorem lv_X12_inclusion : hp_LV yX12_inclusion 13 := ⟨hp_mu (tb_8 (List.mem_of_getElem? (i := 2) rfl)) rfl, hp_mu (tm_0_4 (List.mem_of_getElem? (i := 15) rfl)) rfl, rfl, rfl, rfl⟩
theorem lb_X12_waysIn : hp_LB yX12_waysIn cX12_waysIn 5 none 3 := ⟨hp_mu (tb_8 (List.mem_of_getElem? (i := 7) rfl)) rfl, hp_mu (tb_1 (List.mem_of_getElem? (i := 12) rfl)) rfl, by decide, by decide +kernel⟩
theorem lv_X12_waysIn : hp_LV yX12_waysIn 13 := ⟨hp_mu (tb_8 (List.mem_of_getElem? (i := 6) rfl)) rfl, hp_mu (tm_0_5 (List.mem_of_getElem? (i := 0) rfl)) rfl, rfl, rfl, rfl⟩
theorem lb_X12_folded : hp_LB yX12_folded cX12_folded 4 (some .int) 3 := ⟨hp_mu (tb_8 (List.mem_of_getElem? (i := 11) rfl)) rfl, hp_mu (tb_1 (List.mem_of_getElem? (i := 12) rfl)) rfl, by decide, by decide +kernel⟩
theorem lv_X12_folded : hp_LV yX12_folded 13 := ⟨hp_mu (tb_8 (List.mem_of_getElem? (i := 10) rfl)) rfl, hp_mu (tm_0_5 (List.mem_of_getElem? (i := 1) rfl)) rfl, rfl, rfl, rfl⟩
theorem lb_X12_foldsIn : hp_LB yX12_foldsIn cX12_foldsIn 6 (some .int) 3 := ⟨hp_mu (tb_8 (List.mem_of_getElem? (i := 15) rfl)) rfl, hp_mu (tb_1 (List.mem_of_getElem? (i := 12) rfl)) rfl, by decide, by decide +kernel⟩
theorem lv_X12_foldsIn : hp_LV yX12_foldsIn 13 := ⟨hp_mu (tb_8 (List.mem_of_getElem? (i := 14) rfl)) rfl, hp_mu (tm_0_5 (List.mem_of_getElem? (i := 2) rfl)) rfl, rfl, rfl, rfl⟩
theorem lb_X12_why : hp_LB yX12_why cX12_why 4 (some .int) 3 := ⟨hp_mu (tm_8_1 (List.mem_of_getElem? (i := 3) rfl)) rfl, hp_mu (tb_1 (List.mem_of_getElem? (i := 12) rfl)) rfl, by decide, by decide +kernel⟩
theorem lv_X12_why : hp_LV yX12_why 13 := ⟨hp_mu (tm_8_1 (List.mem_of_getElem? (i := 2) rfl)) rfl, hp_mu (tm_0_5 (List.mem_of_getElem? (i := 3) rfl)) rfl, rfl, rfl, rfl⟩
theorem lb_X12_statementGrow : hp_LB yX12_statementGrow cX12_statementGrow 6 (some .int) 0 := ⟨hp_mu (tm_8_1 (List.mem_of_getElem? (i := 7) rfl)) rfl, hp_mu (tb_1 (List.mem_of_getElem? (i := 12) rfl)) rfl, by decide, by decide +kernel⟩
theorem lv_X12_statementGrow : hp_LV yX12_statementGrow 13 := ⟨hp_mu (tm_8_1 (List.mem_of_getElem? (i := 6) rfl)) rfl, hp_mu (tm_0_5 (List.mem_of_getElem? (i := 4) rfl)) rfl, rfl, rfl, rfl⟩
theorem lb_X12_heard : hp_LB yX12_heard cX12_heard 2 (some .int) 1 := ⟨hp_mu (tm_8_1 (List.mem_of_getElem? (i := 11) rfl)) rfl, hp_mu (tb_1 (List.mem_of_getElem? (i := 12) rfl)) rfl, by decide, by decide +kernel⟩
theorem lv_X12_heard : hp_LV yX12_heard 13 := ⟨hp_mu (tm_8_1 (List.mem_of_getElem? (i := 9) rfl)) rfl, hp_mu (tm_8_1 (List.mem_of_getElem? (i := 10) rfl)) rfl, rfl, rfl, rfl⟩
theorem lb_X12_fault : hp_LB yX12_fault cX12_fault 2 (some .int) 1 := ⟨hp_mu (tm_8_1 (List.mem_of_getElem? (i := 15) rfl)) rfl, hp_mu (tb_1 (List.mem_of_getElem? (i := 12) rfl)) rfl, by decide, by decide +kernel⟩
theorem lv_X12_fault : hp_LV yX12_fault 13 := ⟨hp_mu (tm_8_1 (List.mem_of_getElem? (i := 13) rfl)) rfl, hp_mu (tm_8_1 (List.mem_of_getElem? (i := 14) rfl)) rfl, rfl, rfl, rfl⟩
theorem lb_X12_many : hp_LB yX12_many cX12_many 4 (some .int) 1 := ⟨hp_mu (tm_8_2 (List.mem_of_getElem? (i := 3) rfl)) rfl, hp_mu (tb_1 (List.mem_of_getElem? (i := 12) rfl)) rfl, by decide, by decide +kernel⟩
theorem lv_X12_many : hp_LV yX12_many 13 := ⟨hp_mu (tm_8_2 (List.mem_of_getElem? (i := 1) rfl)) rfl, hp_mu (tm_8_2 (List.mem_of_getElem? (i := 2) rfl)) rfl, rfl, rfl, rfl⟩
theorem lb_X12_size : hp_LB yX12_size cX12_size 2 (some .int) 1 := ⟨hp_mu (tm_8_2 (List.mem_of_getElem? (i := 7) rfl)) rfl, hp_mu (tb_1 (List.mem_of_getElem? (i := 12) rfl)) rfl, by decide, by decide +kernel⟩
theorem lv_X12_size : hp_LV yX12_size 13 := ⟨hp_mu (tm_8_2 (List.mem_of_getElem? (i := 5) rfl)) rfl, hp_mu (tm_8_2 (List.mem_of_getElem? (i := 6) rfl)) rfl, rfl, rfl, rfl⟩
theorem lb_X12_isRecord : hp_LB yX12_isRecord cX12_isRecord 2 (some .boolean) 1 := ⟨hp_mu (tm_8_2 (List.mem_of_getElem? (i := 11) rfl)) rfl, hp_mu (tb_1 (List.mem_of_getElem? (i := 12) rfl)) rfl, by decide, by decide +kernel⟩
theorem lv_X12_isRecord : hp_LV yX12_isRecord 13 := ⟨hp_mu (tm_8_2 (List.mem_of_getElem? (i := 10) rfl)) rfl, hp_mu (tm_0_5 (List.mem_of_getElem? (i := 5) rfl)) rfl, rfl, rfl, rfl⟩
theorem lb_X12_entry : hp_LB yX12_entry cX12_entry 5 (some .int) 3 := ⟨hp_mu (tm_8_2 (List.mem_of_getElem? (i := 15) rfl)) rfl, hp_mu (tb_1 (List.mem_of_getElem? (i := 12) rfl)) rfl, by decide, by decide +kernel⟩
theorem lv_X12_entry : hp_LV yX12_entry 13 := ⟨hp_mu (tm_8_2 (List.mem_of_getElem? (i := 13) rfl)) rfl, hp_mu (tm_8_2 (List.mem_of_getElem? (i := 14) rfl)) rfl, rfl, rfl, rfl⟩
theorem lb_X12_head : hp_LB yX12_head cX12_head 3 (some .int) 2 := ⟨hp_mu (tm_8_3 (List.mem_of_getElem? (i := 3) rfl)) rfl, hp_mu (tb_1 (List.mem_of_getElem? (i := 12) rfl)) rfl, by decide, by decide +kernel⟩
theorem lv_X12_head : hp_LV yX12_head 13 := ⟨hp_mu (tm_8_3 (List.mem_of_getElem? (i := 1) rfl)) rfl, hp_mu (tm_8_3 (List.mem_of_getElem? (i := 2) rfl)) rfl, rfl, rfl, rfl⟩
theorem lb_X12_noSize : hp_LB yX12_noSize cX12_noSize 3 (some .int) 2 := ⟨hp_mu (tm_8_3 (List.mem_of_getElem? (i := 7) rfl)) rfl, hp_mu (tb_1 (List.mem_of_getElem? (i := 12) rfl)) rfl, by decide, by decide +kernel⟩
theorem lv_X12_noSize : hp_LV yX12_noSize 13 := ⟨hp_mu (tm_8_3 (List.mem_of_getElem? (i := 6) rfl)) rfl, hp_mu (tm_0_5 (List.mem_of_getElem? (i := 6) rfl)) rfl, rfl, rfl, rfl⟩
theorem lb_X12_join : hp_LB yX12_join cX12_join 3 (some .int) 2 := ⟨hp_mu (tm_8_3 (List.mem_of_getElem? (i := 11) rfl)) rfl, hp_mu (tb_1 (List.mem_of_getElem? (i := 12) rfl)) rfl, by decide, by decide +kernel⟩
theorem lv_X12_join : hp_LV yX12_join 13 := ⟨hp_mu (tm_8_3 (List.mem_of_getElem? (i := 9) rfl)) rfl, hp_mu (tm_8_3 (List.mem_of_getElem? (i := 10) rfl)) rfl, rfl, rfl, rfl⟩
theorem lb_X12_mark : hp_LB yX12_mark cX12_mark 3 (some .int) 0 := ⟨hp_mu (tm_8_3 (List.mem_of_getElem? (i := 15) rfl)) rfl, hp_mu (tb_1 (List.mem_of_getElem? (i := 12) rfl)) rfl, by decide, by decide +kernel⟩
theorem lv_X12_mark : hp_LV yX12_mark 13 := ⟨hp_mu (tm_8_3 (List.mem_of_getElem? (i := 13) rfl)) rfl, hp_mu (tm_8_3 (List.mem_of_getElem? (i := 14) rfl)) rfl, rfl, rfl, rfl⟩
theorem lb_X12_frozen : hp_LB yX12_frozen cX12_frozen 3 (some .int) 2 := ⟨hp_mu (tm_8_4 (List.mem_of_getElem? (i := 3) rfl)) rfl, hp_mu (tb_1 (List.mem_of_getElem? (i := 12) rfl)) rfl, by decide, by decide +kernel⟩
theorem lv_X12_frozen : hp_LV yX12_frozen 13 := ⟨hp_mu (tm_8_4 (List.mem_of_getElem? (i := 1) rfl)) rfl, hp_mu (tm_8_4 (List.mem_of_getElem? (i := 2) rfl)) rfl, rfl, rfl, rfl⟩
theorem lb_X12_froze : hp_LB yX12_froze cX12_froze 3 (some .int) 2 := ⟨hp_mu (tm_8_4 (List.mem_of_getElem? (i := 7) rfl)) rfl, hp_mu (tb_1 (List.mem_of_getElem? (i := 12) rfl)) rfl, by decide, by decide +kernel⟩
theorem lv_X12_froze : hp_LV yX12_froze 13 := ⟨hp_mu (tm_8_4 (List.mem_of_getElem? (i := 6) rfl)) rfl, hp_mu (tm_0_5 (List.mem_of_getElem? (i := 7) rfl)) rfl, rfl, rfl, rfl⟩
theorem lb_X12_isSound : hp_LB yX12_isSound cX12_isSound 2 (some .boolean) 1 := ⟨hp_mu (tm_8_4 (List.mem_of_getElem? (i := 11) rfl)) rfl, hp_mu (tb_1 (List.mem_of_getElem? (i := 12) rfl)) rfl, by decide, by decide +kernel⟩
theorem lv_X12_isSound : hp_LV yX12_isSound 13 := ⟨hp_mu (tm_8_4 (List.mem_of_getElem? (i := 10) rfl)) rfl, hp_mu (tm_0_5 (List.mem_of_getElem? (i := 8) rfl)) rfl, rfl, rfl, rfl⟩
theorem lb_X12_watcher : hp_LB yX12_watcher cX12_watcher 3 (some .int) 2 := ⟨hp_mu (tm_8_4 (List.mem_of_getElem? (i := 15) rfl)) rfl, hp_mu (tb_1 (List.mem_of_getElem? (i := 12) rfl)) rfl, by decide, by decide +kernel⟩
theorem lv_X12_watcher : hp_LV yX12_watcher 13 := ⟨hp_mu (tm_8_4 (List.mem_of_getElem? (i := 13) rfl)) rfl, hp_mu (tm_8_4 (List.mem_of_getElem? (i := 14) rfl)) rfl, rfl, rfl, rfl⟩
theorem lb_X12_isWatcher : hp_LB yX12_isWatcher cX12_isWatcher 1 (some .boolean) 1 := ⟨hp_mu (tm_8_5 (List.mem_of_getElem? (i := 2) rfl)) rfl, hp_mu (tb_1 (List.mem_of_getElem? (i := 12) rfl)) rfl, by decide, by decide +kernel⟩
theorem ls_X12_isWatcher : Cond.static yX12_isWatcher ∈ lw_u := hp_mu (tm_8_5 (List.mem_of_getElem? (i := 1) rfl)) rfl
theorem lb_X12_add : hp_LB yX12_add cX12_add 2 (some .int) 1 := ⟨hp_mu (tm_8_5 (List.mem_of_getElem? (i := 6) rfl)) rfl, hp_mu (tb_1 (List.mem_of_getElem? (i := 12) rfl)) rfl, by decide, by decide +kernel⟩
theorem lv_X12_add : hp_LV yX12_add 13 := ⟨hp_mu (tm_8_5 (List.mem_of_getElem? (i := 4) rfl)) rfl, hp_mu (tm_8_5 (List.mem_of_getElem? (i := 5) rfl)) rfl, rfl, rfl, rfl⟩
theorem lb_X12_hand : hp_LB yX12_hand cX12_hand 2 none 0 := ⟨hp_mu (tm_8_5 (List.mem_of_getElem? (i := 10) rfl)) rfl, hp_mu (tb_1 (List.mem_of_getElem? (i := 12) rfl)) rfl, by decide, by decide +kernel⟩
theorem lv_X12_hand : hp_LV yX12_hand 13 := ⟨hp_mu (tm_8_5 (List.mem_of_getElem? (i := 9) rfl)) rfl, hp_mu (tm_0_5 (List.mem_of_getElem? (i := 9) rfl)) rfl, rfl, rfl, rfl⟩
theorem lb_X12_fork : hp_LB yX12_fork cX12_fork 3 (some .int) 2 := ⟨hp_mu (tm_8_5 (List.mem_of_getElem? (i := 14) rfl)) rfl, hp_mu (tb_1 (List.mem_of_getElem? (i := 12) rfl)) rfl, by decide, by decide +kernel⟩
theorem lv_X12_fork : hp_LV yX12_fork 13 := ⟨hp_mu (tm_8_5 (List.mem_of_getElem? (i := 12) rfl)) rfl, hp_mu (tm_8_5 (List.mem_of_getElem? (i := 13) rfl)) rfl, rfl, rfl, rfl⟩
theorem lb_X12_freeze : hp_LB yX12_freeze cX12_freeze 2 (some .int) 1 := ⟨hp_mu (tm_8_6 (List.mem_of_getElem? (i := 2) rfl)) rfl, hp_mu (tb_1 (List.mem_of_getElem? (i := 12) rfl)) rfl, by decide, by decide +kernel⟩
theorem lv_X12_freeze : hp_LV yX12_freeze 13 := ⟨hp_mu (tm_8_6 (List.mem_of_getElem? (i := 0) rfl)) rfl, hp_mu (tm_8_6 (List.mem_of_getElem? (i := 1) rfl)) rfl, rfl, rfl, rfl⟩
theorem lb_X12_show : hp_LB yX12_show cX12_show 4 (some .int) 3 := ⟨hp_mu (tm_8_6 (List.mem_of_getElem? (i := 6) rfl)) rfl, hp_mu (tb_1 (List.mem_of_getElem? (i := 12) rfl)) rfl, by decide, by decide +kernel⟩
theorem lv_X12_show : hp_LV yX12_show 13 := ⟨hp_mu (tm_8_6 (List.mem_of_getElem? (i := 4) rfl)) rfl, hp_mu (tm_8_6 (List.mem_of_getElem? (i := 5) rfl)) rfl, rfl, rfl, rfl⟩
theorem lb_X12_meet : hp_LB yX12_meet cX12_meet 9 (some .int) 3 := ⟨hp_mu (tm_8_6 (List.mem_of_getElem? (i := 10) rfl)) rfl, hp_mu (tb_1 (List.mem_of_getElem? (i := 12) rfl)) rfl, by decide, by decide +kernel⟩
theorem lv_X12_meet : hp_LV yX12_meet 13 := ⟨hp_mu (tm_8_6 (List.mem_of_getElem? (i := 8) rfl)) rfl, hp_mu (tm_8_6 (List.mem_of_getElem? (i := 9) rfl)) rfl, rfl, rfl, rfl⟩
theorem lb_X12_spoil : hp_LB yX12_spoil cX12_spoil 7 (some .int) 4 := ⟨hp_mu (tm_8_6 (List.mem_of_getElem? (i := 14) rfl)) rfl, hp_mu (tb_1 (List.mem_of_getElem? (i := 12) rfl)) rfl, by decide, by decide +kernel⟩
theorem lv_X12_spoil : hp_LV yX12_spoil 13 := ⟨hp_mu (tm_8_6 (List.mem_of_getElem? (i := 12) rfl)) rfl, hp_mu (tm_8_6 (List.mem_of_getElem? (i := 13) rfl)) rfl, rfl, rfl, rfl⟩
theorem lb_X12_push : hp_LB yX12_push cX12_push 2 (some .int) 1 := ⟨hp_mu (tm_8_7 (List.mem_of_getElem? (i := 2) rfl)) rfl, hp_mu (tb_1 (List.mem_of_getElem? (i := 12) rfl)) rfl, by decide, by decide +kernel⟩
theorem lv_X12_push : hp_LV yX12_push 13 := ⟨hp_mu (tm_8_7 (List.mem_of_getElem? (i := 0) rfl)) rfl, hp_mu (tm_8_7 (List.mem_of_getElem? (i := 1) rfl)) rfl, rfl, rfl, rfl⟩
theorem lb_X12_poke : hp_LB yX12_poke cX12_poke 4 (some .int) 2 := ⟨hp_mu (tm_8_7 (List.mem_of_getElem? (i := 6) rfl)) rfl, hp_mu (tb_1 (List.mem_of_getElem? (i := 12) rfl)) rfl, by decide, by decide +kernel⟩
theorem lv_X12_poke : hp_LV yX12_poke 13 := ⟨hp_mu (tm_8_7 (List.mem_of_getElem? (i := 4) rfl)) rfl, hp_mu (tm_8_7 (List.mem_of_getElem? (i := 5) rfl)) rfl, rfl, rfl, rfl⟩
theorem lb_X12_pad : hp_LB yX12_pad cX12_pad 2 (some .int) 1 := ⟨hp_mu (tm_8_7 (List.mem_of_getElem? (i := 10) rfl)) rfl, hp_mu (tb_1 (List.mem_of_getElem? (i := 12) rfl)) rfl, by decide, by decide +kernel⟩
theorem lv_X12_pad : hp_LV yX12_pad 13 := ⟨hp_mu (tm_8_7 (List.mem_of_getElem? (i := 8) rfl)) rfl, hp_mu (tm_8_7 (List.mem_of_getElem? (i := 9) rfl)) rfl, rfl, rfl, rfl⟩
theorem lb_X12_cut : hp_LB yX12_cut cX12_cut 2 (some .int) 1 := ⟨hp_mu (tm_8_7 (List.mem_of_getElem? (i := 14) rfl)) rfl, hp_mu (tb_1 (List.mem_of_getElem? (i := 12) rfl)) rfl, by decide, by decide +kernel⟩
theorem lv_X12_cut : hp_LV yX12_cut 13 := ⟨hp_mu (tm_8_7 (List.mem_of_getElem? (i := 12) rfl)) rfl, hp_mu (tm_8_7 (List.mem_of_getElem? (i := 13) rfl)) rfl, rfl, rfl, rfl⟩
theorem lb_X12_include : hp_LB yX12_include cX12_include 4 (some .int) 3 := ⟨hp_mu (tm_8_8 (List.mem_of_getElem? (i := 2) rfl)) rfl, hp_mu (tb_1 (List.mem_of_getElem? (i := 12) rfl)) rfl, by decide, by decide +kernel⟩
theorem lv_X12_include : hp_LV yX12_include 13 := ⟨hp_mu (tm_8_8 (List.mem_of_getElem? (i := 0) rfl)) rfl, hp_mu (tm_8_8 (List.mem_of_getElem? (i := 1) rfl)) rfl, rfl, rfl, rfl⟩
theorem lb_X12_noEntry : hp_LB yX12_noEntry cX12_noEntry 4 (some .int) 3 := ⟨hp_mu (tm_8_8 (List.mem_of_getElem? (i := 6) rfl)) rfl, hp_mu (tb_1 (List.mem_of_getElem? (i := 12) rfl)) rfl, by decide, by decide +kernel⟩
theorem lv_X12_noEntry : hp_LV yX12_noEntry 13 := ⟨hp_mu (tm_8_8 (List.mem_of_getElem? (i := 5) rfl)) rfl, hp_mu (tm_0_5 (List.mem_of_getElem? (i := 10) rfl)) rfl, rfl, rfl, rfl⟩
theorem lb_X12_pads : hp_LB yX12_pads cX12_pads 3 (some .int) 1 := ⟨hp_mu (tm_8_8 (List.mem_of_getElem? (i := 10) rfl)) rfl, hp_mu (tb_1 (List.mem_of_getElem? (i := 12) rfl)) rfl, by decide, by decide +kernel⟩
theorem lv_X12_pads : hp_LV yX12_pads 13 := ⟨hp_mu (tm_8_8 (List.mem_of_getElem? (i := 9) rfl)) rfl, hp_mu (tm_0_5 (List.mem_of_getElem? (i := 11) rfl)) rfl, rfl, rfl, rfl⟩
theorem lb_X12_grow : hp_LB yX12_grow cX12_grow 4 (some .int) 3 := ⟨hp_mu (tm_8_8 (List.mem_of_getElem? (i := 14) rfl)) rfl, hp_mu (tb_1 (List.mem_of_getElem? (i := 12) rfl)) rfl, by decide, by decide +kernel⟩
theorem lv_X12_grow : hp_LV yX12_grow 13 := ⟨hp_mu (tm_8_8 (List.mem_of_getElem? (i := 12) rfl)) rfl, hp_mu (tm_8_8 (List.mem_of_getElem? (i := 13) rfl)) rfl, rfl, rfl, rfl⟩
theorem lb_X12_bundle : hp_LB yX12_bundle cX12_bundle 4 (some .int) 3 := ⟨hp_mu (tm_8_9 (List.mem_of_getElem? (i := 2) rfl)) rfl, hp_mu (tb_1 (List.mem_of_getElem? (i := 12) rfl)) rfl, by decide, by decide +kernel⟩
theorem lv_X12_bundle : hp_LV yX12_bundle 13 := ⟨hp_mu (tm_8_9 (List.mem_of_getElem? (i := 0) rfl)) rfl, hp_mu (tm_8_9 (List.mem_of_getElem? (i := 1) rfl)) rfl, rfl, rfl, rfl⟩
theorem lb_X12_isBeyond : hp_LB yX12_isBeyond cX12_isBeyond 3 (some .boolean) 2 := ⟨hp_mu (tm_8_9 (List.mem_of_getElem? (i := 5) rfl)) rfl, hp_mu (tb_1 (List.mem_of_getElem? (i := 12) rfl)) rfl, by decide, by decide +kernel⟩
theorem ls_X12_isBeyond : Cond.static yX12_isBeyond ∈ lw_u := hp_mu (tm_8_9 (List.mem_of_getElem? (i := 4) rfl)) rfl
theorem lb_X12_bundleOf : hp_LB yX12_bundleOf cX12_bundleOf 3 none 2 := ⟨hp_mu (tm_8_9 (List.mem_of_getElem? (i := 9) rfl)) rfl, hp_mu (tb_1 (List.mem_of_getElem? (i := 12) rfl)) rfl, by decide, by decide +kernel⟩
theorem lv_X12_bundleOf : hp_LV yX12_bundleOf 13 := ⟨hp_mu (tm_8_9 (List.mem_of_getElem? (i := 8) rfl)) rfl, hp_mu (tm_0_5 (List.mem_of_getElem? (i := 12) rfl)) rfl, rfl, rfl, rfl⟩
theorem lb_X12_bundlesIn : hp_LB yX12_bundlesIn cX12_bundlesIn 5 none 3 := ⟨hp_mu (tm_8_9 (List.mem_of_getElem? (i := 13) rfl)) rfl, hp_mu (tb_1 (List.mem_of_getElem? (i := 12) rfl)) rfl, by decide, by decide +kernel⟩
theorem lv_X12_bundlesIn : hp_LV yX12_bundlesIn 13 := ⟨hp_mu (tm_8_9 (List.mem_of_getElem? (i := 12) rfl)) rfl, hp_mu (tm_0_5 (List.mem_of_getElem? (i := 13) rfl)) rfl, rfl, rfl, rfl⟩
theorem lb_X12_hasAny : hp_LB yX12_hasAny cX12_hasAny 4 (some .boolean) 3 := ⟨hp_mu (tm_8_10 (List.mem_of_getElem? (i := 0) rfl)) rfl, hp_mu (tb_1 (List.mem_of_getElem? (i := 12) rfl)) rfl, by decide, by decide +kernel⟩
theorem ls_X12_hasAny : Cond.static yX12_hasAny ∈ lw_u := hp_mu (tm_8_9 (List.mem_of_getElem? (i := 15) rfl)) rfl
theorem lb_X12_peaks : hp_LB yX12_peaks cX12_peaks 3 (some .int) 2 := ⟨hp_mu (tm_8_10 (List.mem_of_getElem? (i := 4) rfl)) rfl, hp_mu (tb_1 (List.mem_of_getElem? (i := 12) rfl)) rfl, by decide, by decide +kernel⟩
theorem lv_X12_peaks : hp_LV yX12_peaks 13 := ⟨hp_mu (tm_8_10 (List.mem_of_getElem? (i := 2) rfl)) rfl, hp_mu (tm_8_10 (List.mem_of_getElem? (i := 3) rfl)) rfl, rfl, rfl, rfl⟩
theorem lb_X12_extend : hp_LB yX12_extend cX12_extend 5 (some .int) 2 := ⟨hp_mu (tm_8_10 (List.mem_of_getElem? (i := 8) rfl)) rfl, hp_mu (tb_1 (List.mem_of_getElem? (i := 12) rfl)) rfl, by decide, by decide +kernel⟩
theorem lv_X12_extend : hp_LV yX12_extend 13 := ⟨hp_mu (tm_8_10 (List.mem_of_getElem? (i := 6) rfl)) rfl, hp_mu (tm_8_10 (List.mem_of_getElem? (i := 7) rfl)) rfl, rfl, rfl, rfl⟩
theorem lb_X12_checks : hp_LB yX12_checks cX12_checks 5 (some .int) 4 := ⟨hp_mu (tm_8_10 (List.mem_of_getElem? (i := 14) rfl)) rfl, hp_mu (tb_1 (List.mem_of_getElem? (i := 12) rfl)) rfl, by decide, by decide +kernel⟩
theorem lv_X12_checks : hp_LV yX12_checks 13 := ⟨hp_mu (tm_8_10 (List.mem_of_getElem? (i := 12) rfl)) rfl, hp_mu (tm_8_10 (List.mem_of_getElem? (i := 13) rfl)) rfl, rfl, rfl, rfl⟩
theorem lb_X12_isThing : hp_LB yX12_isThing cX12_isThing 3 (some .boolean) 2 := ⟨hp_mu (tm_8_11 (List.mem_of_getElem? (i := 2) rfl)) rfl, hp_mu (tb_1 (List.mem_of_getElem? (i := 12) rfl)) rfl, by decide, by decide +kernel⟩
theorem lv_X12_isThing : hp_LV yX12_isThing 13 := ⟨hp_mu (tm_8_11 (List.mem_of_getElem? (i := 1) rfl)) rfl, hp_mu (tm_0_5 (List.mem_of_getElem? (i := 14) rfl)) rfl, rfl, rfl, rfl⟩
theorem lb_X12_fromPad : hp_LB yX12_fromPad cX12_fromPad 2 (some .int) 0 := ⟨hp_mu (tm_8_11 (List.mem_of_getElem? (i := 6) rfl)) rfl, hp_mu (tb_1 (List.mem_of_getElem? (i := 12) rfl)) rfl, by decide, by decide +kernel⟩
theorem lv_X12_fromPad : hp_LV yX12_fromPad 13 := ⟨hp_mu (tm_8_11 (List.mem_of_getElem? (i := 5) rfl)) rfl, hp_mu (tm_0_5 (List.mem_of_getElem? (i := 15) rfl)) rfl, rfl, rfl, rfl⟩
theorem lb_X12_growth_ : hp_LB yX12_growth_ cX12_growth_ 5 (some .int) 4 := ⟨hp_mu (tm_8_11 (List.mem_of_getElem? (i := 10) rfl)) rfl, hp_mu (tb_1 (List.mem_of_getElem? (i := 12) rfl)) rfl, by decide, by decide +kernel⟩
theorem lv_X12_growth_ : hp_LV yX12_growth_ 13 := ⟨hp_mu (tm_8_11 (List.mem_of_getElem? (i := 8) rfl)) rfl, hp_mu (tm_8_11 (List.mem_of_getElem? (i := 9) rfl)) rfl, rfl, rfl, rfl⟩
theorem lb_X12_bundled : hp_LB yX12_bundled cX12_bundled 7 (some .int) 3 := ⟨hp_mu (tm_8_11 (List.mem_of_getElem? (i := 14) rfl)) rfl, hp_mu (tb_1 (List.mem_of_getElem? (i := 12) rfl)) rfl, by decide, by decide +kernel⟩
theorem lv_X12_bundled : hp_LV yX12_bundled 13 := ⟨hp_mu (tm_8_11 (List.mem_of_getElem? (i := 12) rfl)) rfl, hp_mu (tm_8_11 (List.mem_of_getElem? (i := 13) rfl)) rfl, rfl, rfl, rfl⟩
theorem lb_X12_foldsBundle : hp_LB yX12_foldsBundle cX12_foldsBundle 6 (some .int) 3 := ⟨hp_mu (tm_8_12 (List.mem_of_getElem? (i := 2) rfl)) rfl, hp_mu (tb_1 (List.mem_of_getElem? (i := 12) rfl)) rfl, by decide, by decide +kernel⟩
theorem lv_X12_foldsBundle : hp_LV yX12_foldsBundle 13 := ⟨hp_mu (tm_8_12 (List.mem_of_getElem? (i := 1) rfl)) rfl, hp_mu (tm_0_6 (List.mem_of_getElem? (i := 0) rfl)) rfl, rfl, rfl, rfl⟩
theorem lb_X12_fold : hp_LB yX12_fold cX12_fold 3 (some .int) 0 := ⟨hp_mu (tm_8_12 (List.mem_of_getElem? (i := 6) rfl)) rfl, hp_mu (tb_1 (List.mem_of_getElem? (i := 12) rfl)) rfl, by decide, by decide +kernel⟩
theorem lv_X12_fold : hp_LV yX12_fold 13 := ⟨hp_mu (tm_8_12 (List.mem_of_getElem? (i := 4) rfl)) rfl, hp_mu (tm_8_12 (List.mem_of_getElem? (i := 5) rfl)) rfl, rfl, rfl, rfl⟩
theorem lb_X12_steps : hp_LB yX12_steps cX12_steps 3 (some .int) 2 := ⟨hp_mu (tm_8_12 (List.mem_of_getElem? (i := 10) rfl)) rfl, hp_mu (tb_1 (List.mem_of_getElem? (i := 12) rfl)) rfl, by decide, by decide +kernel⟩
theorem lv_X12_steps : hp_LV yX12_steps 13 := ⟨hp_mu (tm_8_12 (List.mem_of_getElem? (i := 8) rfl)) rfl, hp_mu (tm_8_12 (List.mem_of_getElem? (i := 9) rfl)) rfl, rfl, rfl, rfl⟩
theorem lb_X12_climbs : hp_LB yX12_climbs cX12_climbs 3 (some .int) 2 := ⟨hp_mu (tm_8_12 (List.mem_of_getElem? (i := 14) rfl)) rfl, hp_mu (tb_1 (List.mem_of_getElem? (i := 12) rfl)) rfl, by decide, by decide +kernel⟩
theorem lv_X12_climbs : hp_LV yX12_climbs 13 := ⟨hp_mu (tm_8_12 (List.mem_of_getElem? (i := 12) rfl)) rfl, hp_mu (tm_8_12 (List.mem_of_getElem? (i := 13) rfl)) rfl, rfl, rfl, rfl⟩
theorem lb_X12_agree : hp_LB yX12_agree cX12_agree 3 (some .int) 2 := ⟨hp_mu (tm_8_13 (List.mem_of_getElem? (i := 2) rfl)) rfl, hp_mu (tb_1 (List.mem_of_getElem? (i := 12) rfl)) rfl, by decide, by decide +kernel⟩
theorem lv_X12_agree : hp_LV yX12_agree 13 := ⟨hp_mu (tm_8_13 (List.mem_of_getElem? (i := 0) rfl)) rfl, hp_mu (tm_8_13 (List.mem_of_getElem? (i := 1) rfl)) rfl, rfl, rfl, rfl⟩
theorem lb_X12_isAgreed : hp_LB yX12_isAgreed cX12_isAgreed 4 (some .boolean) 2 := ⟨hp_mu (tm_8_13 (List.mem_of_getElem? (i := 6) rfl)) rfl, hp_mu (tb_1 (List.mem_of_getElem? (i := 12) rfl)) rfl, by decide, by decide +kernel⟩
theorem lv_X12_isAgreed : hp_LV yX12_isAgreed 13 := ⟨hp_mu (tm_8_13 (List.mem_of_getElem? (i := 5) rfl)) rfl, hp_mu (tm_0_6 (List.mem_of_getElem? (i := 1) rfl)) rfl, rfl, rfl, rfl⟩
theorem lb_X12_isHead : hp_LB yX12_isHead cX12_isHead 4 (some .boolean) 3 := ⟨hp_mu (tm_8_13 (List.mem_of_getElem? (i := 10) rfl)) rfl, hp_mu (tb_1 (List.mem_of_getElem? (i := 12) rfl)) rfl, by decide, by decide +kernel⟩
theorem lv_X12_isHead : hp_LV yX12_isHead 13 := ⟨hp_mu (tm_8_13 (List.mem_of_getElem? (i := 9) rfl)) rfl, hp_mu (tm_0_6 (List.mem_of_getElem? (i := 2) rfl)) rfl, rfl, rfl, rfl⟩
theorem lb_X12_where : hp_LB yX12_where cX12_where 6 (some .int) 2 := ⟨hp_mu (tm_8_13 (List.mem_of_getElem? (i := 14) rfl)) rfl, hp_mu (tb_1 (List.mem_of_getElem? (i := 12) rfl)) rfl, by decide, by decide +kernel⟩
theorem lv_X12_where : hp_LV yX12_where 13 := ⟨hp_mu (tm_8_13 (List.mem_of_getElem? (i := 12) rfl)) rfl, hp_mu (tm_8_13 (List.mem_of_getElem? (i := 13) rfl)) rfl, rfl, rfl, rfl⟩
theorem lb_X12_isTyped : hp_LB yX12_isTyped cX12_isTyped 3 (some .boolean) 1 := ⟨hp_mu (tm_8_14 (List.mem_of_getElem? (i := 2) rfl)) rfl, hp_mu (tb_1 (List.mem_of_getElem? (i := 12) rfl)) rfl, by decide, by decide +kernel⟩
theorem lv_X12_isTyped : hp_LV yX12_isTyped 13 := ⟨hp_mu (tm_8_14 (List.mem_of_getElem? (i := 1) rfl)) rfl, hp_mu (tm_0_6 (List.mem_of_getElem? (i := 3) rfl)) rfl, rfl, rfl, rfl⟩
theorem lb_X12_tree : hp_LB yX12_tree cX12_tree 5 (some .int) 4 := ⟨hp_mu (tm_8_14 (List.mem_of_getElem? (i := 6) rfl)) rfl, hp_mu (tb_1 (List.mem_of_getElem? (i := 12) rfl)) rfl, by decide, by decide +kernel⟩
theorem lv_X12_tree : hp_LV yX12_tree 13 := ⟨hp_mu (tm_8_14 (List.mem_of_getElem? (i := 4) rfl)) rfl, hp_mu (tm_8_14 (List.mem_of_getElem? (i := 5) rfl)) rfl, rfl, rfl, rfl⟩
theorem lb_X12_seeks : hp_LB yX12_seeks cX12_seeks 4 none 2 := ⟨hp_mu (tm_8_14 (List.mem_of_getElem? (i := 10) rfl)) rfl, hp_mu (tb_1 (List.mem_of_getElem? (i := 12) rfl)) rfl, by decide, by decide +kernel⟩
theorem lv_X12_seeks : hp_LV yX12_seeks 13 := ⟨hp_mu (tm_8_14 (List.mem_of_getElem? (i := 9) rfl)) rfl, hp_mu (tm_0_6 (List.mem_of_getElem? (i := 4) rfl)) rfl, rfl, rfl, rfl⟩
theorem lb_X12_proves : hp_LB yX12_proves cX12_proves 3 (some .int) 2 := ⟨hp_mu (tm_8_14 (List.mem_of_getElem? (i := 14) rfl)) rfl, hp_mu (tb_1 (List.mem_of_getElem? (i := 12) rfl)) rfl, by decide, by decide +kernel⟩
theorem lv_X12_proves : hp_LV yX12_proves 13 := ⟨hp_mu (tm_8_14 (List.mem_of_getElem? (i := 12) rfl)) rfl, hp_mu (tm_8_14 (List.mem_of_getElem? (i := 13) rfl)) rfl, rfl, rfl, rfl⟩
theorem lb_X12_longest : hp_LB yX12_longest cX12_longest 7 (some .int) 2 := ⟨hp_mu (tb_9 (List.mem_of_getElem? (i := 2) rfl)) rfl, hp_mu (tb_1 (List.mem_of_getElem? (i := 12) rfl)) rfl, by decide, by decide +kernel⟩
theorem lv_X12_longest : hp_LV yX12_longest 13 := ⟨hp_mu (tb_9 (List.mem_of_getElem? (i := 0) rfl)) rfl, hp_mu (tb_9 (List.mem_of_getElem? (i := 1) rfl)) rfl, rfl, rfl, rfl⟩
theorem lb_X12_part : hp_LB yX12_part cX12_part 9 (some .int) 3 := ⟨hp_mu (tb_9 (List.mem_of_getElem? (i := 6) rfl)) rfl, hp_mu (tb_1 (List.mem_of_getElem? (i := 12) rfl)) rfl, by decide, by decide +kernel⟩
theorem lv_X12_part : hp_LV yX12_part 13 := ⟨hp_mu (tb_9 (List.mem_of_getElem? (i := 4) rfl)) rfl, hp_mu (tb_9 (List.mem_of_getElem? (i := 5) rfl)) rfl, rfl, rfl, rfl⟩
theorem lb_X12_blame : hp_LB yX12_blame cX12_blame 7 (some .int) 2 := ⟨hp_mu (tb_9 (List.mem_of_getElem? (i := 10) rfl)) rfl, hp_mu (tb_1 (List.mem_of_getElem? (i := 12) rfl)) rfl, by decide, by decide +kernel⟩
theorem lv_X12_blame : hp_LV yX12_blame 13 := ⟨hp_mu (tb_9 (List.mem_of_getElem? (i := 8) rfl)) rfl, hp_mu (tb_9 (List.mem_of_getElem? (i := 9) rfl)) rfl, rfl, rfl, rfl⟩
theorem lb_X12_weak : hp_LB yX12_weak cX12_weak 10 (some .int) 4 := ⟨hp_mu (tb_9 (List.mem_of_getElem? (i := 14) rfl)) rfl, hp_mu (tb_1 (List.mem_of_getElem? (i := 12) rfl)) rfl, by decide, by decide +kernel⟩
theorem lv_X12_weak : hp_LV yX12_weak 13 := ⟨hp_mu (tb_9 (List.mem_of_getElem? (i := 12) rfl)) rfl, hp_mu (tb_9 (List.mem_of_getElem? (i := 13) rfl)) rfl, rfl, rfl, rfl⟩
theorem lb_X12_clash : hp_LB yX12_clash cX12_clash 7 (some .int) 5 := ⟨hp_mu (tm_9_1 (List.mem_of_getElem? (i := 2) rfl)) rfl, hp_mu (tb_1 (List.mem_of_getElem? (i := 12) rfl)) rfl, by decide, by decide +kernel⟩
theorem lv_X12_clash : hp_LV yX12_clash 13 := ⟨hp_mu (tm_9_1 (List.mem_of_getElem? (i := 0) rfl)) rfl, hp_mu (tm_9_1 (List.mem_of_getElem? (i := 1) rfl)) rfl, rfl, rfl, rfl⟩
theorem lb_X12_stepsIn : hp_LB yX12_stepsIn cX12_stepsIn 6 (some .int) 3 := ⟨hp_mu (tm_9_1 (List.mem_of_getElem? (i := 6) rfl)) rfl, hp_mu (tb_1 (List.mem_of_getElem? (i := 12) rfl)) rfl, by decide, by decide +kernel⟩
theorem lv_X12_stepsIn : hp_LV yX12_stepsIn 13 := ⟨hp_mu (tm_9_1 (List.mem_of_getElem? (i := 5) rfl)) rfl, hp_mu (tm_0_6 (List.mem_of_getElem? (i := 5) rfl)) rfl, rfl, rfl, rfl⟩
theorem lb_X12_forge : hp_LB yX12_forge cX12_forge 7 (some .int) 5 := ⟨hp_mu (tm_9_1 (List.mem_of_getElem? (i := 10) rfl)) rfl, hp_mu (tb_1 (List.mem_of_getElem? (i := 12) rfl)) rfl, by decide, by decide +kernel⟩
theorem lv_X12_forge : hp_LV yX12_forge 13 := ⟨hp_mu (tm_9_1 (List.mem_of_getElem? (i := 8) rfl)) rfl, hp_mu (tm_9_1 (List.mem_of_getElem? (i := 9) rfl)) rfl, rfl, rfl, rfl⟩
theorem lb_X12_trace : hp_LB yX12_trace cX12_trace 6 (some .int) 4 := ⟨hp_mu (tm_9_1 (List.mem_of_getElem? (i := 14) rfl)) rfl, hp_mu (tb_1 (List.mem_of_getElem? (i := 12) rfl)) rfl, by decide, by decide +kernel⟩
theorem lv_X12_trace : hp_LV yX12_trace 13 := ⟨hp_mu (tm_9_1 (List.mem_of_getElem? (i := 12) rfl)) rfl, hp_mu (tm_9_1 (List.mem_of_getElem? (i := 13) rfl)) rfl, rfl, rfl, rfl⟩
theorem lb_X12_span : hp_LB yX12_span cX12_span 5 (some .int) 4 := ⟨hp_mu (tm_9_2 (List.mem_of_getElem? (i := 2) rfl)) rfl, hp_mu (tb_1 (List.mem_of_getElem? (i := 12) rfl)) rfl, by decide, by decide +kernel⟩
theorem lv_X12_span : hp_LV yX12_span 13 := ⟨hp_mu (tm_9_2 (List.mem_of_getElem? (i := 0) rfl)) rfl, hp_mu (tm_9_2 (List.mem_of_getElem? (i := 1) rfl)) rfl, rfl, rfl, rfl⟩
theorem lb_X12_wayAt : hp_LB yX12_wayAt cX12_wayAt 3 (some .int) 2 := ⟨hp_mu (tm_9_2 (List.mem_of_getElem? (i := 6) rfl)) rfl, hp_mu (tb_1 (List.mem_of_getElem? (i := 12) rfl)) rfl, by decide, by decide +kernel⟩
theorem lv_X12_wayAt : hp_LV yX12_wayAt 13 := ⟨hp_mu (tm_9_2 (List.mem_of_getElem? (i := 5) rfl)) rfl, hp_mu (tm_0_6 (List.mem_of_getElem? (i := 6) rfl)) rfl, rfl, rfl, rfl⟩
theorem lb_X12_rise : hp_LB yX12_rise cX12_rise 5 (some .int) 4 := ⟨hp_mu (tm_9_2 (List.mem_of_getElem? (i := 10) rfl)) rfl, hp_mu (tb_1 (List.mem_of_getElem? (i := 12) rfl)) rfl, by decide, by decide +kernel⟩
theorem lv_X12_rise : hp_LV yX12_rise 13 := ⟨hp_mu (tm_9_2 (List.mem_of_getElem? (i := 8) rfl)) rfl, hp_mu (tm_9_2 (List.mem_of_getElem? (i := 9) rfl)) rfl, rfl, rfl, rfl⟩
theorem lb_X12_kept : hp_LB yX12_kept cX12_kept 6 (some .int) 3 := ⟨hp_mu (tm_9_2 (List.mem_of_getElem? (i := 14) rfl)) rfl, hp_mu (tb_1 (List.mem_of_getElem? (i := 12) rfl)) rfl, by decide, by decide +kernel⟩
theorem lv_X12_kept : hp_LV yX12_kept 13 := ⟨hp_mu (tm_9_2 (List.mem_of_getElem? (i := 12) rfl)) rfl, hp_mu (tm_9_2 (List.mem_of_getElem? (i := 13) rfl)) rfl, rfl, rfl, rfl⟩
theorem lb_X12_notes : hp_LB yX12_notes cX12_notes 2 none 0 := ⟨hp_mu (tm_9_3 (List.mem_of_getElem? (i := 2) rfl)) rfl, hp_mu (tb_1 (List.mem_of_getElem? (i := 12) rfl)) rfl, by decide, by decide +kernel⟩
theorem lv_X12_notes : hp_LV yX12_notes 13 := ⟨hp_mu (tm_9_3 (List.mem_of_getElem? (i := 1) rfl)) rfl, hp_mu (tm_0_6 (List.mem_of_getElem? (i := 7) rfl)) rfl, rfl, rfl, rfl⟩
theorem lb_X12_had : hp_LB yX12_had cX12_had 4 (some .boolean) 2 := ⟨hp_mu (tm_9_3 (List.mem_of_getElem? (i := 6) rfl)) rfl, hp_mu (tb_1 (List.mem_of_getElem? (i := 12) rfl)) rfl, by decide, by decide +kernel⟩
theorem lv_X12_had : hp_LV yX12_had 13 := ⟨hp_mu (tm_9_3 (List.mem_of_getElem? (i := 5) rfl)) rfl, hp_mu (tm_0_6 (List.mem_of_getElem? (i := 8) rfl)) rfl, rfl, rfl, rfl⟩
theorem lb_X12_sick : hp_LB yX12_sick cX12_sick 4 (some .int) 1 := ⟨hp_mu (tm_9_3 (List.mem_of_getElem? (i := 10) rfl)) rfl, hp_mu (tb_1 (List.mem_of_getElem? (i := 12) rfl)) rfl, by decide, by decide +kernel⟩
theorem lv_X12_sick : hp_LV yX12_sick 13 := ⟨hp_mu (tm_9_3 (List.mem_of_getElem? (i := 8) rfl)) rfl, hp_mu (tm_9_3 (List.mem_of_getElem? (i := 9) rfl)) rfl, rfl, rfl, rfl⟩
theorem lb_X12_chain : hp_LB yX12_chain cX12_chain 7 (some .int) 2 := ⟨hp_mu (tm_9_3 (List.mem_of_getElem? (i := 14) rfl)) rfl, hp_mu (tb_1 (List.mem_of_getElem? (i := 12) rfl)) rfl, by decide, by decide +kernel⟩
theorem lv_X12_chain : hp_LV yX12_chain 13 := ⟨hp_mu (tm_9_3 (List.mem_of_getElem? (i := 12) rfl)) rfl, hp_mu (tm_9_3 (List.mem_of_getElem? (i := 13) rfl)) rfl, rfl, rfl, rfl⟩
theorem lb_X12_sizeAbove : hp_LB yX12_sizeAbove cX12_sizeAbove 5 (some .int) 2 := ⟨hp_mu (tm_9_4 (List.mem_of_getElem? (i := 2) rfl)) rfl, hp_mu (tb_1 (List.mem_of_getElem? (i := 12) rfl)) rfl, by decide, by decide +kernel⟩
theorem lv_X12_sizeAbove : hp_LV yX12_sizeAbove 13 := ⟨hp_mu (tm_9_4 (List.mem_of_getElem? (i := 1) rfl)) rfl, hp_mu (tm_0_6 (List.mem_of_getElem? (i := 9) rfl)) rfl, rfl, rfl, rfl⟩
theorem lb_X12_split : hp_LB yX12_split cX12_split 6 (some .int) 1 := ⟨hp_mu (tm_9_4 (List.mem_of_getElem? (i := 6) rfl)) rfl, hp_mu (tb_1 (List.mem_of_getElem? (i := 12) rfl)) rfl, by decide, by decide +kernel⟩
theorem lv_X12_split : hp_LV yX12_split 13 := ⟨hp_mu (tm_9_4 (List.mem_of_getElem? (i := 4) rfl)) rfl, hp_mu (tm_9_4 (List.mem_of_getElem? (i := 5) rfl)) rfl, rfl, rfl, rfl⟩
theorem lb_X12_tell : hp_LB yX12_tell cX12_tell 4 (some .int) 3 := ⟨hp_mu (tm_9_4 (List.mem_of_getElem? (i := 10) rfl)) rfl, hp_mu (tb_1 (List.mem_of_getElem? (i := 12) rfl)) rfl, by decide, by decide +kernel⟩
theorem lv_X12_tell : hp_LV yX12_tell 13 := ⟨hp_mu (tm_9_4 (List.mem_of_getElem? (i := 8) rfl)) rfl, hp_mu (tm_9_4 (List.mem_of_getElem? (i := 9) rfl)) rfl, rfl, rfl, rfl⟩
theorem lb_X12_says : hp_LB yX12_says cX12_says 4 none 2 := ⟨hp_mu (tm_9_4 (List.mem_of_getElem? (i := 15) rfl)) rfl, hp_mu (tb_1 (List.mem_of_getElem? (i := 12) rfl)) rfl, by decide, by decide +kernel⟩
theorem lv_X12_says : hp_LV yX12_says 13 := ⟨hp_mu (tm_9_4 (List.mem_of_getElem? (i := 14) rfl)) rfl, hp_mu (tm_0_6 (List.mem_of_getElem? (i := 10) rfl)) rfl, rfl, rfl, rfl⟩
theorem lb_X12_tells : hp_LB yX12_tells cX12_tells 2 none 1 := ⟨hp_mu (tm_9_5 (List.mem_of_getElem? (i := 3) rfl)) rfl, hp_mu (tb_1 (List.mem_of_getElem? (i := 12) rfl)) rfl, by decide, by decide +kernel⟩
theorem lv_X12_tells : hp_LV yX12_tells 13 := ⟨hp_mu (tm_9_5 (List.mem_of_getElem? (i := 2) rfl)) rfl, hp_mu (tm_0_6 (List.mem_of_getElem? (i := 11) rfl)) rfl, rfl, rfl, rfl⟩
theorem lb_X12_tellsNumber : hp_LB yX12_tellsNumber cX12_tellsNumber 3 none 1 := ⟨hp_mu (tm_9_5 (List.mem_of_getElem? (i := 9) rfl)) rfl, hp_mu (tb_1 (List.mem_of_getElem? (i := 12) rfl)) rfl, by decide, by decide +kernel⟩
theorem lv_X12_tellsNumber : hp_LV yX12_tellsNumber 13 := ⟨hp_mu (tm_9_5 (List.mem_of_getElem? (i := 8) rfl)) rfl, hp_mu (tm_0_6 (List.mem_of_getElem? (i := 12) rfl)) rfl, rfl, rfl, rfl⟩
theorem lb_X12_tellsMarks : hp_LB yX12_tellsMarks cX12_tellsMarks 3 (some .int) 1 := ⟨hp_mu (tm_9_6 (List.mem_of_getElem? (i := 0) rfl)) rfl, hp_mu (tb_1 (List.mem_of_getElem? (i := 12) rfl)) rfl, by decide, by decide +kernel⟩
theorem lv_X12_tellsMarks : hp_LV yX12_tellsMarks 13 := ⟨hp_mu (tm_9_5 (List.mem_of_getElem? (i := 15) rfl)) rfl, hp_mu (tm_0_6 (List.mem_of_getElem? (i := 13) rfl)) rfl, rfl, rfl, rfl⟩
theorem lb_X12_tellGrowth : hp_LB yX12_tellGrowth cX12_tellGrowth 4 (some .int) 3 := ⟨hp_mu (tm_9_6 (List.mem_of_getElem? (i := 4) rfl)) rfl, hp_mu (tb_1 (List.mem_of_getElem? (i := 12) rfl)) rfl, by decide, by decide +kernel⟩
theorem lv_X12_tellGrowth : hp_LV yX12_tellGrowth 13 := ⟨hp_mu (tm_9_6 (List.mem_of_getElem? (i := 2) rfl)) rfl, hp_mu (tm_9_6 (List.mem_of_getElem? (i := 3) rfl)) rfl, rfl, rfl, rfl⟩
theorem lb_X12_out : hp_LB yX12_out cX12_out 2 (some .int) 1 := ⟨hp_mu (tm_9_6 (List.mem_of_getElem? (i := 10) rfl)) rfl, hp_mu (tb_1 (List.mem_of_getElem? (i := 12) rfl)) rfl, by decide, by decide +kernel⟩
theorem lv_X12_out : hp_LV yX12_out 13 := ⟨hp_mu (tm_9_6 (List.mem_of_getElem? (i := 8) rfl)) rfl, hp_mu (tm_9_6 (List.mem_of_getElem? (i := 9) rfl)) rfl, rfl, rfl, rfl⟩
theorem lb_X12_trusted : hp_LB yX12_trusted cX12_trusted 5 (some .int) 2 := ⟨hp_mu (tm_9_6 (List.mem_of_getElem? (i := 14) rfl)) rfl, hp_mu (tb_1 (List.mem_of_getElem? (i := 12) rfl)) rfl, by decide, by decide +kernel⟩
theorem lv_X12_trusted : hp_LV yX12_trusted 13 := ⟨hp_mu (tm_9_6 (List.mem_of_getElem? (i := 12) rfl)) rfl, hp_mu (tm_9_6 (List.mem_of_getElem? (i := 13) rfl)) rfl, rfl, rfl, rfl⟩
theorem lb_X12_saves : hp_LB yX12_saves cX12_saves 5 (some .int) 2 := ⟨hp_mu (tm_9_7 (List.mem_of_getElem? (i := 2) rfl)) rfl, hp_mu (tb_1 (List.mem_of_getElem? (i := 12) rfl)) rfl, by decide, by decide +kernel⟩
theorem lv_X12_saves : hp_LV yX12_saves 13 := ⟨hp_mu (tm_9_7 (List.mem_of_getElem? (i := 0) rfl)) rfl, hp_mu (tm_9_7 (List.mem_of_getElem? (i := 1) rfl)) rfl, rfl, rfl, rfl⟩
theorem lb_X12_who : hp_LB yX12_who cX12_who 5 (some .int) 2 := ⟨hp_mu (tm_9_7 (List.mem_of_getElem? (i := 6) rfl)) rfl, hp_mu (tb_1 (List.mem_of_getElem? (i := 12) rfl)) rfl, by decide, by decide +kernel⟩
theorem lv_X12_who : hp_LV yX12_who 13 := ⟨hp_mu (tm_9_7 (List.mem_of_getElem? (i := 4) rfl)) rfl, hp_mu (tm_9_7 (List.mem_of_getElem? (i := 5) rfl)) rfl, rfl, rfl, rfl⟩
theorem lk_L_9 : hp_LK RL 9 yX11_init := Or.inl (hp_mu (tm_1_1 (List.mem_of_getElem? (i := 6) rfl)) rfl)
theorem lk_X11_15 : hp_LK RX11 15 yX10_init := Or.inl (hp_mu (tm_1_1 (List.mem_of_getElem? (i := 14) rfl)) rfl)
theorem lk_X10_49 : hp_LK RX10 49 yX5_init := Or.inr ⟨"ProvenRecord", List.mem_filter.mpr ⟨tm_1_2 (List.mem_of_getElem? (i := 11) rfl), by decide +kernel⟩⟩
theorem lk_X10_56 : hp_LK RX10 56 yX8_init := Or.inr ⟨"ProvenRecord", List.mem_filter.mpr ⟨tm_1_3 (List.mem_of_getElem? (i := 14) rfl), by decide +kernel⟩⟩
theorem lk_X10_61 : hp_LK RX10 61 yX2_init := Or.inl (hp_mu (tm_1_5 (List.mem_of_getElem? (i := 7) rfl)) rfl)
theorem lk_X2_25 : hp_LK RX2 25 yX9_init := Or.inr ⟨"ProvenRecord", List.mem_filter.mpr ⟨tm_1_5 (List.mem_of_getElem? (i := 14) rfl), by decide +kernel⟩⟩
theorem lk_X10_62 : hp_LK RX10 62 yX1_init := Or.inr ⟨"ProvenRecord", List.mem_filter.mpr ⟨tm_1_7 (List.mem_of_getElem? (i := 9) rfl), by decide +kernel⟩⟩
theorem lk_X1_24 : hp_LK RX1 24 yX5_init := Or.inr ⟨"ProvenRecord", List.mem_filter.mpr ⟨tm_1_7 (List.mem_of_getElem? (i := 14) rfl), by decide +kernel⟩⟩
theorem lk_X10_63 : hp_LK RX10 63 yX7_init := Or.inr ⟨"ProvenRecord", List.mem_filter.mpr ⟨tm_1_9 (List.mem_of_getElem? (i := 9) rfl), by decide +kernel⟩⟩
theorem lk_X11_25 : hp_LK RX11 25 yX5_init := Or.inr ⟨"ProvenRecord", List.mem_filter.mpr ⟨tm_1_13 (List.mem_of_getElem? (i := 9) rfl), by decide +kernel⟩⟩
theorem lk_X11_39 : hp_LK RX11 39 yX9_init := Or.inr ⟨"ProvenRecord", List.mem_filter.mpr ⟨tm_1_13 (List.mem_of_getElem? (i := 11) rfl), by decide +kernel⟩⟩
theorem lk_X11_61 : hp_LK RX11 61 yX8_init := Or.inr ⟨"ProvenRecord", List.mem_filter.mpr ⟨tm_1_13 (List.mem_of_getElem? (i := 13) rfl), by decide +kernel⟩⟩
theorem lk_X11_74 : hp_LK RX11 74 yX0_init := Or.inr ⟨"ProvenRecord", List.mem_filter.mpr ⟨tm_1_14 (List.mem_of_getElem? (i := 0) rfl), by decide +kernel⟩⟩
theorem lk_X0_17 : hp_LK RX0 17 yX5_init := Or.inr ⟨"ProvenRecord", List.mem_filter.mpr ⟨tm_1_14 (List.mem_of_getElem? (i := 5) rfl), by decide +kernel⟩⟩
theorem lk_X11_81 : hp_LK RX11 81 yX3_init := Or.inr ⟨"ProvenRecord", List.mem_filter.mpr ⟨tb_2 (List.mem_of_getElem? (i := 8) rfl), by decide +kernel⟩⟩
theorem lk_X3_11 : hp_LK RX3 11 yX6_init := Or.inr ⟨"ProvenRecord", List.mem_filter.mpr ⟨tb_2 (List.mem_of_getElem? (i := 14) rfl), by decide +kernel⟩⟩
theorem lk_X3_20 : hp_LK RX3 20 yX5_init := Or.inr ⟨"ProvenRecord", List.mem_filter.mpr ⟨tm_2_2 (List.mem_of_getElem? (i := 13) rfl), by decide +kernel⟩⟩
theorem lk_X3_27 : hp_LK RX3 27 yX8_init := Or.inr ⟨"ProvenRecord", List.mem_filter.mpr ⟨tm_2_2 (List.mem_of_getElem? (i := 15) rfl), by decide +kernel⟩⟩
theorem lk_X3_48 : hp_LK RX3 48 yX9_init := Or.inr ⟨"ProvenRecord", List.mem_filter.mpr ⟨tm_2_3 (List.mem_of_getElem? (i := 2) rfl), by decide +kernel⟩⟩
theorem lk_L_13 : hp_LK RL 13 yX11_status := Or.inl (hp_mu (tm_2_9 (List.mem_of_getElem? (i := 2) rfl)) rfl)
theorem lk_L_18 : hp_LK RL 18 yX11_feed := Or.inl (hp_mu (tm_2_9 (List.mem_of_getElem? (i := 6) rfl)) rfl)
theorem lk_X11_94 : hp_LK RX11 94 yX11_putOnTape := Or.inl (hp_mu (tm_2_9 (List.mem_of_getElem? (i := 10) rfl)) rfl)
theorem lk_L_23 : hp_LK RL 23 yX11_load := Or.inl (hp_mu (tm_2_9 (List.mem_of_getElem? (i := 14) rfl)) rfl)
theorem lk_X11_98 : hp_LK RX11 98 yX11_refuse := Or.inl (hp_mu (tm_2_10 (List.mem_of_getElem? (i := 2) rfl)) rfl)
theorem lk_X11_102 : hp_LK RX11 102 yX10_renew := Or.inl (hp_mu (tm_2_10 (List.mem_of_getElem? (i := 6) rfl)) rfl)
theorem lk_X10_64 : hp_LK RX10 64 yX10_logAt := Or.inl (hp_mu (tm_2_10 (List.mem_of_getElem? (i := 10) rfl)) rfl)
theorem lk_X10_71 : hp_LK RX10 71 yX10_watcherAt := Or.inl (hp_mu (tm_2_10 (List.mem_of_getElem? (i := 14) rfl)) rfl)
theorem lk_X10_75 : hp_LK RX10 75 yX7_renew := Or.inl (hp_mu (tm_2_11 (List.mem_of_getElem? (i := 2) rfl)) rfl)
theorem lk_X7_25 : hp_LK RX7 25 yX7_trust := Or.inl (hp_mu (tm_2_11 (List.mem_of_getElem? (i := 6) rfl)) rfl)
theorem lk_X11_105 : hp_LK RX11 105 yX11_loadLines := Or.inl (hp_mu (tm_2_11 (List.mem_of_getElem? (i := 10) rfl)) rfl)
theorem lk_X11_118 : hp_LK RX11 118 yX3_begin := Or.inl (hp_mu (tm_2_11 (List.mem_of_getElem? (i := 14) rfl)) rfl)
theorem lk_X3_59 : hp_LK RX3 59 yX6_begin := Or.inl (hp_mu (tm_2_12 (List.mem_of_getElem? (i := 2) rfl)) rfl)
theorem lk_X6_34 : hp_LK RX6 34 yJ9_min_7cf53 := Or.inl (hp_mu (tm_2_12 (List.mem_of_getElem? (i := 6) rfl)) rfl)
theorem lk_X6_40 : hp_LK RX6 40 yJ9_max_7cf53 := Or.inl (hp_mu (tm_2_12 (List.mem_of_getElem? (i := 9) rfl)) rfl)
theorem lk_X3_63 : hp_LK RX3 63 yX6_advance := Or.inl (hp_mu (tm_2_12 (List.mem_of_getElem? (i := 12) rfl)) rfl)
theorem lk_X6_43 : hp_LK RX6 43 yX6_byteAt := Or.inl (hp_mu (tm_2_13 (List.mem_of_getElem? (i := 0) rfl)) rfl)
theorem lk_X6_47 : hp_LK RX6 47 yX6_isBlank := Or.inl (hp_mu (tm_2_13 (List.mem_of_getElem? (i := 4) rfl)) rfl)
theorem lk_X6_51 : hp_LK RX6 51 yX6_kindOf := Or.inl (hp_mu (tm_2_13 (List.mem_of_getElem? (i := 7) rfl)) rfl)
theorem lk_X11_439 : hp_LK RX11 439 yX3_readModulus := Or.inl (hp_mu (tm_2_13 (List.mem_of_getElem? (i := 10) rfl)) rfl)
theorem lk_X3_71 : hp_LK RX3 71 yX6_spells := Or.inl (hp_mu (tm_2_13 (List.mem_of_getElem? (i := 15) rfl)) rfl)
theorem lk_X6_54 : hp_LK RX6 54 yJ0_length_8abf5 := Or.inl (hp_mu (tm_2_14 (List.mem_of_getElem? (i := 3) rfl)) rfl)
theorem lk_J0_335 : hp_LK RJ0 335 yJ0_coder_7d493 := Or.inl (hp_mu (tm_2_14 (List.mem_of_getElem? (i := 7) rfl)) rfl)
theorem lk_X6_59 : hp_LK RX6 59 yJ0_charAt_5068e := Or.inl (hp_mu (tm_2_14 (List.mem_of_getElem? (i := 13) rfl)) rfl)
theorem lk_J0_492 : hp_LK RJ0 492 yJ0_isLatin1_aae02 := Or.inl (hp_mu (tb_3 (List.mem_of_getElem? (i := 1) rfl)) rfl)
theorem lk_J0_495 : hp_LK RJ0 495 yJ1_charAt_3b067 := Or.inl (hp_mu (tb_3 (List.mem_of_getElem? (i := 5) rfl)) rfl)
theorem lk_J1_9 : hp_LK RJ1 9 yJ0_checkIndex_df160 := Or.inl (hp_mu (tb_3 (List.mem_of_getElem? (i := 8) rfl)) rfl)
theorem lk_J0_1059 : hp_LK RJ0 1059 yJ3_checkIndex_8e157 := Or.inl (hp_mu (tb_3 (List.mem_of_getElem? (i := 13) rfl)) rfl)
theorem lk_X3_75 : hp_LK RX3 75 yX3_readNumber := Or.inl (hp_mu (tm_3_2 (List.mem_of_getElem? (i := 3) rfl)) rfl)
theorem lk_X3_117 : hp_LK RX3 117 yX3_stray := Or.inl (hp_mu (tm_3_2 (List.mem_of_getElem? (i := 7) rfl)) rfl)
theorem lk_X3_145 : hp_LK RX3 145 yX3_fail := Or.inl (hp_mu (tm_3_2 (List.mem_of_getElem? (i := 11) rfl)) rfl)
theorem lk_X3_79 : hp_LK RX3 79 yX3_readSign := Or.inl (hp_mu (tm_3_2 (List.mem_of_getElem? (i := 15) rfl)) rfl)
theorem lk_X11_443 : hp_LK RX11 443 yX3_isAtEnd := Or.inl (hp_mu (tm_3_3 (List.mem_of_getElem? (i := 3) rfl)) rfl)
theorem lk_X11_163 : hp_LK RX11 163 yX10_logAt := Or.inl (hp_mu (tm_3_3 (List.mem_of_getElem? (i := 7) rfl)) rfl)
theorem lk_X11_447 : hp_LK RX11 447 yX3_readLine := Or.inl (hp_mu (tm_3_3 (List.mem_of_getElem? (i := 8) rfl)) rfl)
theorem lk_X3_88 : hp_LK RX3 88 yX3_readAdd := Or.inl (hp_mu (tm_3_3 (List.mem_of_getElem? (i := 13) rfl)) rfl)
theorem lk_X3_99 : hp_LK RX3 99 yX3_hasRoom := Or.inl (hp_mu (tm_3_4 (List.mem_of_getElem? (i := 1) rfl)) rfl)
theorem lk_X3_141 : hp_LK RX3 141 yX9_clear := Or.inl (hp_mu (tm_3_4 (List.mem_of_getElem? (i := 5) rfl)) rfl)
theorem lk_X3_149 : hp_LK RX3 149 yX6_copyWord := Or.inl (hp_mu (tm_3_4 (List.mem_of_getElem? (i := 9) rfl)) rfl)
theorem lk_X6_63 : hp_LK RX6 63 yX9_clear := Or.inl (hp_mu (tm_3_4 (List.mem_of_getElem? (i := 13) rfl)) rfl)
theorem lk_X6_68 : hp_LK RX6 68 yX9_put := Or.inl (hp_mu (tm_3_4 (List.mem_of_getElem? (i := 14) rfl)) rfl)
theorem lk_X3_114 : hp_LK RX3 114 yX3_readShow := Or.inl (hp_mu (tm_3_5 (List.mem_of_getElem? (i := 6) rfl)) rfl)
theorem lk_X11_237 : hp_LK RX11 237 yX10_addWord := Or.inl (hp_mu (tm_3_5 (List.mem_of_getElem? (i := 10) rfl)) rfl)
theorem lk_X10_120 : hp_LK RX10 120 yX2_putWord := Or.inl (hp_mu (tm_3_5 (List.mem_of_getElem? (i := 14) rfl)) rfl)
theorem lk_X2_26 : hp_LK RX2 26 yX9_copy := Or.inl (hp_mu (tm_3_6 (List.mem_of_getElem? (i := 2) rfl)) rfl)
theorem lk_X9_19 : hp_LK RX9 19 yX9_clear := Or.inl (hp_mu (tm_3_6 (List.mem_of_getElem? (i := 6) rfl)) rfl)
theorem lk_X9_22 : hp_LK RX9 22 yX9_letterAt := Or.inl (hp_mu (tm_3_6 (List.mem_of_getElem? (i := 7) rfl)) rfl)
theorem lk_X9_26 : hp_LK RX9 26 yX9_put := Or.inl (hp_mu (tm_3_6 (List.mem_of_getElem? (i := 11) rfl)) rfl)
theorem lk_X2_30 : hp_LK RX2 30 yX9_markBy := Or.inl (hp_mu (tm_3_6 (List.mem_of_getElem? (i := 12) rfl)) rfl)
theorem lk_X9_30 : hp_LK RX9 30 yX11_mixed := Or.inr ⟨"ProvenRecord", List.mem_filter.mpr ⟨tm_3_7 (List.mem_of_getElem? (i := 0) rfl), by decide +kernel⟩⟩
theorem lk_X11_241 : hp_LK RX11 241 yX10_forkLog := Or.inl (hp_mu (tm_3_7 (List.mem_of_getElem? (i := 5) rfl)) rfl)
theorem lk_X10_124 : hp_LK RX10 124 yX2_wordAt := Or.inl (hp_mu (tm_3_7 (List.mem_of_getElem? (i := 9) rfl)) rfl)
theorem lk_X11_244 : hp_LK RX11 244 yX10_freezeHead := Or.inl (hp_mu (tm_3_7 (List.mem_of_getElem? (i := 13) rfl)) rfl)
theorem lk_X10_107 : hp_LK RX10 107 yX10_headOf := Or.inl (hp_mu (tm_3_8 (List.mem_of_getElem? (i := 1) rfl)) rfl)
theorem lk_X10_100 : hp_LK RX10 100 yX10_treeMark := Or.inl (hp_mu (tm_3_8 (List.mem_of_getElem? (i := 5) rfl)) rfl)
theorem lk_X10_82 : hp_LK RX10 82 yJ9_min_7cf53 := Or.inl (hp_mu (tm_3_8 (List.mem_of_getElem? (i := 9) rfl)) rfl)
theorem lk_X10_88 : hp_LK RX10 88 yX2_markAt := Or.inl (hp_mu (tm_3_8 (List.mem_of_getElem? (i := 10) rfl)) rfl)
theorem lk_X10_92 : hp_LK RX10 92 yX11_markOfTwo := Or.inr ⟨"ProvenRecord", List.mem_filter.mpr ⟨tm_3_8 (List.mem_of_getElem? (i := 14) rfl), by decide +kernel⟩⟩
theorem lk_X10_143 : hp_LK RX10 143 yX10_peaksOf := Or.inl (hp_mu (tm_3_9 (List.mem_of_getElem? (i := 2) rfl)) rfl)
theorem lk_X10_96 : hp_LK RX10 96 yX5_shorten := Or.inl (hp_mu (tm_3_9 (List.mem_of_getElem? (i := 6) rfl)) rfl)
theorem lk_X10_104 : hp_LK RX10 104 yX5_put := Or.inl (hp_mu (tm_3_9 (List.mem_of_getElem? (i := 10) rfl)) rfl)
theorem lk_X11_220 : hp_LK RX11 220 yX10_watcherAt := Or.inl (hp_mu (tm_3_9 (List.mem_of_getElem? (i := 14) rfl)) rfl)
theorem lk_X11_247 : hp_LK RX11 247 yX10_showTo := Or.inl (hp_mu (tm_3_9 (List.mem_of_getElem? (i := 15) rfl)) rfl)
theorem lk_X10_167 : hp_LK RX10 167 yX10_whyGrown := Or.inl (hp_mu (tm_3_10 (List.mem_of_getElem? (i := 3) rfl)) rfl)
theorem lk_X10_151 : hp_LK RX10 151 yX8_toGrowth := Or.inl (hp_mu (tm_3_10 (List.mem_of_getElem? (i := 7) rfl)) rfl)
theorem lk_X8_30 : hp_LK RX8 30 yX8_clear := Or.inl (hp_mu (tm_3_10 (List.mem_of_getElem? (i := 11) rfl)) rfl)
theorem lk_X8_33 : hp_LK RX8 33 yX11_firstPartOf := Or.inr ⟨"ProvenRecord", List.mem_filter.mpr ⟨tm_3_10 (List.mem_of_getElem? (i := 15) rfl), by decide +kernel⟩⟩
theorem lk_X11_463 : hp_LK RX11 463 yJ6_highestOneBit_0f7a4 := Or.inl (hp_mu (tm_3_11 (List.mem_of_getElem? (i := 2) rfl)) rfl)
theorem lk_J6_51 : hp_LK RJ6 51 yJ6_numberOfLeadingZeros_0f7a4 := Or.inl (hp_mu (tm_3_11 (List.mem_of_getElem? (i := 6) rfl)) rfl)
theorem lk_X8_37 : hp_LK RX8 37 yX8_put := Or.inl (hp_mu (tm_3_11 (List.mem_of_getElem? (i := 10) rfl)) rfl)
theorem lk_X8_41 : hp_LK RX8 41 yX8_turnRound := Or.inl (hp_mu (tm_3_11 (List.mem_of_getElem? (i := 14) rfl)) rfl)
theorem lk_X10_155 : hp_LK RX10 155 yX10_marksAlong := Or.inl (hp_mu (tm_3_12 (List.mem_of_getElem? (i := 2) rfl)) rfl)
theorem lk_X10_114 : hp_LK RX10 114 yX8_firstAt := Or.inl (hp_mu (tm_3_12 (List.mem_of_getElem? (i := 6) rfl)) rfl)
theorem lk_X10_117 : hp_LK RX10 117 yX8_manyAt := Or.inl (hp_mu (tm_3_12 (List.mem_of_getElem? (i := 10) rfl)) rfl)
theorem lk_X10_159 : hp_LK RX10 159 yX8_whyGrowth := Or.inl (hp_mu (tm_3_12 (List.mem_of_getElem? (i := 14) rfl)) rfl)
theorem lk_X8_79 : hp_LK RX8 79 yX8_toGrowth := Or.inl (hp_mu (tm_3_13 (List.mem_of_getElem? (i := 2) rfl)) rfl)
theorem lk_X8_65 : hp_LK RX8 65 yX5_at := Or.inl (hp_mu (tm_3_13 (List.mem_of_getElem? (i := 3) rfl)) rfl)
theorem lk_X8_70 : hp_LK RX8 70 yX8_joined := Or.inl (hp_mu (tm_3_13 (List.mem_of_getElem? (i := 7) rfl)) rfl)
theorem lk_X8_58 : hp_LK RX8 58 yX8_isAhead := Or.inl (hp_mu (tm_3_13 (List.mem_of_getElem? (i := 11) rfl)) rfl)
theorem lk_X8_62 : hp_LK RX8 62 yX11_markOfTwo := Or.inr ⟨"ProvenRecord", List.mem_filter.mpr ⟨tm_3_13 (List.mem_of_getElem? (i := 15) rfl), by decide +kernel⟩⟩
theorem lk_X10_171 : hp_LK RX10 171 yX7_trust := Or.inl (hp_mu (tm_3_14 (List.mem_of_getElem? (i := 0) rfl)) rfl)
theorem lk_X10_174 : hp_LK RX10 174 yX7_hearWhy := Or.inl (hp_mu (tm_3_14 (List.mem_of_getElem? (i := 1) rfl)) rfl)
theorem lk_X11_109 : hp_LK RX11 109 yX5_shorten := Or.inl (hp_mu (tm_3_14 (List.mem_of_getElem? (i := 5) rfl)) rfl)
theorem lk_X11_115 : hp_LK RX11 115 yX11_answer := Or.inl (hp_mu (tm_3_14 (List.mem_of_getElem? (i := 6) rfl)) rfl)
theorem lk_L_28 : hp_LK RL 28 yX11_hear := Or.inl (hp_mu (tm_3_14 (List.mem_of_getElem? (i := 10) rfl)) rfl)
theorem lk_X11_125 : hp_LK RX11 125 yX3_readProofs := Or.inl (hp_mu (tm_3_14 (List.mem_of_getElem? (i := 14) rfl)) rfl)
theorem lk_X3_120 : hp_LK RX3 120 yX5_shorten := Or.inl (hp_mu (tb_4 (List.mem_of_getElem? (i := 2) rfl)) rfl)
theorem lk_X3_124 : hp_LK RX3 124 yX3_isAtEnd := Or.inl (hp_mu (tb_4 (List.mem_of_getElem? (i := 3) rfl)) rfl)
theorem lk_X3_134 : hp_LK RX3 134 yX3_readInclusion := Or.inl (hp_mu (tb_4 (List.mem_of_getElem? (i := 6) rfl)) rfl)
theorem lk_X3_158 : hp_LK RX3 158 yX3_readWord := Or.inl (hp_mu (tb_4 (List.mem_of_getElem? (i := 12) rfl)) rfl)
theorem lk_X3_163 : hp_LK RX3 163 yX3_readMark := Or.inl (hp_mu (tm_4_1 (List.mem_of_getElem? (i := 1) rfl)) rfl)
theorem lk_X3_168 : hp_LK RX3 168 yX3_readRow := Or.inl (hp_mu (tm_4_1 (List.mem_of_getElem? (i := 6) rfl)) rfl)
theorem lk_X3_179 : hp_LK RX3 179 yX5_put := Or.inl (hp_mu (tm_4_1 (List.mem_of_getElem? (i := 11) rfl)) rfl)
theorem lk_X3_171 : hp_LK RX3 171 yX8_toThing := Or.inl (hp_mu (tm_4_1 (List.mem_of_getElem? (i := 12) rfl)) rfl)
theorem lk_X3_175 : hp_LK RX3 175 yX8_whyInclusion := Or.inl (hp_mu (tm_4_2 (List.mem_of_getElem? (i := 0) rfl)) rfl)
theorem lk_X8_75 : hp_LK RX8 75 yX8_folded := Or.inl (hp_mu (tm_4_2 (List.mem_of_getElem? (i := 4) rfl)) rfl)
theorem lk_X3_138 : hp_LK RX3 138 yX3_readGrowth := Or.inl (hp_mu (tm_4_2 (List.mem_of_getElem? (i := 8) rfl)) rfl)
theorem lk_X3_182 : hp_LK RX3 182 yX8_whyGrowth := Or.inl (hp_mu (tm_4_2 (List.mem_of_getElem? (i := 12) rfl)) rfl)
theorem lk_X11_129 : hp_LK RX11 129 yX5_countOf := Or.inl (hp_mu (tm_4_2 (List.mem_of_getElem? (i := 13) rfl)) rfl)
theorem lk_X5_19 : hp_LK RX5 19 yX5_at := Or.inl (hp_mu (tm_4_3 (List.mem_of_getElem? (i := 1) rfl)) rfl)
theorem lk_L_32 : hp_LK RL 32 yX11_heard := Or.inl (hp_mu (tm_4_3 (List.mem_of_getElem? (i := 2) rfl)) rfl)
theorem lk_X11_135 : hp_LK RX11 135 yX5_at := Or.inl (hp_mu (tm_4_3 (List.mem_of_getElem? (i := 6) rfl)) rfl)
theorem lk_L_36 : hp_LK RL 36 yX11_fault := Or.inl (hp_mu (tm_4_3 (List.mem_of_getElem? (i := 7) rfl)) rfl)
theorem lk_L_40 : hp_LK RL 40 yX11_type := Or.inl (hp_mu (tm_4_3 (List.mem_of_getElem? (i := 11) rfl)) rfl)
theorem lk_X11_144 : hp_LK RX11 144 yX9_clear := Or.inl (hp_mu (tm_4_3 (List.mem_of_getElem? (i := 15) rfl)) rfl)
theorem lk_X11_147 : hp_LK RX11 147 yX9_put := Or.inl (hp_mu (tm_4_4 (List.mem_of_getElem? (i := 0) rfl)) rfl)
theorem lk_L_45 : hp_LK RL 45 yX11_many := Or.inl (hp_mu (tm_4_4 (List.mem_of_getElem? (i := 1) rfl)) rfl)
theorem lk_X11_159 : hp_LK RX11 159 yX10_alarmedBits := Or.inl (hp_mu (tm_4_4 (List.mem_of_getElem? (i := 5) rfl)) rfl)
theorem lk_L_49 : hp_LK RL 49 yX11_size := Or.inl (hp_mu (tm_4_4 (List.mem_of_getElem? (i := 9) rfl)) rfl)
theorem lk_L_53 : hp_LK RL 53 yX11_entry := Or.inl (hp_mu (tm_4_4 (List.mem_of_getElem? (i := 13) rfl)) rfl)
theorem lk_X11_170 : hp_LK RX11 170 yX2_wordAt := Or.inl (hp_mu (tm_4_5 (List.mem_of_getElem? (i := 1) rfl)) rfl)
theorem lk_X11_174 : hp_LK RX11 174 yX2_markAt := Or.inl (hp_mu (tm_4_5 (List.mem_of_getElem? (i := 2) rfl)) rfl)
theorem lk_X11_177 : hp_LK RX11 177 yX9_letterAt := Or.inl (hp_mu (tm_4_5 (List.mem_of_getElem? (i := 3) rfl)) rfl)
theorem lk_L_58 : hp_LK RL 58 yX11_head := Or.inl (hp_mu (tm_4_5 (List.mem_of_getElem? (i := 4) rfl)) rfl)
theorem lk_X11_180 : hp_LK RX11 180 yX11_wrongGrowth := Or.inl (hp_mu (tm_4_5 (List.mem_of_getElem? (i := 8) rfl)) rfl)
theorem lk_X11_184 : hp_LK RX11 184 yX10_headOf := Or.inl (hp_mu (tm_4_5 (List.mem_of_getElem? (i := 11) rfl)) rfl)
theorem lk_L_62 : hp_LK RL 62 yX11_join := Or.inl (hp_mu (tm_4_5 (List.mem_of_getElem? (i := 12) rfl)) rfl)
theorem lk_X11_188 : hp_LK RX11 188 yX11_isMark := Or.inl (hp_mu (tm_4_6 (List.mem_of_getElem? (i := 0) rfl)) rfl)
theorem lk_X11_191 : hp_LK RX11 191 yX11_markOfTwo := Or.inl (hp_mu (tm_4_6 (List.mem_of_getElem? (i := 4) rfl)) rfl)
theorem lk_L_66 : hp_LK RL 66 yX11_mark := Or.inl (hp_mu (tm_4_6 (List.mem_of_getElem? (i := 5) rfl)) rfl)
theorem lk_X11_195 : hp_LK RX11 195 yX9_markBy := Or.inl (hp_mu (tm_4_6 (List.mem_of_getElem? (i := 9) rfl)) rfl)
theorem lk_L_70 : hp_LK RL 70 yX11_frozen := Or.inl (hp_mu (tm_4_6 (List.mem_of_getElem? (i := 10) rfl)) rfl)
theorem lk_X11_198 : hp_LK RX11 198 yX10_frozenAt := Or.inl (hp_mu (tm_4_6 (List.mem_of_getElem? (i := 14) rfl)) rfl)
theorem lk_X11_216 : hp_LK RX11 216 yX10_isSound := Or.inl (hp_mu (tm_4_7 (List.mem_of_getElem? (i := 2) rfl)) rfl)
theorem lk_X10_180 : hp_LK RX10 180 yX10_hasHead := Or.inl (hp_mu (tm_4_7 (List.mem_of_getElem? (i := 6) rfl)) rfl)
theorem lk_L_74 : hp_LK RL 74 yX11_watcher := Or.inl (hp_mu (tm_4_7 (List.mem_of_getElem? (i := 10) rfl)) rfl)
theorem lk_L_78 : hp_LK RL 78 yX11_add := Or.inl (hp_mu (tm_4_7 (List.mem_of_getElem? (i := 14) rfl)) rfl)
theorem lk_L_82 : hp_LK RL 82 yX11_fork := Or.inl (hp_mu (tm_4_8 (List.mem_of_getElem? (i := 2) rfl)) rfl)
theorem lk_L_86 : hp_LK RL 86 yX11_freeze := Or.inl (hp_mu (tm_4_8 (List.mem_of_getElem? (i := 6) rfl)) rfl)
theorem lk_L_90 : hp_LK RL 90 yX11_show := Or.inl (hp_mu (tm_4_8 (List.mem_of_getElem? (i := 10) rfl)) rfl)
theorem lk_L_94 : hp_LK RL 94 yX11_meet := Or.inl (hp_mu (tm_4_8 (List.mem_of_getElem? (i := 14) rfl)) rfl)
theorem lk_X11_251 : hp_LK RX11 251 yX10_meetBy := Or.inl (hp_mu (tm_4_9 (List.mem_of_getElem? (i := 2) rfl)) rfl)
theorem lk_L_98 : hp_LK RL 98 yX11_spoil := Or.inl (hp_mu (tm_4_9 (List.mem_of_getElem? (i := 6) rfl)) rfl)
theorem lk_X11_255 : hp_LK RX11 255 yX10_spoilLetter := Or.inl (hp_mu (tm_4_9 (List.mem_of_getElem? (i := 10) rfl)) rfl)
theorem lk_X10_147 : hp_LK RX10 147 yX2_changeLetter := Or.inl (hp_mu (tm_4_9 (List.mem_of_getElem? (i := 14) rfl)) rfl)
theorem lk_X2_34 : hp_LK RX2 34 yX2_wordAt := Or.inl (hp_mu (tm_4_10 (List.mem_of_getElem? (i := 2) rfl)) rfl)
theorem lk_X2_38 : hp_LK RX2 38 yX9_change := Or.inl (hp_mu (tm_4_10 (List.mem_of_getElem? (i := 3) rfl)) rfl)
theorem lk_L_103 : hp_LK RL 103 yX11_push := Or.inl (hp_mu (tm_4_10 (List.mem_of_getElem? (i := 7) rfl)) rfl)
theorem lk_X11_259 : hp_LK RX11 259 yX5_put := Or.inl (hp_mu (tm_4_10 (List.mem_of_getElem? (i := 11) rfl)) rfl)
theorem lk_L_107 : hp_LK RL 107 yX11_poke := Or.inl (hp_mu (tm_4_10 (List.mem_of_getElem? (i := 12) rfl)) rfl)
theorem lk_X11_260 : hp_LK RX11 260 yX5_change := Or.inl (hp_mu (tm_4_11 (List.mem_of_getElem? (i := 0) rfl)) rfl)
theorem lk_L_111 : hp_LK RL 111 yX11_pad := Or.inl (hp_mu (tm_4_11 (List.mem_of_getElem? (i := 4) rfl)) rfl)
theorem lk_L_115 : hp_LK RL 115 yX11_cut := Or.inl (hp_mu (tm_4_11 (List.mem_of_getElem? (i := 8) rfl)) rfl)
theorem lk_L_119 : hp_LK RL 119 yX11_include := Or.inl (hp_mu (tm_4_11 (List.mem_of_getElem? (i := 12) rfl)) rfl)
theorem lk_X11_264 : hp_LK RX11 264 yX11_wrongInclusion := Or.inl (hp_mu (tm_4_12 (List.mem_of_getElem? (i := 0) rfl)) rfl)
theorem lk_X11_267 : hp_LK RX11 267 yX8_toThing := Or.inl (hp_mu (tm_4_12 (List.mem_of_getElem? (i := 3) rfl)) rfl)
theorem lk_X11_270 : hp_LK RX11 270 yX10_marksAlong := Or.inl (hp_mu (tm_4_12 (List.mem_of_getElem? (i := 4) rfl)) rfl)
theorem lk_L_123 : hp_LK RL 123 yX11_grow := Or.inl (hp_mu (tm_4_12 (List.mem_of_getElem? (i := 5) rfl)) rfl)
theorem lk_X11_274 : hp_LK RX11 274 yX8_toGrowth := Or.inl (hp_mu (tm_4_12 (List.mem_of_getElem? (i := 9) rfl)) rfl)
theorem lk_L_127 : hp_LK RL 127 yX11_bundle := Or.inl (hp_mu (tm_4_12 (List.mem_of_getElem? (i := 10) rfl)) rfl)
theorem lk_X11_277 : hp_LK RX11 277 yX11_isSet := Or.inl (hp_mu (tm_4_12 (List.mem_of_getElem? (i := 14) rfl)) rfl)
theorem lk_X11_280 : hp_LK RX11 280 yX11_lieBelow := Or.inl (hp_mu (tm_4_13 (List.mem_of_getElem? (i := 1) rfl)) rfl)
theorem lk_X11_466 : hp_LK RX11 466 yJ9_min_7cf53 := Or.inl (hp_mu (tm_4_13 (List.mem_of_getElem? (i := 4) rfl)) rfl)
theorem lk_X11_471 : hp_LK RX11 471 yJ9_max_7cf53 := Or.inl (hp_mu (tm_4_13 (List.mem_of_getElem? (i := 5) rfl)) rfl)
theorem lk_X11_284 : hp_LK RX11 284 yX8_toBundle := Or.inl (hp_mu (tm_4_13 (List.mem_of_getElem? (i := 6) rfl)) rfl)
theorem lk_X8_44 : hp_LK RX8 44 yX11_hasOneOf := Or.inr ⟨"ProvenRecord", List.mem_filter.mpr ⟨tm_4_13 (List.mem_of_getElem? (i := 10) rfl), by decide +kernel⟩⟩
theorem lk_X8_48 : hp_LK RX8 48 yX8_putGreatestWithout := Or.inl (hp_mu (tm_4_13 (List.mem_of_getElem? (i := 13) rfl)) rfl)
theorem lk_L_131 : hp_LK RL 131 yX11_peaks := Or.inl (hp_mu (tm_4_14 (List.mem_of_getElem? (i := 1) rfl)) rfl)
theorem lk_X11_287 : hp_LK RX11 287 yX10_peaksOf := Or.inl (hp_mu (tm_4_14 (List.mem_of_getElem? (i := 5) rfl)) rfl)
theorem lk_L_135 : hp_LK RL 135 yX11_extend := Or.inl (hp_mu (tm_4_14 (List.mem_of_getElem? (i := 6) rfl)) rfl)
theorem lk_X11_292 : hp_LK RX11 292 yJ6_bitCount_0f7a4 := Or.inl (hp_mu (tm_4_14 (List.mem_of_getElem? (i := 11) rfl)) rfl)
theorem lk_X11_297 : hp_LK RX11 297 yX5_putPeak := Or.inl (hp_mu (tb_5 (List.mem_of_getElem? (i := 1) rfl)) rfl)
theorem lk_X5_23 : hp_LK RX5 23 yX11_markOfTwo := Or.inr ⟨"ProvenRecord", List.mem_filter.mpr ⟨tb_5 (List.mem_of_getElem? (i := 5) rfl), by decide +kernel⟩⟩
theorem lk_X5_27 : hp_LK RX5 27 yX5_shorten := Or.inl (hp_mu (tb_5 (List.mem_of_getElem? (i := 6) rfl)) rfl)
theorem lk_X5_31 : hp_LK RX5 31 yX5_put := Or.inl (hp_mu (tb_5 (List.mem_of_getElem? (i := 7) rfl)) rfl)
theorem lk_L_139 : hp_LK RL 139 yX11_checks := Or.inl (hp_mu (tb_5 (List.mem_of_getElem? (i := 8) rfl)) rfl)
theorem lk_X11_301 : hp_LK RX11 301 yX11_isThing := Or.inl (hp_mu (tb_5 (List.mem_of_getElem? (i := 12) rfl)) rfl)
theorem lk_X11_304 : hp_LK RX11 304 yX8_whyInclusion := Or.inl (hp_mu (tb_5 (List.mem_of_getElem? (i := 15) rfl)) rfl)
theorem lk_L_143 : hp_LK RL 143 yX11_growth := Or.inl (hp_mu (tm_5_1 (List.mem_of_getElem? (i := 0) rfl)) rfl)
theorem lk_X11_308 : hp_LK RX11 308 yX8_whyGrowth := Or.inl (hp_mu (tm_5_1 (List.mem_of_getElem? (i := 4) rfl)) rfl)
theorem lk_L_147 : hp_LK RL 147 yX11_bundled := Or.inl (hp_mu (tm_5_1 (List.mem_of_getElem? (i := 5) rfl)) rfl)
theorem lk_X11_313 : hp_LK RX11 313 yX0_why := Or.inl (hp_mu (tm_5_1 (List.mem_of_getElem? (i := 9) rfl)) rfl)
theorem lk_X0_31 : hp_LK RX0 31 yJ6_bitCount_0f7a4 := Or.inl (hp_mu (tm_5_1 (List.mem_of_getElem? (i := 13) rfl)) rfl)
theorem lk_X0_40 : hp_LK RX0 40 yX0_foldedTree := Or.inl (hp_mu (tm_5_1 (List.mem_of_getElem? (i := 14) rfl)) rfl)
theorem lk_X0_44 : hp_LK RX0 44 yX11_hasOneOf := Or.inr ⟨"ProvenRecord", List.mem_filter.mpr ⟨tm_5_2 (List.mem_of_getElem? (i := 1) rfl), by decide +kernel⟩⟩
theorem lk_X0_48 : hp_LK RX0 48 yX5_at := Or.inl (hp_mu (tm_5_2 (List.mem_of_getElem? (i := 2) rfl)) rfl)
theorem lk_X0_51 : hp_LK RX0 51 yX11_firstPartOf := Or.inr ⟨"ProvenRecord", List.mem_filter.mpr ⟨tm_5_2 (List.mem_of_getElem? (i := 3) rfl), by decide +kernel⟩⟩
theorem lk_X0_54 : hp_LK RX0 54 yX11_markOfTwo := Or.inr ⟨"ProvenRecord", List.mem_filter.mpr ⟨tm_5_2 (List.mem_of_getElem? (i := 4) rfl), by decide +kernel⟩⟩
theorem lk_L_151 : hp_LK RL 151 yX11_fold := Or.inl (hp_mu (tm_5_2 (List.mem_of_getElem? (i := 5) rfl)) rfl)
theorem lk_X11_316 : hp_LK RX11 316 yX5_foldedPeaks := Or.inl (hp_mu (tm_5_2 (List.mem_of_getElem? (i := 9) rfl)) rfl)
theorem lk_L_155 : hp_LK RL 155 yX11_steps := Or.inl (hp_mu (tm_5_2 (List.mem_of_getElem? (i := 13) rfl)) rfl)
theorem lk_L_159 : hp_LK RL 159 yX11_climbs := Or.inl (hp_mu (tm_5_3 (List.mem_of_getElem? (i := 1) rfl)) rfl)
theorem lk_L_163 : hp_LK RL 163 yX11_agree := Or.inl (hp_mu (tm_5_3 (List.mem_of_getElem? (i := 5) rfl)) rfl)
theorem lk_X11_319 : hp_LK RX11 319 yX10_doAgree := Or.inl (hp_mu (tm_5_3 (List.mem_of_getElem? (i := 9) rfl)) rfl)
theorem lk_L_167 : hp_LK RL 167 yX11_where := Or.inl (hp_mu (tm_5_3 (List.mem_of_getElem? (i := 13) rfl)) rfl)
theorem lk_X11_323 : hp_LK RX11 323 yX2_countLike := Or.inl (hp_mu (tm_5_4 (List.mem_of_getElem? (i := 1) rfl)) rfl)
theorem lk_X2_42 : hp_LK RX2 42 yX9_isLike := Or.inl (hp_mu (tm_5_4 (List.mem_of_getElem? (i := 5) rfl)) rfl)
theorem lk_X11_327 : hp_LK RX11 327 yX2_firstLike := Or.inl (hp_mu (tm_5_4 (List.mem_of_getElem? (i := 9) rfl)) rfl)
theorem lk_L_171 : hp_LK RL 171 yX11_tree := Or.inl (hp_mu (tm_5_4 (List.mem_of_getElem? (i := 13) rfl)) rfl)
theorem lk_X11_330 : hp_LK RX11 330 yX8_toTree := Or.inl (hp_mu (tm_5_5 (List.mem_of_getElem? (i := 1) rfl)) rfl)
theorem lk_X11_333 : hp_LK RX11 333 yX8_firstAt := Or.inl (hp_mu (tm_5_5 (List.mem_of_getElem? (i := 5) rfl)) rfl)
theorem lk_X11_336 : hp_LK RX11 336 yX8_manyAt := Or.inl (hp_mu (tm_5_5 (List.mem_of_getElem? (i := 6) rfl)) rfl)
theorem lk_X11_339 : hp_LK RX11 339 yX10_treeMark := Or.inl (hp_mu (tm_5_5 (List.mem_of_getElem? (i := 7) rfl)) rfl)
theorem lk_L_175 : hp_LK RL 175 yX11_proves := Or.inl (hp_mu (tm_5_5 (List.mem_of_getElem? (i := 8) rfl)) rfl)
theorem lk_X11_342 : hp_LK RX11 342 yX10_whyGrown := Or.inl (hp_mu (tm_5_5 (List.mem_of_getElem? (i := 12) rfl)) rfl)
theorem lk_L_179 : hp_LK RL 179 yX11_longest := Or.inl (hp_mu (tm_5_5 (List.mem_of_getElem? (i := 13) rfl)) rfl)
theorem lk_L_183 : hp_LK RL 183 yX11_part := Or.inl (hp_mu (tm_5_6 (List.mem_of_getElem? (i := 1) rfl)) rfl)
theorem lk_X11_346 : hp_LK RX11 346 yX10_partingEntry := Or.inl (hp_mu (tm_5_6 (List.mem_of_getElem? (i := 5) rfl)) rfl)
theorem lk_X10_199 : hp_LK RX10 199 yX10_partingTrees := Or.inl (hp_mu (tm_5_6 (List.mem_of_getElem? (i := 9) rfl)) rfl)
theorem lk_X10_203 : hp_LK RX10 203 yX11_firstPartOf := Or.inr ⟨"ProvenRecord", List.mem_filter.mpr ⟨tm_5_6 (List.mem_of_getElem? (i := 13) rfl), by decide +kernel⟩⟩
theorem lk_X11_350 : hp_LK RX11 350 yX10_partingCompared := Or.inl (hp_mu (tm_5_6 (List.mem_of_getElem? (i := 14) rfl)) rfl)
theorem lk_L_187 : hp_LK RL 187 yX11_blame := Or.inl (hp_mu (tm_5_7 (List.mem_of_getElem? (i := 2) rfl)) rfl)
theorem lk_X11_353 : hp_LK RX11 353 yX10_countUnsound := Or.inl (hp_mu (tm_5_7 (List.mem_of_getElem? (i := 6) rfl)) rfl)
theorem lk_X10_188 : hp_LK RX10 188 yX10_frozenAt := Or.inl (hp_mu (tm_5_7 (List.mem_of_getElem? (i := 10) rfl)) rfl)
theorem lk_X10_192 : hp_LK RX10 192 yX10_isSound := Or.inl (hp_mu (tm_5_7 (List.mem_of_getElem? (i := 11) rfl)) rfl)
theorem lk_X11_356 : hp_LK RX11 356 yX10_leastUnsound := Or.inl (hp_mu (tm_5_7 (List.mem_of_getElem? (i := 12) rfl)) rfl)
theorem lk_X11_359 : hp_LK RX11 359 yX10_greatestSoundBelow := Or.inl (hp_mu (tm_5_8 (List.mem_of_getElem? (i := 0) rfl)) rfl)
theorem lk_X10_196 : hp_LK RX10 196 yJ9_max_7cf53 := Or.inl (hp_mu (tm_5_8 (List.mem_of_getElem? (i := 4) rfl)) rfl)
theorem lk_L_191 : hp_LK RL 191 yX11_weak := Or.inl (hp_mu (tm_5_8 (List.mem_of_getElem? (i := 5) rfl)) rfl)
theorem lk_X11_363 : hp_LK RX11 363 yX11_preparedRoots := Or.inl (hp_mu (tm_5_8 (List.mem_of_getElem? (i := 9) rfl)) rfl)
theorem lk_X11_474 : hp_LK RX11 474 yX4_init := Or.inr ⟨"ProvenRecord", List.mem_filter.mpr ⟨tm_5_8 (List.mem_of_getElem? (i := 15) rfl), by decide +kernel⟩⟩
theorem lk_X4_25 : hp_LK RX4 25 yX8_init := Or.inr ⟨"ProvenRecord", List.mem_filter.mpr ⟨tm_5_9 (List.mem_of_getElem? (i := 5) rfl), by decide +kernel⟩⟩
theorem lk_X4_32 : hp_LK RX4 32 yX5_init := Or.inr ⟨"ProvenRecord", List.mem_filter.mpr ⟨tm_5_9 (List.mem_of_getElem? (i := 7) rfl), by decide +kernel⟩⟩
theorem lk_X11_475 : hp_LK RX11 475 yX4_prepare := Or.inl (hp_mu (tm_5_11 (List.mem_of_getElem? (i := 12) rfl)) rfl)
theorem lk_X11_367 : hp_LK RX11 367 yX4_seekThing := Or.inl (hp_mu (tm_5_12 (List.mem_of_getElem? (i := 1) rfl)) rfl)
theorem lk_X4_57 : hp_LK RX4 57 yX4_seek := Or.inl (hp_mu (tm_5_12 (List.mem_of_getElem? (i := 5) rfl)) rfl)
theorem lk_X4_64 : hp_LK RX4 64 yX4_goBack := Or.inl (hp_mu (tm_5_12 (List.mem_of_getElem? (i := 9) rfl)) rfl)
theorem lk_X4_68 : hp_LK RX4 68 yX4_take := Or.inl (hp_mu (tm_5_12 (List.mem_of_getElem? (i := 12) rfl)) rfl)
theorem lk_X4_89 : hp_LK RX4 89 yJ9_min_7cf53 := Or.inl (hp_mu (tm_5_13 (List.mem_of_getElem? (i := 0) rfl)) rfl)
theorem lk_X4_71 : hp_LK RX4 71 yX5_at := Or.inl (hp_mu (tm_5_13 (List.mem_of_getElem? (i := 1) rfl)) rfl)
theorem lk_X4_75 : hp_LK RX4 75 yX8_isAhead := Or.inl (hp_mu (tm_5_13 (List.mem_of_getElem? (i := 2) rfl)) rfl)
theorem lk_X4_79 : hp_LK RX4 79 yX4_secondOf := Or.inl (hp_mu (tm_5_13 (List.mem_of_getElem? (i := 3) rfl)) rfl)
theorem lk_X4_94 : hp_LK RX4 94 yX11_markOfTwo := Or.inr ⟨"ProvenRecord", List.mem_filter.mpr ⟨tm_5_13 (List.mem_of_getElem? (i := 7) rfl), by decide +kernel⟩⟩
theorem lk_X4_98 : hp_LK RX4 98 yX4_restOf := Or.inl (hp_mu (tm_5_13 (List.mem_of_getElem? (i := 8) rfl)) rfl)
theorem lk_X4_104 : hp_LK RX4 104 yJ9_floorMod_f86c9 := Or.inl (hp_mu (tm_5_13 (List.mem_of_getElem? (i := 12) rfl)) rfl)
theorem lk_X4_83 : hp_LK RX4 83 yX4_leastRoot := Or.inl (hp_mu (tm_5_13 (List.mem_of_getElem? (i := 15) rfl)) rfl)
theorem lk_X4_86 : hp_LK RX4 86 yX4_firstOf := Or.inl (hp_mu (tm_5_14 (List.mem_of_getElem? (i := 3) rfl)) rfl)
theorem lk_L_195 : hp_LK RL 195 yX11_clash := Or.inl (hp_mu (tm_5_14 (List.mem_of_getElem? (i := 8) rfl)) rfl)
theorem lk_X11_379 : hp_LK RX11 379 yX11_clashingStep := Or.inl (hp_mu (tm_5_14 (List.mem_of_getElem? (i := 12) rfl)) rfl)
theorem lk_X11_478 : hp_LK RX11 478 yX8_joined := Or.inl (hp_mu (tb_6 (List.mem_of_getElem? (i := 0) rfl)) rfl)
theorem lk_X11_382 : hp_LK RX11 382 yX8_folded := Or.inl (hp_mu (tb_6 (List.mem_of_getElem? (i := 1) rfl)) rfl)
theorem lk_X11_385 : hp_LK RX11 385 yX8_isAhead := Or.inl (hp_mu (tb_6 (List.mem_of_getElem? (i := 2) rfl)) rfl)
theorem lk_L_199 : hp_LK RL 199 yX11_forge := Or.inl (hp_mu (tb_6 (List.mem_of_getElem? (i := 3) rfl)) rfl)
theorem lk_X11_388 : hp_LK RX11 388 yX4_seekStep := Or.inl (hp_mu (tb_6 (List.mem_of_getElem? (i := 7) rfl)) rfl)
theorem lk_L_203 : hp_LK RL 203 yX11_trace := Or.inl (hp_mu (tb_6 (List.mem_of_getElem? (i := 11) rfl)) rfl)
theorem lk_L_207 : hp_LK RL 207 yX11_span := Or.inl (hp_mu (tb_6 (List.mem_of_getElem? (i := 15) rfl)) rfl)
theorem lk_X11_392 : hp_LK RX11 392 yX11_treeOfWay := Or.inl (hp_mu (tm_6_1 (List.mem_of_getElem? (i := 3) rfl)) rfl)
theorem lk_L_211 : hp_LK RL 211 yX11_rise := Or.inl (hp_mu (tm_6_1 (List.mem_of_getElem? (i := 7) rfl)) rfl)
theorem lk_L_215 : hp_LK RL 215 yX11_kept := Or.inl (hp_mu (tm_6_1 (List.mem_of_getElem? (i := 11) rfl)) rfl)
theorem lk_X11_395 : hp_LK RX11 395 yX8_countShared := Or.inl (hp_mu (tm_6_1 (List.mem_of_getElem? (i := 15) rfl)) rfl)
theorem lk_X8_52 : hp_LK RX8 52 yX8_firstAt := Or.inl (hp_mu (tm_6_2 (List.mem_of_getElem? (i := 3) rfl)) rfl)
theorem lk_X8_55 : hp_LK RX8 55 yX8_manyAt := Or.inl (hp_mu (tm_6_2 (List.mem_of_getElem? (i := 4) rfl)) rfl)
theorem lk_L_219 : hp_LK RL 219 yX11_sick := Or.inl (hp_mu (tm_6_2 (List.mem_of_getElem? (i := 5) rfl)) rfl)
theorem lk_X11_399 : hp_LK RX11 399 yX10_sickBits := Or.inl (hp_mu (tm_6_2 (List.mem_of_getElem? (i := 9) rfl)) rfl)
theorem lk_X10_185 : hp_LK RX10 185 yX5_at := Or.inl (hp_mu (tm_6_2 (List.mem_of_getElem? (i := 13) rfl)) rfl)
theorem lk_L_223 : hp_LK RL 223 yX11_chain := Or.inl (hp_mu (tm_6_2 (List.mem_of_getElem? (i := 14) rfl)) rfl)
theorem lk_X11_403 : hp_LK RX11 403 yX10_leastFrozenAbove := Or.inl (hp_mu (tm_6_3 (List.mem_of_getElem? (i := 2) rfl)) rfl)
theorem lk_X11_406 : hp_LK RX11 406 yX11_addLinks := Or.inl (hp_mu (tm_6_3 (List.mem_of_getElem? (i := 6) rfl)) rfl)
theorem lk_X11_482 : hp_LK RX11 482 yX11_isLink := Or.inl (hp_mu (tm_6_3 (List.mem_of_getElem? (i := 10) rfl)) rfl)
theorem lk_L_227 : hp_LK RL 227 yX11_split := Or.inl (hp_mu (tm_6_3 (List.mem_of_getElem? (i := 14) rfl)) rfl)
theorem lk_L_231 : hp_LK RL 231 yX11_tell := Or.inl (hp_mu (tm_6_4 (List.mem_of_getElem? (i := 2) rfl)) rfl)
theorem lk_X11_411 : hp_LK RX11 411 yX11_tellText := Or.inl (hp_mu (tm_6_4 (List.mem_of_getElem? (i := 7) rfl)) rfl)
theorem lk_X11_485 : hp_LK RX11 485 yJ0_length_8abf5 := Or.inl (hp_mu (tm_6_4 (List.mem_of_getElem? (i := 11) rfl)) rfl)
theorem lk_X11_489 : hp_LK RX11 489 yJ0_charAt_5068e := Or.inl (hp_mu (tm_6_4 (List.mem_of_getElem? (i := 12) rfl)) rfl)
theorem lk_X11_493 : hp_LK RX11 493 yX11_tellByte := Or.inl (hp_mu (tm_6_4 (List.mem_of_getElem? (i := 13) rfl)) rfl)
theorem lk_X11_415 : hp_LK RX11 415 yX11_tellNumber := Or.inl (hp_mu (tm_6_5 (List.mem_of_getElem? (i := 1) rfl)) rfl)
theorem lk_X11_424 : hp_LK RX11 424 yX11_tellProof := Or.inl (hp_mu (tm_6_5 (List.mem_of_getElem? (i := 8) rfl)) rfl)
theorem lk_L_235 : hp_LK RL 235 yX11_tellGrowth := Or.inl (hp_mu (tm_6_5 (List.mem_of_getElem? (i := 15) rfl)) rfl)
theorem lk_L_239 : hp_LK RL 239 yX11_out := Or.inl (hp_mu (tm_6_6 (List.mem_of_getElem? (i := 5) rfl)) rfl)
theorem lk_L_243 : hp_LK RL 243 yX11_trusted := Or.inl (hp_mu (tm_6_6 (List.mem_of_getElem? (i := 9) rfl)) rfl)
theorem lk_L_247 : hp_LK RL 247 yX11_saves := Or.inl (hp_mu (tm_6_6 (List.mem_of_getElem? (i := 13) rfl)) rfl)
theorem lk_X11_431 : hp_LK RX11 431 yX11_hasOneOf := Or.inl (hp_mu (tm_6_7 (List.mem_of_getElem? (i := 1) rfl)) rfl)
theorem lk_L_251 : hp_LK RL 251 yX11_who := Or.inl (hp_mu (tm_6_7 (List.mem_of_getElem? (i := 2) rfl)) rfl)
theorem lk_X11_435 : hp_LK RX11 435 yX10_hasHead := Or.inl (hp_mu (tm_6_7 (List.mem_of_getElem? (i := 6) rfl)) rfl)
theorem lk_L_12 : hp_LK RL 12 yX12_init := Or.inl (hp_mu (tm_6_7 (List.mem_of_getElem? (i := 9) rfl)) rfl)
theorem lk_X12_103 : hp_LK RX12 103 yX12_clears := Or.inl (hp_mu (tm_6_8 (List.mem_of_getElem? (i := 9) rfl)) rfl)
theorem lk_L_17 : hp_LK RL 17 yX12_status := Or.inl (hp_mu (tm_7_3 (List.mem_of_getElem? (i := 0) rfl)) rfl)
theorem lk_L_44 : hp_LK RL 44 yX12_type := Or.inl (hp_mu (tm_7_3 (List.mem_of_getElem? (i := 4) rfl)) rfl)
theorem lk_L_22 : hp_LK RL 22 yX12_feed := Or.inl (hp_mu (tm_7_3 (List.mem_of_getElem? (i := 8) rfl)) rfl)
theorem lk_X12_233 : hp_LK RX12 233 yX12_puts := Or.inl (hp_mu (tm_7_3 (List.mem_of_getElem? (i := 12) rfl)) rfl)
theorem lk_L_27 : hp_LK RL 27 yX12_load := Or.inl (hp_mu (tm_7_4 (List.mem_of_getElem? (i := 0) rfl)) rfl)
theorem lk_X12_113 : hp_LK RX12 113 yX12_isIn := Or.inl (hp_mu (tm_7_4 (List.mem_of_getElem? (i := 4) rfl)) rfl)
theorem lk_X12_309 : hp_LK RX12 309 yX12_is := Or.inl (hp_mu (tm_7_4 (List.mem_of_getElem? (i := 7) rfl)) rfl)
theorem lk_X12_312 : hp_LK RX12 312 yX12_begins := Or.inl (hp_mu (tm_7_4 (List.mem_of_getElem? (i := 11) rfl)) rfl)
theorem lk_X12_276 : hp_LK RX12 276 yX12_reads := Or.inl (hp_mu (tm_7_4 (List.mem_of_getElem? (i := 15) rfl)) rfl)
theorem lk_X12_248 : hp_LK RX12 248 yX12_isOf := Or.inl (hp_mu (tm_7_5 (List.mem_of_getElem? (i := 3) rfl)) rfl)
theorem lk_X12_268 : hp_LK RX12 268 yX12_isWord := Or.inl (hp_mu (tm_7_5 (List.mem_of_getElem? (i := 9) rfl)) rfl)
theorem lk_X12_279 : hp_LK RX12 279 yX12_takesNumber := Or.inl (hp_mu (tm_7_5 (List.mem_of_getElem? (i := 13) rfl)) rfl)
theorem lk_X12_272 : hp_LK RX12 272 yX12_must := Or.inl (hp_mu (tm_7_6 (List.mem_of_getElem? (i := 1) rfl)) rfl)
theorem lk_X12_285 : hp_LK RX12 285 yX12_takesEnd := Or.inl (hp_mu (tm_7_6 (List.mem_of_getElem? (i := 5) rfl)) rfl)
theorem lk_X12_315 : hp_LK RX12 315 yX12_line := Or.inl (hp_mu (tm_7_6 (List.mem_of_getElem? (i := 9) rfl)) rfl)
theorem lk_X12_294 : hp_LK RX12 294 yX12_addLine := Or.inl (hp_mu (tm_7_6 (List.mem_of_getElem? (i := 13) rfl)) rfl)
theorem lk_X12_209 : hp_LK RX12 209 yX12_sizeOf := Or.inl (hp_mu (tm_7_7 (List.mem_of_getElem? (i := 1) rfl)) rfl)
theorem lk_X12_288 : hp_LK RX12 288 yX12_adds := Or.inl (hp_mu (tm_7_7 (List.mem_of_getElem? (i := 5) rfl)) rfl)
theorem lk_X12_212 : hp_LK RX12 212 yX12_refuse := Or.inl (hp_mu (tm_7_7 (List.mem_of_getElem? (i := 9) rfl)) rfl)
theorem lk_X12_297 : hp_LK RX12 297 yX12_forkLine := Or.inl (hp_mu (tm_7_7 (List.mem_of_getElem? (i := 13) rfl)) rfl)
theorem lk_X12_291 : hp_LK RX12 291 yX12_forks := Or.inl (hp_mu (tm_7_8 (List.mem_of_getElem? (i := 1) rfl)) rfl)
theorem lk_X12_300 : hp_LK RX12 300 yX12_freezes := Or.inl (hp_mu (tm_7_8 (List.mem_of_getElem? (i := 5) rfl)) rfl)
theorem lk_X12_215 : hp_LK RX12 215 yX12_headOf := Or.inl (hp_mu (tm_7_8 (List.mem_of_getElem? (i := 9) rfl)) rfl)
theorem lk_X12_132 : hp_LK RX12 132 yX12_treeMark := Or.inl (hp_mu (tm_7_8 (List.mem_of_getElem? (i := 13) rfl)) rfl)
theorem lk_X12_125 : hp_LK RX12 125 yX12_entryMark := Or.inl (hp_mu (tm_7_9 (List.mem_of_getElem? (i := 1) rfl)) rfl)
theorem lk_X12_121 : hp_LK RX12 121 yX12_mixed := Or.inl (hp_mu (tm_7_9 (List.mem_of_getElem? (i := 5) rfl)) rfl)
theorem lk_X12_128 : hp_LK RX12 128 yX12_part0 := Or.inl (hp_mu (tm_7_9 (List.mem_of_getElem? (i := 11) rfl)) rfl)
theorem lk_X12_136 : hp_LK RX12 136 yX12_both := Or.inl (hp_mu (tm_7_9 (List.mem_of_getElem? (i := 14) rfl)) rfl)
theorem lk_X12_218 : hp_LK RX12 218 yX12_peaksOf := Or.inl (hp_mu (tm_7_10 (List.mem_of_getElem? (i := 2) rfl)) rfl)
theorem lk_X12_146 : hp_LK RX12 146 yX12_asks := Or.inl (hp_mu (tm_7_10 (List.mem_of_getElem? (i := 7) rfl)) rfl)
theorem lk_X12_161 : hp_LK RX12 161 yX12_fetches := Or.inl (hp_mu (tm_7_10 (List.mem_of_getElem? (i := 11) rfl)) rfl)
theorem lk_X12_303 : hp_LK RX12 303 yX12_takes := Or.inl (hp_mu (tm_7_10 (List.mem_of_getElem? (i := 15) rfl)) rfl)
theorem lk_X12_306 : hp_LK RX12 306 yX12_shows := Or.inl (hp_mu (tm_7_11 (List.mem_of_getElem? (i := 3) rfl)) rfl)
theorem lk_X12_221 : hp_LK RX12 221 yX12_trust := Or.inl (hp_mu (tm_7_11 (List.mem_of_getElem? (i := 7) rfl)) rfl)
theorem lk_X12_224 : hp_LK RX12 224 yX12_whyByRecord := Or.inl (hp_mu (tm_7_11 (List.mem_of_getElem? (i := 11) rfl)) rfl)
theorem lk_X12_190 : hp_LK RX12 190 yX12_growth := Or.inl (hp_mu (tm_7_11 (List.mem_of_getElem? (i := 15) rfl)) rfl)
theorem lk_X12_150 : hp_LK RX12 150 yX12_growsIn := Or.inl (hp_mu (tm_7_12 (List.mem_of_getElem? (i := 3) rfl)) rfl)
theorem lk_X12_199 : hp_LK RX12 199 yX12_whyGrown := Or.inl (hp_mu (tm_7_12 (List.mem_of_getElem? (i := 7) rfl)) rfl)
theorem lk_X12_187 : hp_LK RX12 187 yX12_foldsGrowth := Or.inl (hp_mu (tm_7_12 (List.mem_of_getElem? (i := 11) rfl)) rfl)
theorem lk_X12_227 : hp_LK RX12 227 yX12_trusts := Or.inl (hp_mu (tm_7_12 (List.mem_of_getElem? (i := 15) rfl)) rfl)
theorem lk_X12_318 : hp_LK RX12 318 yX12_ends := Or.inl (hp_mu (tm_7_13 (List.mem_of_getElem? (i := 3) rfl)) rfl)
theorem lk_L_31 : hp_LK RL 31 yX12_hear := Or.inl (hp_mu (tm_7_13 (List.mem_of_getElem? (i := 7) rfl)) rfl)
theorem lk_X12_335 : hp_LK RX12 335 yX12_statementIn := Or.inl (hp_mu (tm_7_13 (List.mem_of_getElem? (i := 11) rfl)) rfl)
theorem lk_X12_325 : hp_LK RX12 325 yX12_takesMark := Or.inl (hp_mu (tm_7_14 (List.mem_of_getElem? (i := 0) rfl)) rfl)
theorem lk_X12_329 : hp_LK RX12 329 yX12_takesMarks := Or.inl (hp_mu (tm_7_14 (List.mem_of_getElem? (i := 4) rfl)) rfl)
theorem lk_X12_321 : hp_LK RX12 321 yX12_isMark := Or.inl (hp_mu (tm_7_14 (List.mem_of_getElem? (i := 8) rfl)) rfl)
theorem lk_X12_332 : hp_LK RX12 332 yX12_whyIn := Or.inl (hp_mu (tm_7_14 (List.mem_of_getElem? (i := 12) rfl)) rfl)
theorem lk_X12_171 : hp_LK RX12 171 yX12_inclusion := Or.inl (hp_mu (tb_8 (List.mem_of_getElem? (i := 0) rfl)) rfl)
theorem lk_X12_142 : hp_LK RX12 142 yX12_waysIn := Or.inl (hp_mu (tb_8 (List.mem_of_getElem? (i := 4) rfl)) rfl)
theorem lk_X12_174 : hp_LK RX12 174 yX12_folded := Or.inl (hp_mu (tb_8 (List.mem_of_getElem? (i := 8) rfl)) rfl)
theorem lk_X12_165 : hp_LK RX12 165 yX12_foldsIn := Or.inl (hp_mu (tb_8 (List.mem_of_getElem? (i := 12) rfl)) rfl)
theorem lk_X12_177 : hp_LK RX12 177 yX12_why := Or.inl (hp_mu (tm_8_1 (List.mem_of_getElem? (i := 0) rfl)) rfl)
theorem lk_X12_338 : hp_LK RX12 338 yX12_statementGrow := Or.inl (hp_mu (tm_8_1 (List.mem_of_getElem? (i := 4) rfl)) rfl)
theorem lk_L_35 : hp_LK RL 35 yX12_heard := Or.inl (hp_mu (tm_8_1 (List.mem_of_getElem? (i := 8) rfl)) rfl)
theorem lk_L_39 : hp_LK RL 39 yX12_fault := Or.inl (hp_mu (tm_8_1 (List.mem_of_getElem? (i := 12) rfl)) rfl)
theorem lk_L_48 : hp_LK RL 48 yX12_many := Or.inl (hp_mu (tm_8_2 (List.mem_of_getElem? (i := 0) rfl)) rfl)
theorem lk_L_52 : hp_LK RL 52 yX12_size := Or.inl (hp_mu (tm_8_2 (List.mem_of_getElem? (i := 4) rfl)) rfl)
theorem lk_X12_344 : hp_LK RX12 344 yX12_isRecord := Or.inl (hp_mu (tm_8_2 (List.mem_of_getElem? (i := 8) rfl)) rfl)
theorem lk_L_57 : hp_LK RL 57 yX12_entry := Or.inl (hp_mu (tm_8_2 (List.mem_of_getElem? (i := 12) rfl)) rfl)
theorem lk_L_61 : hp_LK RL 61 yX12_head := Or.inl (hp_mu (tm_8_3 (List.mem_of_getElem? (i := 0) rfl)) rfl)
theorem lk_X12_347 : hp_LK RX12 347 yX12_noSize := Or.inl (hp_mu (tm_8_3 (List.mem_of_getElem? (i := 4) rfl)) rfl)
theorem lk_L_65 : hp_LK RL 65 yX12_join := Or.inl (hp_mu (tm_8_3 (List.mem_of_getElem? (i := 8) rfl)) rfl)
theorem lk_L_69 : hp_LK RL 69 yX12_mark := Or.inl (hp_mu (tm_8_3 (List.mem_of_getElem? (i := 12) rfl)) rfl)
theorem lk_L_73 : hp_LK RL 73 yX12_frozen := Or.inl (hp_mu (tm_8_4 (List.mem_of_getElem? (i := 0) rfl)) rfl)
theorem lk_X12_350 : hp_LK RX12 350 yX12_froze := Or.inl (hp_mu (tm_8_4 (List.mem_of_getElem? (i := 4) rfl)) rfl)
theorem lk_X12_353 : hp_LK RX12 353 yX12_isSound := Or.inl (hp_mu (tm_8_4 (List.mem_of_getElem? (i := 8) rfl)) rfl)
theorem lk_L_77 : hp_LK RL 77 yX12_watcher := Or.inl (hp_mu (tm_8_4 (List.mem_of_getElem? (i := 12) rfl)) rfl)
theorem lk_X12_356 : hp_LK RX12 356 yX12_isWatcher := Or.inl (hp_mu (tm_8_5 (List.mem_of_getElem? (i := 0) rfl)) rfl)
theorem lk_L_81 : hp_LK RL 81 yX12_add := Or.inl (hp_mu (tm_8_5 (List.mem_of_getElem? (i := 3) rfl)) rfl)
theorem lk_X12_359 : hp_LK RX12 359 yX12_hand := Or.inl (hp_mu (tm_8_5 (List.mem_of_getElem? (i := 7) rfl)) rfl)
theorem lk_L_85 : hp_LK RL 85 yX12_fork := Or.inl (hp_mu (tm_8_5 (List.mem_of_getElem? (i := 11) rfl)) rfl)
theorem lk_L_89 : hp_LK RL 89 yX12_freeze := Or.inl (hp_mu (tm_8_5 (List.mem_of_getElem? (i := 15) rfl)) rfl)
theorem lk_L_93 : hp_LK RL 93 yX12_show := Or.inl (hp_mu (tm_8_6 (List.mem_of_getElem? (i := 3) rfl)) rfl)
theorem lk_L_97 : hp_LK RL 97 yX12_meet := Or.inl (hp_mu (tm_8_6 (List.mem_of_getElem? (i := 7) rfl)) rfl)
theorem lk_L_102 : hp_LK RL 102 yX12_spoil := Or.inl (hp_mu (tm_8_6 (List.mem_of_getElem? (i := 11) rfl)) rfl)
theorem lk_L_106 : hp_LK RL 106 yX12_push := Or.inl (hp_mu (tm_8_6 (List.mem_of_getElem? (i := 15) rfl)) rfl)
theorem lk_L_110 : hp_LK RL 110 yX12_poke := Or.inl (hp_mu (tm_8_7 (List.mem_of_getElem? (i := 3) rfl)) rfl)
theorem lk_L_114 : hp_LK RL 114 yX12_pad := Or.inl (hp_mu (tm_8_7 (List.mem_of_getElem? (i := 7) rfl)) rfl)
theorem lk_L_118 : hp_LK RL 118 yX12_cut := Or.inl (hp_mu (tm_8_7 (List.mem_of_getElem? (i := 11) rfl)) rfl)
theorem lk_L_122 : hp_LK RL 122 yX12_include := Or.inl (hp_mu (tm_8_7 (List.mem_of_getElem? (i := 15) rfl)) rfl)
theorem lk_X12_362 : hp_LK RX12 362 yX12_noEntry := Or.inl (hp_mu (tm_8_8 (List.mem_of_getElem? (i := 3) rfl)) rfl)
theorem lk_X12_365 : hp_LK RX12 365 yX12_pads := Or.inl (hp_mu (tm_8_8 (List.mem_of_getElem? (i := 7) rfl)) rfl)
theorem lk_L_126 : hp_LK RL 126 yX12_grow := Or.inl (hp_mu (tm_8_8 (List.mem_of_getElem? (i := 11) rfl)) rfl)
theorem lk_L_130 : hp_LK RL 130 yX12_bundle := Or.inl (hp_mu (tm_8_8 (List.mem_of_getElem? (i := 15) rfl)) rfl)
theorem lk_X12_368 : hp_LK RX12 368 yX12_isBeyond := Or.inl (hp_mu (tm_8_9 (List.mem_of_getElem? (i := 3) rfl)) rfl)
theorem lk_X12_372 : hp_LK RX12 372 yX12_bundleOf := Or.inl (hp_mu (tm_8_9 (List.mem_of_getElem? (i := 6) rfl)) rfl)
theorem lk_X12_157 : hp_LK RX12 157 yX12_bundlesIn := Or.inl (hp_mu (tm_8_9 (List.mem_of_getElem? (i := 10) rfl)) rfl)
theorem lk_X12_154 : hp_LK RX12 154 yX12_hasAny := Or.inl (hp_mu (tm_8_9 (List.mem_of_getElem? (i := 14) rfl)) rfl)
theorem lk_L_134 : hp_LK RL 134 yX12_peaks := Or.inl (hp_mu (tm_8_10 (List.mem_of_getElem? (i := 1) rfl)) rfl)
theorem lk_L_138 : hp_LK RL 138 yX12_extend := Or.inl (hp_mu (tm_8_10 (List.mem_of_getElem? (i := 5) rfl)) rfl)
theorem lk_X12_376 : hp_LK RX12 376 yJ6_bitCount_0f7a4 := Or.inl (hp_mu (tm_8_10 (List.mem_of_getElem? (i := 10) rfl)) rfl)
theorem lk_L_142 : hp_LK RL 142 yX12_checks := Or.inl (hp_mu (tm_8_10 (List.mem_of_getElem? (i := 11) rfl)) rfl)
theorem lk_X12_381 : hp_LK RX12 381 yX12_isThing := Or.inl (hp_mu (tm_8_10 (List.mem_of_getElem? (i := 15) rfl)) rfl)
theorem lk_X12_384 : hp_LK RX12 384 yX12_fromPad := Or.inl (hp_mu (tm_8_11 (List.mem_of_getElem? (i := 3) rfl)) rfl)
theorem lk_L_146 : hp_LK RL 146 yX12_growth_ := Or.inl (hp_mu (tm_8_11 (List.mem_of_getElem? (i := 7) rfl)) rfl)
theorem lk_L_150 : hp_LK RL 150 yX12_bundled := Or.inl (hp_mu (tm_8_11 (List.mem_of_getElem? (i := 11) rfl)) rfl)
theorem lk_X12_196 : hp_LK RX12 196 yX12_foldsBundle := Or.inl (hp_mu (tm_8_11 (List.mem_of_getElem? (i := 15) rfl)) rfl)
theorem lk_L_154 : hp_LK RL 154 yX12_fold := Or.inl (hp_mu (tm_8_12 (List.mem_of_getElem? (i := 3) rfl)) rfl)
theorem lk_L_158 : hp_LK RL 158 yX12_steps := Or.inl (hp_mu (tm_8_12 (List.mem_of_getElem? (i := 7) rfl)) rfl)
theorem lk_L_162 : hp_LK RL 162 yX12_climbs := Or.inl (hp_mu (tm_8_12 (List.mem_of_getElem? (i := 11) rfl)) rfl)
theorem lk_L_166 : hp_LK RL 166 yX12_agree := Or.inl (hp_mu (tm_8_12 (List.mem_of_getElem? (i := 15) rfl)) rfl)
theorem lk_X12_390 : hp_LK RX12 390 yX12_isAgreed := Or.inl (hp_mu (tm_8_13 (List.mem_of_getElem? (i := 3) rfl)) rfl)
theorem lk_X12_387 : hp_LK RX12 387 yX12_isHead := Or.inl (hp_mu (tm_8_13 (List.mem_of_getElem? (i := 7) rfl)) rfl)
theorem lk_L_170 : hp_LK RL 170 yX12_where := Or.inl (hp_mu (tm_8_13 (List.mem_of_getElem? (i := 11) rfl)) rfl)
theorem lk_X12_393 : hp_LK RX12 393 yX12_isTyped := Or.inl (hp_mu (tm_8_13 (List.mem_of_getElem? (i := 15) rfl)) rfl)
theorem lk_L_174 : hp_LK RL 174 yX12_tree := Or.inl (hp_mu (tm_8_14 (List.mem_of_getElem? (i := 3) rfl)) rfl)
theorem lk_X12_405 : hp_LK RX12 405 yX12_seeks := Or.inl (hp_mu (tm_8_14 (List.mem_of_getElem? (i := 7) rfl)) rfl)
theorem lk_L_178 : hp_LK RL 178 yX12_proves := Or.inl (hp_mu (tm_8_14 (List.mem_of_getElem? (i := 11) rfl)) rfl)
theorem lk_L_182 : hp_LK RL 182 yX12_longest := Or.inl (hp_mu (tm_8_14 (List.mem_of_getElem? (i := 15) rfl)) rfl)
theorem lk_L_186 : hp_LK RL 186 yX12_part := Or.inl (hp_mu (tb_9 (List.mem_of_getElem? (i := 3) rfl)) rfl)
theorem lk_L_190 : hp_LK RL 190 yX12_blame := Or.inl (hp_mu (tb_9 (List.mem_of_getElem? (i := 7) rfl)) rfl)
theorem lk_L_194 : hp_LK RL 194 yX12_weak := Or.inl (hp_mu (tb_9 (List.mem_of_getElem? (i := 11) rfl)) rfl)
theorem lk_L_198 : hp_LK RL 198 yX12_clash := Or.inl (hp_mu (tb_9 (List.mem_of_getElem? (i := 15) rfl)) rfl)
theorem lk_X12_408 : hp_LK RX12 408 yX12_stepsIn := Or.inl (hp_mu (tm_9_1 (List.mem_of_getElem? (i := 3) rfl)) rfl)
theorem lk_L_202 : hp_LK RL 202 yX12_forge := Or.inl (hp_mu (tm_9_1 (List.mem_of_getElem? (i := 7) rfl)) rfl)
theorem lk_L_206 : hp_LK RL 206 yX12_trace := Or.inl (hp_mu (tm_9_1 (List.mem_of_getElem? (i := 11) rfl)) rfl)
theorem lk_L_210 : hp_LK RL 210 yX12_span := Or.inl (hp_mu (tm_9_1 (List.mem_of_getElem? (i := 15) rfl)) rfl)
theorem lk_X12_414 : hp_LK RX12 414 yX12_wayAt := Or.inl (hp_mu (tm_9_2 (List.mem_of_getElem? (i := 3) rfl)) rfl)
theorem lk_L_214 : hp_LK RL 214 yX12_rise := Or.inl (hp_mu (tm_9_2 (List.mem_of_getElem? (i := 7) rfl)) rfl)
theorem lk_L_218 : hp_LK RL 218 yX12_kept := Or.inl (hp_mu (tm_9_2 (List.mem_of_getElem? (i := 11) rfl)) rfl)
theorem lk_X12_423 : hp_LK RX12 423 yX12_notes := Or.inl (hp_mu (tm_9_2 (List.mem_of_getElem? (i := 15) rfl)) rfl)
theorem lk_X12_420 : hp_LK RX12 420 yX12_had := Or.inl (hp_mu (tm_9_3 (List.mem_of_getElem? (i := 3) rfl)) rfl)
theorem lk_L_222 : hp_LK RL 222 yX12_sick := Or.inl (hp_mu (tm_9_3 (List.mem_of_getElem? (i := 7) rfl)) rfl)
theorem lk_L_226 : hp_LK RL 226 yX12_chain := Or.inl (hp_mu (tm_9_3 (List.mem_of_getElem? (i := 11) rfl)) rfl)
theorem lk_X12_426 : hp_LK RX12 426 yX12_sizeAbove := Or.inl (hp_mu (tm_9_3 (List.mem_of_getElem? (i := 15) rfl)) rfl)
theorem lk_L_230 : hp_LK RL 230 yX12_split := Or.inl (hp_mu (tm_9_4 (List.mem_of_getElem? (i := 3) rfl)) rfl)
theorem lk_L_234 : hp_LK RL 234 yX12_tell := Or.inl (hp_mu (tm_9_4 (List.mem_of_getElem? (i := 7) rfl)) rfl)
theorem lk_X12_449 : hp_LK RX12 449 yX12_says := Or.inl (hp_mu (tm_9_4 (List.mem_of_getElem? (i := 12) rfl)) rfl)
theorem lk_X12_429 : hp_LK RX12 429 yX12_tells := Or.inl (hp_mu (tm_9_5 (List.mem_of_getElem? (i := 0) rfl)) rfl)
theorem lk_X12_435 : hp_LK RX12 435 yJ0_length_8abf5 := Or.inl (hp_mu (tm_9_5 (List.mem_of_getElem? (i := 4) rfl)) rfl)
theorem lk_X12_440 : hp_LK RX12 440 yJ0_charAt_5068e := Or.inl (hp_mu (tm_9_5 (List.mem_of_getElem? (i := 5) rfl)) rfl)
theorem lk_X12_444 : hp_LK RX12 444 yX12_tellsNumber := Or.inl (hp_mu (tm_9_5 (List.mem_of_getElem? (i := 6) rfl)) rfl)
theorem lk_X12_459 : hp_LK RX12 459 yX12_tellsMarks := Or.inl (hp_mu (tm_9_5 (List.mem_of_getElem? (i := 13) rfl)) rfl)
theorem lk_L_238 : hp_LK RL 238 yX12_tellGrowth := Or.inl (hp_mu (tm_9_6 (List.mem_of_getElem? (i := 1) rfl)) rfl)
theorem lk_L_242 : hp_LK RL 242 yX12_out := Or.inl (hp_mu (tm_9_6 (List.mem_of_getElem? (i := 7) rfl)) rfl)
theorem lk_L_246 : hp_LK RL 246 yX12_trusted := Or.inl (hp_mu (tm_9_6 (List.mem_of_getElem? (i := 11) rfl)) rfl)
theorem lk_L_250 : hp_LK RL 250 yX12_saves := Or.inl (hp_mu (tm_9_6 (List.mem_of_getElem? (i := 15) rfl)) rfl)
theorem lk_L_254 : hp_LK RL 254 yX12_who := Or.inl (hp_mu (tm_9_7 (List.mem_of_getElem? (i := 3) rfl)) rfl)
end JN2_2
section JN2_3
/-! ===== ints ===== -/
theorem ib_hi (x : Int32) : x.toInt ≤ 2147483647 := by
  have h := x.toBitVec.toInt_lt
  have e : x.toInt = x.toBitVec.toInt := rfl
  simp at h
  omega
theorem ib_lo (x : Int32) : -2147483648 ≤ x.toInt := by
  have h := x.toBitVec.le_toInt
  have e : x.toInt = x.toBitVec.toInt := rfl
  simp at h
  omega
theorem il_lt {x y : Int32} (h : x < y) : x.toInt < y.toInt := Int32.lt_iff_toInt_lt.mp h
theorem il_le {x y : Int32} (h : x ≤ y) : x.toInt ≤ y.toInt := Int32.le_iff_toInt_le.mp h
theorem il_nlt {x y : Int32} (h : ¬ x < y) : y.toInt ≤ x.toInt := by rw [Int32.lt_iff_toInt_lt] at h; omega
theorem il_nle {x y : Int32} (h : ¬ x ≤ y) : y.toInt < x.toInt := by rw [Int32.le_iff_toInt_le] at h; omega
theorem il_eq {x y : Int32} (h : x = y) : x.toInt = y.toInt := by rw [h]
theorem il_ne {x y : Int32} (h : ¬ x = y) : ¬ x.toInt = y.toInt := fun e => h (Int32.toInt_inj.mp e)
theorem ic_clamp {i : Int32} (h : 0 ≤ i.toInt) : (i.toNatClampNeg : Int) = i.toInt := by
  show ((i.toInt.toNat : Nat) : Int) = i.toInt
  omega
theorem vi_of {i : Int32} {n : Nat} (h0 : 0 ≤ i.toInt) (h1 : i.toInt < n) : vp_in i n := by
  have h2 := ic_clamp h0
  intro h
  rcases h with h | h
  · have := il_lt h
    have e : (0 : Int32).toInt = 0 := rfl
    omega
  · omega
theorem ii_add {x y : Int32} (h0 : -2147483648 ≤ x.toInt + y.toInt) (h1 : x.toInt + y.toInt ≤ 2147483647) : (x + y).toInt = x.toInt + y.toInt := by
  rw [Int32.toInt_add]
  rw [Int.bmod_eq_of_le] <;> omega
theorem ii_sub {x y : Int32} (h0 : -2147483648 ≤ x.toInt - y.toInt) (h1 : x.toInt - y.toInt ≤ 2147483647) : (x - y).toInt = x.toInt - y.toInt := by
  rw [Int32.toInt_sub]
  rw [Int.bmod_eq_of_le] <;> omega
theorem ii_mul {x y : Int32} (h0 : -2147483648 ≤ x.toInt * y.toInt) (h1 : x.toInt * y.toInt ≤ 2147483647) : (x * y).toInt = x.toInt * y.toInt := by
  rw [Int32.toInt_mul]
  rw [Int.bmod_eq_of_le] <;> omega
theorem ii_div {x y : Int32} (h : 0 ≤ x.toInt) (hy : 0 < y.toInt) : (x / y).toInt = x.toInt / y.toInt := by
  have e : (x / y).toInt = (x.toInt.tdiv y.toInt).bmod (2 ^ 32) := Int32.toInt_div x y
  have h1 := ib_hi x
  have h2 : x.toInt.tdiv y.toInt = x.toInt / y.toInt := Int.tdiv_eq_ediv_of_nonneg h
  have h3 : 0 ≤ x.toInt / y.toInt := Int.ediv_nonneg h (by omega)
  have h4 : x.toInt / y.toInt ≤ x.toInt := Int.ediv_le_self _ h
  rw [h2, Int.bmod_eq_of_le (by omega) (by omega)] at e
  exact e
theorem ii_rem {x y : Int32} (h : 0 ≤ x.toInt) (hy : 0 < y.toInt) : (x - x / y * y).toInt = x.toInt % y.toInt := by
  have h1 := ib_hi x
  have hd := ii_div h hy
  have h3 : 0 ≤ x.toInt / y.toInt := Int.ediv_nonneg h (by omega)
  have h5 := Int.emod_add_mul_ediv x.toInt y.toInt
  have h6 := Int.emod_nonneg x.toInt (show y.toInt ≠ 0 by omega)
  have h7 : 0 ≤ x.toInt / y.toInt * y.toInt := Int.mul_nonneg h3 (by omega)
  have h8 : x.toInt / y.toInt * y.toInt = y.toInt * (x.toInt / y.toInt) := Int.mul_comm _ _
  have hm : (x / y * y).toInt = x.toInt / y.toInt * y.toInt := by
    rw [ii_mul (by rw [hd]; omega) (by rw [hd]; omega), hd]
  rw [ii_sub (by rw [hm]; omega) (by rw [hm]; omega), hm]
  omega
theorem id_lt2 {x : Int32} (h : 0 < x.toInt) : (x / 2).toInt.toNat < x.toInt.toNat := by
  have e : (x / 2).toInt = (x.toInt.tdiv 2).bmod (2 ^ 32) := Int32.toInt_div x 2
  have h1 := ib_hi x
  have h2 : x.toInt.tdiv 2 = x.toInt / 2 := Int.tdiv_eq_ediv_of_nonneg (by omega)
  rw [h2, Int.bmod_eq_of_le (by omega) (by omega)] at e
  omega
theorem id_lt10 {x : Int32} (h : 0 < x.toInt) : (x / 10).toInt.toNat < x.toInt.toNat := by
  have e : (x / 10).toInt = (x.toInt.tdiv 10).bmod (2 ^ 32) := Int32.toInt_div x 10
  have h1 := ib_hi x
  have h2 : x.toInt.tdiv 10 = x.toInt / 10 := Int.tdiv_eq_ediv_of_nonneg (by omega)
  rw [h2, Int.bmod_eq_of_le (by omega) (by omega)] at e
  omega
/-! ===== what always holds of the picture; what a method of the class keeps ===== -/
def gc_i (φ : Nat) (v : Int32) : Prop := (φ == 453 || φ == 301) = true → 0 ≤ v.toInt ∧ v.toInt ≤ 64
def gc_rt : List (Nat × Nat) := [(51, 6), (104, 6), (150, 28), (151, 29), (200, 7), (201, 6), (202, 9), (207, 10), (250, 34), (251, 35), (253, 9), (254, 6), (300, 20), (350, 24), (450, 21), (451, 22), (452, 23), (500, 27), (551, 30), (553, 31), (555, 32), (557, 33), (558, 6), (559, 9), (601, 11), (602, 11), (603, 6), (604, 24), (606, 10), (607, 10), (608, 6), (609, 6), (610, 25), (612, 9), (613, 9), (614, 6), (615, 1), (616, 4), (617, 26), (650, 40), (651, 41), (654, 42), (655, 43), (656, 44), (662, 45), (663, 46), (666, 47), (678, 48), (680, 49), (681, 50), (686, 51), (687, 52), (688, 53), (690, 54), (691, 55), (692, 56), (693, 57), (694, 58), (696, 59)]
def gc_rk (φ : Nat) : Nat := (gc_rt.lookup φ).getD 0
def gc_qk (κ : Nat) : Nat := if κ = 28 then 10 else if κ = 30 then 3 else if κ = 31 then 2 else if κ = 32 then 8 else 0
def gc_t (φ k : Nat) : Prop := k = gc_rk φ ∨ (φ = 350 ∧ k = 36)
def GC (α : hp_T) : Prop := (∀ φ a, gc_i φ (hp_I α φ a)) ∧ (∀ φ a, hp_K α a = φ / 50 → gc_rk φ ≠ 0 → gc_t φ (hp_K α (hp_R α φ a))) ∧ (∀ a b, hp_K α a = 12 → hp_N α 618 a = some b → hp_K α b = 5) ∧ (∀ κ a j b, hp_K α a = κ → gc_qk κ ≠ 0 → hp_Q α κ a j = some b → hp_K α b = gc_qk κ)
/-- what a method may write: int fields, references, rows of ints, long fields -/
abbrev cw_W : Type := List Nat × List Nat × List Nat × List Nat
def cw (w : cw_W) (α0 α : hp_T) : Prop := GC α ∧ hp_K α = hp_K α0 ∧ hp_N α = hp_N α0 ∧ hp_Q α = hp_Q α0 ∧ hp_L α = hp_L α0 ∧ (∀ φ, φ ∉ w.1 → hp_I α φ = hp_I α0 φ) ∧ (∀ φ, φ ∉ w.2.1 → hp_R α φ = hp_R α0 φ) ∧ (∀ κ, κ ∉ w.2.2.1 → hp_E α κ = hp_E α0 κ) ∧ ∀ φ, φ ∉ w.2.2.2 → hp_J α φ = hp_J α0 φ
def cw_sub (v w : cw_W) : Bool := v.1.all (fun x => w.1.contains x) && v.2.1.all (fun x => w.2.1.contains x) && v.2.2.1.all (fun x => w.2.2.1.contains x) && v.2.2.2.all (fun x => w.2.2.2.contains x)
theorem cw_in {v w : List Nat} (h : v.all (fun x => w.contains x) = true) {x : Nat} (hx : x ∉ w) : x ∉ v := fun hv => hx (by
  have := List.all_eq_true.mp h x hv
  simpa using this)
theorem cw_rf {w : cw_W} {α : hp_T} (g : GC α) : cw w α α := ⟨g, rfl, rfl, rfl, rfl, fun _ _ => rfl, fun _ _ => rfl, fun _ _ => rfl, fun _ _ => rfl⟩
theorem cw_tr {v w : cw_W} {α0 α β : hp_T} (h : cw w α0 α) (g : cw v α β) (hs : cw_sub v w = true) : cw w α0 β := by
  simp only [cw_sub, Bool.and_eq_true] at hs
  obtain ⟨⟨⟨s1, s2⟩, s3⟩, s4⟩ := hs
  obtain ⟨h0, h1, h2, h3, h4, h5, h6, h7, h8⟩ := h
  obtain ⟨g0, g1, g2, g3, g4, g5, g6, g7, g8⟩ := g
  exact ⟨g0, g1.trans h1, g2.trans h2, g3.trans h3, g4.trans h4, fun φ hφ => (g5 φ (cw_in s1 hφ)).trans (h5 φ hφ), fun φ hφ => (g6 φ (cw_in s2 hφ)).trans (h6 φ hφ), fun φ hφ => (g7 φ (cw_in s3 hφ)).trans (h7 φ hφ), fun φ hφ => (g8 φ (cw_in s4 hφ)).trans (h8 φ hφ)⟩
theorem cw_sI {w : cw_W} {α0 α : hp_T} {φ a : Nat} {v : Int32} (h : cw w α0 α) (hφ : φ ∈ w.1) (hv : gc_i φ v) : cw w α0 (hp_sI α φ a v) := by
  obtain ⟨⟨g1, g2, g3, g4⟩, h1, h2, h3, h4, h5, h6, h7, h8⟩ := h
  have hne : ∀ ψ, ψ ≠ φ → hp_I (hp_sI α φ a v) ψ = hp_I α ψ := fun ψ hψ => by funext b; simp [hp_I, hp_sI, hp_up, hψ]
  refine ⟨⟨fun ψ b => ?_, g2, g3, g4⟩, h1, h2, h3, h4, fun ψ hψ => (hne ψ (fun e => hψ (e ▸ hφ))).trans (h5 ψ hψ), h6, h7, h8⟩
  by_cases hb : ψ = φ ∧ b = a
  · obtain ⟨rfl, rfl⟩ := hb
    have e : hp_I (hp_sI α ψ b v) ψ b = v := by simp [hp_I, hp_sI, hp_up]
    rw [e]; exact hv
  · have e : hp_I (hp_sI α φ a v) ψ b = hp_I α ψ b := by simp [hp_I, hp_sI, hp_up, hb]
    rw [e]; exact g1 ψ b
theorem cw_sE {w : cw_W} {α0 α : hp_T} {κ a j : Nat} {v : Int32} (h : cw w α0 α) (hκ : κ ∈ w.2.2.1) : cw w α0 (hp_sE α κ a j v) := by
  obtain ⟨g, h1, h2, h3, h4, h5, h6, h7, h8⟩ := h
  have hne : ∀ ψ, ψ ≠ κ → hp_E (hp_sE α κ a j v) ψ = hp_E α ψ := fun ψ hψ => by funext b i; simp [hp_E, hp_sE, hp_uq, hψ]
  exact ⟨g, h1, h2, h3, h4, h5, h6, fun ψ hψ => (hne ψ (fun e => hψ (e ▸ hκ))).trans (h7 ψ hψ), h8⟩
theorem cw_sR {w : cw_W} {α0 α : hp_T} {φ a x : Nat} (h : cw w α0 α) (hφ : φ ∈ w.2.1) (hx : gc_t φ (hp_K α0 x)) : cw w α0 (hp_sR α φ a x) := by
  obtain ⟨⟨g1, g2, g3, g4⟩, h1, h2, h3, h4, h5, h6, h7, h8⟩ := h
  have hne : ∀ ψ, ψ ≠ φ → hp_R (hp_sR α φ a x) ψ = hp_R α ψ := fun ψ hψ => by funext b; simp [hp_R, hp_sR, hp_up, hψ]
  refine ⟨⟨g1, fun ψ b hb hr => ?_, g3, g4⟩, h1, h2, h3, h4, h5, fun ψ hψ => (hne ψ (fun e => hψ (e ▸ hφ))).trans (h6 ψ hψ), h7, h8⟩
  by_cases hq : ψ = φ ∧ b = a
  · obtain ⟨rfl, rfl⟩ := hq
    have e : hp_R (hp_sR α ψ b x) ψ b = x := by simp [hp_R, hp_sR, hp_up]
    rw [e]
    show gc_t ψ (hp_K α x)
    rw [h1]; exact hx
  · have e : hp_R (hp_sR α φ a x) ψ b = hp_R α ψ b := by simp [hp_R, hp_sR, hp_up, hq]
    rw [e]; exact g2 ψ b hb hr
theorem cw_I {w : cw_W} {α0 α : hp_T} (h : cw w α0 α) {φ : Nat} (a : Nat) (hφ : φ ∉ w.1) : hp_I α φ a = hp_I α0 φ a := by rw [h.2.2.2.2.2.1 φ hφ]
theorem cw_R {w : cw_W} {α0 α : hp_T} (h : cw w α0 α) {φ : Nat} (a : Nat) (hφ : φ ∉ w.2.1) : hp_R α φ a = hp_R α0 φ a := by rw [h.2.2.2.2.2.2.1 φ hφ]
theorem cw_k {w : cw_W} {α0 α : hp_T} {b κ : Nat} (h : cw w α0 α) (hk : hp_K α0 b = κ) : hp_K α b = κ := by rw [h.2.1]; exact hk
theorem cw_r {w : cw_W} {α0 α : hp_T} {a κ φ κ' : Nat} (h : cw w α0 α) (hk : hp_K α0 a = κ) (hφ : φ / 50 = κ) (hr : gc_rk φ = κ') (hz : κ' ≠ 0) (h350 : φ ≠ 350) : hp_K α0 (hp_R α φ a) = κ' := by
  rcases h.1.2.1 φ a (by rw [h.2.1, hφ]; exact hk) (by rw [hr]; exact hz) with e | e
  · rw [← h.2.1, e, hr]
  · exact absurd e.1 h350
theorem cw_q {w : cw_W} {α0 α : hp_T} {a κ j b κ' : Nat} (h : cw w α0 α) (hk : hp_K α0 a = κ) (hr : gc_qk κ = κ') (hz : κ' ≠ 0) (hb : hp_Q α κ a j = some b) : hp_K α0 b = κ' := by
  have := h.1.2.2.2 κ a j b (by rw [h.2.1]; exact hk) (by rw [hr]; exact hz) hb
  rw [h.2.1, hr] at this
  exact this
theorem cw_k' {w : cw_W} {α0 α : hp_T} {b κ : Nat} (h : cw w α0 α) (hk : hp_K α b = κ) : hp_K α0 b = κ := by rw [← h.2.1]; exact hk
theorem cw_u {w : cw_W} {α0 α : hp_T} {a : Nat} (h : cw w α0 α) (hk : hp_K α0 a = 7) : hp_K α0 (hp_R α 350 a) = 24 ∨ hp_K α0 (hp_R α 350 a) = 36 := by
  rcases h.1.2.1 350 a (by rw [h.2.1, hk]) (by decide) with e | e
  · left; rw [← h.2.1, e]; rfl
  · right; rw [← h.2.1]; exact e.2
theorem hp_I_ne {α : hp_T} {φ a ψ b : Nat} {v : Int32} (h : ψ ≠ φ) : hp_I (hp_sI α φ a v) ψ b = hp_I α ψ b := by simp [hp_I, hp_sI, hp_up, h]
theorem nz_z {x : Int32} (h : x = 0 ∨ x = 1) : narrow .boolean (.int x) = .int x := by rcases h with rfl | rfl <;> decide
theorem li_nz {m : Int32} {y : Int64} (e : y = m.toInt64) (h : ¬ m.toInt = 0) : ¬ y = 0 := by
  intro hy
  rw [hy] at e
  have h2 := congrArg Int64.toInt e
  rw [Int32.toInt_toInt64] at h2
  exact h (by rw [← h2]; rfl)
section HPG
variable {p : Program} {l : Launch} {e : Env} {R : Room} {s : State} {m : MethodId} {args : Array Value} {below : List Frame} {meth : Method} {c : Code} {H : Heap} {locs : List Loc} {cells slots : Nat} {Q : State → Prop} {cc : ByteArray} {nL : Nat} {own : String} {Γ : hp_G} {α0 α α' : hp_T} {Iv : hp_T → hp_T → Prop} {pc pc' : Nat} {ls : Array Slot} {rest : List Value} {a κ k t index φ κ' : Nat} {v : Value}
/-- getfield of an int: it gets a name -/
theorem q_geti (C : hp_C Γ p m c cc nL s args own) (B : hp_B Γ Iv s α0 α H locs) (hk : hp_K α a = κ) (hF : hp_F own index (hp_b κ) k) (hc : hp_isC κ = true) (ht : (hp_tg κ)[k]? = some 0) (hφ : 50 * hp_b κ + k = φ) (hdg : decode cc pc = .ok (.getfield index, 3)) (hpc : pc + 3 = pc')
    (kk : ∀ x : Int32, x = hp_I α φ a → W p l e R s m args below meth c H locs cells slots Q (F0 m pc' ls (.int x :: rest))) : W p l e R s m args below meth c H locs cells slots Q (F0 m pc ls (.ref a :: rest)) := by
  subst hφ
  exact q_get C B hk hF hc ht rfl hdg hpc (kk _ rfl)
/-- the same int again -/
theorem q_getj {x : Int32} (C : hp_C Γ p m c cc nL s args own) (B : hp_B Γ Iv s α0 α H locs) (hk : hp_K α a = κ) (hF : hp_F own index (hp_b κ) k) (hc : hp_isC κ = true) (ht : (hp_tg κ)[k]? = some 0) (hφ : 50 * hp_b κ + k = φ) (hx : x = hp_I α φ a) (hdg : decode cc pc = .ok (.getfield index, 3)) (hpc : pc + 3 = pc')
    (kk : W p l e R s m args below meth c H locs cells slots Q (F0 m pc' ls (.int x :: rest))) : W p l e R s m args below meth c H locs cells slots Q (F0 m pc ls (.ref a :: rest)) := by
  subst hφ; subst hx
  exact q_get C B hk hF hc ht rfl hdg hpc kk
/-- getfield of a reference: it gets a name and its kind -/
theorem q_getr (C : hp_C Γ p m c cc nL s args own) (B : hp_B Γ Iv s α0 α H locs) (hk : hp_K α a = κ) (hF : hp_F own index (hp_b κ) k) (hc : hp_isC κ = true) (ht : (hp_tg κ)[k]? = some 1) (hφ : 50 * hp_b κ + k = φ) (hT : hp_K α0 (hp_R α φ a) = κ') (hdg : decode cc pc = .ok (.getfield index, 3)) (hpc : pc + 3 = pc')
    (kk : ∀ b : Nat, b = hp_R α φ a → hp_K α0 b = κ' → W p l e R s m args below meth c H locs cells slots Q (F0 m pc' ls (.ref b :: rest))) : W p l e R s m args below meth c H locs cells slots Q (F0 m pc ls (.ref a :: rest)) := by
  subst hφ
  exact q_get C B hk hF hc ht rfl hdg hpc (kk _ rfl hT)
theorem q_gets {b : Nat} (C : hp_C Γ p m c cc nL s args own) (B : hp_B Γ Iv s α0 α H locs) (hk : hp_K α a = κ) (hF : hp_F own index (hp_b κ) k) (hc : hp_isC κ = true) (ht : (hp_tg κ)[k]? = some 1) (hφ : 50 * hp_b κ + k = φ) (hx : b = hp_R α φ a) (hdg : decode cc pc = .ok (.getfield index, 3)) (hpc : pc + 3 = pc')
    (kk : W p l e R s m args below meth c H locs cells slots Q (F0 m pc' ls (.ref b :: rest))) : W p l e R s m args below meth c H locs cells slots Q (F0 m pc ls (.ref a :: rest)) := by
  subst hφ; subst hx
  exact q_get C B hk hF hc ht rfl hdg hpc kk
theorem q_getu (C : hp_C Γ p m c cc nL s args own) (B : hp_B Γ Iv s α0 α H locs) (hk : hp_K α a = κ) (hF : hp_F own index (hp_b κ) k) (hc : hp_isC κ = true) (ht : (hp_tg κ)[k]? = some 1) (hφ : 50 * hp_b κ + k = φ) (hT : hp_K α0 (hp_R α φ a) = 24 ∨ hp_K α0 (hp_R α φ a) = 36) (hdg : decode cc pc = .ok (.getfield index, 3)) (hpc : pc + 3 = pc')
    (kk : ∀ b : Nat, b = hp_R α φ a → (hp_K α0 b = 24 ∨ hp_K α0 b = 36) → W p l e R s m args below meth c H locs cells slots Q (F0 m pc' ls (.ref b :: rest))) : W p l e R s m args below meth c H locs cells slots Q (F0 m pc ls (.ref a :: rest)) := by
  subst hφ
  exact q_get C B hk hF hc ht rfl hdg hpc (kk _ rfl hT)
end HPG
end JN2_3
section JN2_4
theorem lt_m1 : (-1 : Int32).toInt = -1 := by decide
theorem mu_dn1 {x y : Int32} {n : Nat} (h : (x.toInt + 1).toNat = n) (e : y = x + (-1)) (h0 : 0 ≤ x.toInt) : (y.toInt + 1).toNat < n := by
  have h1 := ib_hi x
  have h2 : (x + (-1)).toInt = x.toInt + (-1 : Int32).toInt := ii_add (by rw [lt_m1]; omega) (by rw [lt_m1]; omega)
  rw [lt_m1] at h2
  rw [e]
  omega
/-- a method's start, of a class that has members which the machine runs by itself -/
theorem hp_startF {l : Launch} {Γ : hp_G} {α : hp_T} {bytes : ByteArray} {maxL d mc ms : Nat} {ret : Option FieldType} {y : MethodName} {Qc : Array Value → State → Outcome → State → Prop} {av : List Value} (hy : plainFor y = true)
    (body : ∀ p e s m below meth c, hp_C Γ p m c bytes maxL s av.toArray y.cls → meth.sig.returnType = ret → meth.locks = false → hp_B Γ (fun _ _ => True) s α α s.heap [] → meth.name = y.name →
      W p l e (hp_rm d mc ms) s m av.toArray below meth c s.heap [] 0 0 (MQ below Qc av.toArray s mc ms (hp_A Γ)) (entryFrame m av.toArray maxL)) : Met l y (hp_ws y bytes maxL ret) (hp_rm d mc ms) (hp_Pc Γ α av) Qc mc ms (hp_A Γ) := by
  refine va_MetF (cc := bytes) (maxL := maxL) (ret := ret) hy rfl ?_
  intro p e s m args below meth c s₁ B hml hv
  obtain ⟨rfl, hR, hK⟩ := hv
  have hts := atoms_spec (ws := hp_ws y bytes maxL ret) B.pre
  exact body p e s m below meth c ⟨⟨B.exec, B.bytes, hml, findClass_of_methodNamed B.named, fun w hw => hts w (List.mem_cons_of_mem _ hw)⟩, hK⟩ B.returns B.notSynchronized ⟨hR, va_S.rf, trivial⟩ (name_of_methodNamed B.named B.method).1
theorem hp_I_at {α : hp_T} {φ a : Nat} {v : Int32} : hp_I (hp_sI α φ a v) φ a = v := by simp [hp_I, hp_sI, hp_up]
/-- a rest by a number above 0 of what is not below 0 -/
theorem rt_nn {h m : Int32} (h0 : 0 ≤ h.toInt) (h1 : h.toInt < 65521) (m0 : 0 < m.toInt) (m1 : m.toInt ≤ 65521) : 0 ≤ ((h.toInt64 * h.toInt64 + 3 * h.toInt64) - (h.toInt64 * h.toInt64 + 3 * h.toInt64) / m.toInt64 * m.toInt64).toInt32.toInt := by
  have e1 : h.toInt64.toInt = h.toInt := Int32.toInt_toInt64 h
  have e2 : m.toInt64.toInt = m.toInt := Int32.toInt_toInt64 m
  have hh : 0 ≤ h.toInt * h.toInt := Int.mul_nonneg h0 h0
  have hh2 : h.toInt * h.toInt ≤ 65521 * 65521 := Int.mul_le_mul (by omega) (by omega) h0 (by omega)
  have a1 : (h.toInt64 * h.toInt64).toInt = h.toInt * h.toInt := by
    rw [Int64.toInt_mul, e1, Int.bmod_eq_of_le] <;> omega
  have a2 : (3 * h.toInt64).toInt = 3 * h.toInt := by
    rw [Int64.toInt_mul, e1, show (3 : Int64).toInt = 3 by decide, Int.bmod_eq_of_le] <;> omega
  have a3 : (h.toInt64 * h.toInt64 + 3 * h.toInt64).toInt = h.toInt * h.toInt + 3 * h.toInt := by
    rw [Int64.toInt_add, a1, a2, Int.bmod_eq_of_le] <;> omega
  generalize hx : h.toInt64 * h.toInt64 + 3 * h.toInt64 = x at a3 ⊢
  have x0 : 0 ≤ x.toInt := by rw [a3]; omega
  have x1 : x.toInt ≤ 65521 * 65521 + 3 * 65521 := by rw [a3]; omega
  have d1 : (x / m.toInt64).toInt = x.toInt / m.toInt := by
    have e : (x / m.toInt64).toInt = (x.toInt.tdiv m.toInt64.toInt).bmod (2 ^ 64) := Int64.toInt_div x m.toInt64
    have h3 : 0 ≤ x.toInt / m.toInt := Int.ediv_nonneg x0 (by omega)
    have h4 : x.toInt / m.toInt ≤ x.toInt := Int.ediv_le_self _ x0
    rw [e2, Int.tdiv_eq_ediv_of_nonneg x0, Int.bmod_eq_of_le (by omega) (by omega)] at e
    exact e
  have h3 : 0 ≤ x.toInt / m.toInt := Int.ediv_nonneg x0 (by omega)
  have h5 := Int.emod_add_mul_ediv x.toInt m.toInt
  have h6 := Int.emod_nonneg x.toInt (show m.toInt ≠ 0 by omega)
  have h6b := Int.emod_lt_of_pos x.toInt m0
  have h7 : 0 ≤ x.toInt / m.toInt * m.toInt := Int.mul_nonneg h3 (by omega)
  have h8 : x.toInt / m.toInt * m.toInt = m.toInt * (x.toInt / m.toInt) := Int.mul_comm _ _
  have d2 : (x / m.toInt64 * m.toInt64).toInt = x.toInt / m.toInt * m.toInt := by
    rw [Int64.toInt_mul, d1, e2, Int.bmod_eq_of_le] <;> omega
  have d3 : (x - x / m.toInt64 * m.toInt64).toInt = x.toInt % m.toInt := by
    rw [Int64.toInt_sub, d2, Int.bmod_eq_of_le] <;> omega
  rw [Int64.toInt_toInt32, d3, Int.bmod_eq_of_le] <;> omega
end JN2_4
section JN2_5
abbrev w_X5_at : cw_W := ([], [], [], [])
set_option maxRecDepth 100000 in
set_option maxHeartbeats 4000000 in
theorem t_X5_at (Γ : hp_G) (l : Launch) (α : hp_T) (g : GC α) (a0 : Nat) (k0 : hp_K α a0 = 6) (a1 : Int32) : Met l yX5_at (hp_ws yX5_at cX5_at 2 (some .int)) (hp_rm 0 0 0) (hp_Pc Γ α [.ref a0, .int a1]) (hp_Qi Γ (fun r β => β = α)) 0 0 (hp_A Γ) := by
  refine hp_start (by decide) ?_
  intro p e s m below meth c C hr hlk B0 hnm
  have C : hp_C Γ p m c cX5_at 2 s ([.ref a0, .int a1] : List Value).toArray RX5 := C
  have hx := C.1.1
  have hb := C.1.2.1
  have hown := C.1.2.2.2.1
  have hts := C.1.2.2.2.2
  have B : hp_B Γ (cw w_X5_at) s α α s.heap [] := ⟨B0.1, B0.2.1, cw_rf g⟩
  have lit0 : (0 : Int32).toInt = 0 := by decide
  have lit64 : (64 : Int32).toInt = 64 := by decide
  have hl := lv_entry ([.ref a0, .int a1]) (n := 2) (Nat.le_of_ble_eq_true rfl)
  show W p l e (hp_rm 0 0 0) s m ([.ref a0, .int a1] : List Value).toArray below meth c s.heap [] 0 0 (MQ below (hp_Qi Γ (fun r β => β = α)) ([.ref a0, .int a1] : List Value).toArray s 0 0 (hp_A Γ)) (entryFrame m ([.ref a0, .int a1] : List Value).toArray 2)
  rw [lg_entry_eq]
  generalize (lg_sl ([.ref a0, .int a1]) ++ List.replicate (2 - (lg_sl ([.ref a0, .int a1])).length) Slot.unset).toArray = ls at hl ⊢
  have hl : lv_has ls 2 [(0, .ref a0), (1, .int a1)] := hl
  refine lv_iload_n hx hb dX5_at_0 rfl (lv_at hl 1 rfl) (hp_n (n := 1) rfl ?_)
  refine lv_if_lt (tgt := 30) hx hb dX5_at_1 (by decide) (fun c_1 => ?_) (fun c_1 => hp_n (n := 4) rfl ?_)
  ·
    have jc_1 := il_lt c_1
    refine lv_iconst (v := 0) hx hb dX5_at_30 (by decide) (hp_n (n := 31) rfl ?_)
    exact q_iret C B hr hlk rfl dX5_at_31
  ·
    have jc_1 := il_nlt c_1
    refine lv_iload_n hx hb dX5_at_4 rfl (lv_at hl 1 rfl) (hp_n (n := 5) rfl ?_)
    refine lv_aload_n hx hb dX5_at_5 rfl (lv_at hl 0 rfl) (hp_n (n := 6) rfl ?_)
    refine q_geti (κ := 6) (k := 1) (φ := 301) (pc' := 9) C B (cw_k B.2.2 k0) fl_X5_15 rfl rfl rfl dX5_at_6 rfl (fun x_2 ex_2 => ?_)
    refine lv_icmp_ge (tgt := 30) hx hb dX5_at_9 (by decide) (fun c_3 => ?_) (fun c_3 => hp_n (n := 12) rfl ?_)
    ·
      have jc_3 := il_le c_3
      refine lv_iconst (v := 0) hx hb dX5_at_30 (by decide) (hp_n (n := 31) rfl ?_)
      exact q_iret C B hr hlk rfl dX5_at_31
    ·
      have jc_3 := il_nle c_3
      refine lv_iload_n hx hb dX5_at_12 rfl (lv_at hl 1 rfl) (hp_n (n := 13) rfl ?_)
      refine lv_aload_n hx hb dX5_at_13 rfl (lv_at hl 0 rfl) (hp_n (n := 14) rfl ?_)
      refine q_getr (κ := 6) (k := 0) (φ := 300) (pc' := 17) C B (cw_k B.2.2 k0) fl_X5_9 rfl rfl rfl (cw_r B.2.2 k0 rfl rfl (by decide) (by decide)) dX5_at_14 rfl (fun b_4 eb_4 kb_4 => ?_)
      refine q_alen (κ := 20) (t := 0) (n := 64) (x := 64) (ty := .int) (pc' := 18) C B (cw_k B.2.2 kb_4) (by decide) rfl rfl rfl dX5_at_17 rfl ?_
      refine lv_icmp_ge (tgt := 30) hx hb dX5_at_18 (by decide) (fun c_5 => ?_) (fun c_5 => hp_n (n := 21) rfl ?_)
      ·
        have jc_5 := il_le c_5
        refine lv_iconst (v := 0) hx hb dX5_at_30 (by decide) (hp_n (n := 31) rfl ?_)
        exact q_iret C B hr hlk rfl dX5_at_31
      ·
        have jc_5 := il_nle c_5
        refine lv_aload_n hx hb dX5_at_21 rfl (lv_at hl 0 rfl) (hp_n (n := 22) rfl ?_)
        refine q_gets (κ := 6) (k := 0) (φ := 300) (pc' := 25) C B (cw_k B.2.2 k0) fl_X5_9 rfl rfl rfl eb_4 dX5_at_22 rfl ?_
        refine lv_iload_n hx hb dX5_at_25 rfl (lv_at hl 1 rfl) (hp_n (n := 26) rfl ?_)
        refine q_ial (κ := 20) (n := 64) (pc' := 27) C B (cw_k B.2.2 kb_4) (by decide) rfl (vi_of (by omega) (by omega)) dX5_at_26 rfl (lv_topi (fun x_6 ex_6 => ?_))
        refine lv_goto (tgt := 31) hx hb dX5_at_27 (by decide) ?_
        exact q_iret C B hr hlk rfl dX5_at_31
abbrev w_X5_put : cw_W := ([301], [], [20], [])
set_option maxRecDepth 100000 in
set_option maxHeartbeats 4000000 in
theorem t_X5_put (Γ : hp_G) (l : Launch) (α : hp_T) (g : GC α) (a0 : Nat) (k0 : hp_K α a0 = 6) (a1 : Int32) : Met l yX5_put (hp_ws yX5_put cX5_put 2 none) (hp_rm 0 0 0) (hp_Pc Γ α [.ref a0, .int a1]) (hp_Qv Γ (fun β => cw w_X5_put α β)) 0 0 (hp_A Γ) := by
  refine hp_start (by decide) ?_
  intro p e s m below meth c C hr hlk B0 hnm
  have C : hp_C Γ p m c cX5_put 2 s ([.ref a0, .int a1] : List Value).toArray RX5 := C
  have hx := C.1.1
  have hb := C.1.2.1
  have hown := C.1.2.2.2.1
  have hts := C.1.2.2.2.2
  have B : hp_B Γ (cw w_X5_put) s α α s.heap [] := ⟨B0.1, B0.2.1, cw_rf g⟩
  have lit0 : (0 : Int32).toInt = 0 := by decide
  have lit1 : (1 : Int32).toInt = 1 := by decide
  have lit64 : (64 : Int32).toInt = 64 := by decide
  have hl := lv_entry ([.ref a0, .int a1]) (n := 2) (Nat.le_of_ble_eq_true rfl)
  show W p l e (hp_rm 0 0 0) s m ([.ref a0, .int a1] : List Value).toArray below meth c s.heap [] 0 0 (MQ below (hp_Qv Γ (fun β => cw w_X5_put α β)) ([.ref a0, .int a1] : List Value).toArray s 0 0 (hp_A Γ)) (entryFrame m ([.ref a0, .int a1] : List Value).toArray 2)
  rw [lg_entry_eq]
  generalize (lg_sl ([.ref a0, .int a1]) ++ List.replicate (2 - (lg_sl ([.ref a0, .int a1])).length) Slot.unset).toArray = ls at hl ⊢
  have hl : lv_has ls 2 [(0, .ref a0), (1, .int a1)] := hl
  refine lv_aload_n hx hb dX5_put_0 rfl (lv_at hl 0 rfl) (hp_n (n := 1) rfl ?_)
  refine q_geti (κ := 6) (k := 1) (φ := 301) (pc' := 4) C B (cw_k B.2.2 k0) fl_X5_15 rfl rfl rfl dX5_put_1 rfl (fun x_1 ex_1 => ?_)
  refine lv_if_lt (tgt := 39) hx hb dX5_put_4 (by decide) (fun c_2 => ?_) (fun c_2 => hp_n (n := 7) rfl ?_)
  ·
    have jc_2 := il_lt c_2
    exact q_vret C B hr hlk B.2.2 dX5_put_39
  ·
    have jc_2 := il_nlt c_2
    refine lv_aload_n hx hb dX5_put_7 rfl (lv_at hl 0 rfl) (hp_n (n := 8) rfl ?_)
    refine q_getj (κ := 6) (k := 1) (φ := 301) (pc' := 11) C B (cw_k B.2.2 k0) fl_X5_15 rfl rfl rfl ex_1 dX5_put_8 rfl ?_
    refine lv_aload_n hx hb dX5_put_11 rfl (lv_at hl 0 rfl) (hp_n (n := 12) rfl ?_)
    refine q_getr (κ := 6) (k := 0) (φ := 300) (pc' := 15) C B (cw_k B.2.2 k0) fl_X5_9 rfl rfl rfl (cw_r B.2.2 k0 rfl rfl (by decide) (by decide)) dX5_put_12 rfl (fun b_3 eb_3 kb_3 => ?_)
    refine q_alen (κ := 20) (t := 0) (n := 64) (x := 64) (ty := .int) (pc' := 16) C B (cw_k B.2.2 kb_3) (by decide) rfl rfl rfl dX5_put_15 rfl ?_
    refine lv_icmp_ge (tgt := 39) hx hb dX5_put_16 (by decide) (fun c_4 => ?_) (fun c_4 => hp_n (n := 19) rfl ?_)
    ·
      have jc_4 := il_le c_4
      exact q_vret C B hr hlk B.2.2 dX5_put_39
    ·
      have jc_4 := il_nle c_4
      refine lv_aload_n hx hb dX5_put_19 rfl (lv_at hl 0 rfl) (hp_n (n := 20) rfl ?_)
      refine q_gets (κ := 6) (k := 0) (φ := 300) (pc' := 23) C B (cw_k B.2.2 k0) fl_X5_9 rfl rfl rfl eb_3 dX5_put_20 rfl ?_
      refine lv_aload_n hx hb dX5_put_23 rfl (lv_at hl 0 rfl) (hp_n (n := 24) rfl ?_)
      refine q_getj (κ := 6) (k := 1) (φ := 301) (pc' := 27) C B (cw_k B.2.2 k0) fl_X5_15 rfl rfl rfl ex_1 dX5_put_24 rfl ?_
      refine lv_iload_n hx hb dX5_put_27 rfl (lv_at hl 1 rfl) (hp_n (n := 28) rfl ?_)
      refine q_ias (κ := 20) (n := 64) (pc' := 29) C B (cw_k B.2.2 kb_3) (by decide) rfl (vi_of (by omega) (by omega)) rfl (cw_sE B.2.2 (by decide)) dX5_put_28 rfl (fun αh_5 Hh_5 Lh_5 eh_5 Bh_5 => ?_)
      refine lv_aload_n hx hb dX5_put_29 rfl (lv_at hl 0 rfl) (hp_n (n := 30) rfl ?_)
      refine lv_dup hx hb dX5_put_30 rfl (hp_n (n := 31) rfl ?_)
      have t_6 : x_1 = hp_I αh_5 301 a0 := by rw [eh_5]; exact ex_1
      refine q_getj (κ := 6) (k := 1) (φ := 301) (pc' := 34) C Bh_5 (cw_k Bh_5.2.2 k0) fl_X5_15 rfl rfl rfl t_6 dX5_put_31 rfl ?_
      refine lv_iconst (v := 1) hx hb dX5_put_34 (by decide) (hp_n (n := 35) rfl ?_)
      refine lv_iadd hx hb dX5_put_35 (hp_n (n := 36) rfl (lv_topi (fun x_7 ex_7 => ?_)))
      have qx_7 : x_7.toInt = x_1.toInt + 1 := by have qa := ib_lo x_1; rw [ex_7]; exact ii_add (by omega) (by omega)
      refine q_puti (κ := 6) (k := 1) (φ := 301) (pc' := 39) C Bh_5 (cw_k Bh_5.2.2 k0) fl_X5_15 rfl rfl rfl rfl rfl rfl (cw_sI Bh_5.2.2 (by decide) (fun _ => by rw [qx_7]; omega)) dX5_put_36 rfl (fun αh_8 Hh_8 Lh_8 eh_8 Bh_8 => ?_)
      exact q_vret C Bh_8 hr hlk Bh_8.2.2 dX5_put_39
abbrev w_X5_change : cw_W := ([], [], [20], [])
set_option maxRecDepth 100000 in
set_option maxHeartbeats 4000000 in
theorem t_X5_change (Γ : hp_G) (l : Launch) (α : hp_T) (g : GC α) (a0 : Nat) (k0 : hp_K α a0 = 6) (a1 : Int32) (a2 : Int32) : Met l yX5_change (hp_ws yX5_change cX5_change 3 none) (hp_rm 0 0 0) (hp_Pc Γ α [.ref a0, .int a1, .int a2]) (hp_Qv Γ (fun β => cw w_X5_change α β)) 0 0 (hp_A Γ) := by
  refine hp_start (by decide) ?_
  intro p e s m below meth c C hr hlk B0 hnm
  have C : hp_C Γ p m c cX5_change 3 s ([.ref a0, .int a1, .int a2] : List Value).toArray RX5 := C
  have hx := C.1.1
  have hb := C.1.2.1
  have hown := C.1.2.2.2.1
  have hts := C.1.2.2.2.2
  have B : hp_B Γ (cw w_X5_change) s α α s.heap [] := ⟨B0.1, B0.2.1, cw_rf g⟩
  have lit0 : (0 : Int32).toInt = 0 := by decide
  have lit64 : (64 : Int32).toInt = 64 := by decide
  have hl := lv_entry ([.ref a0, .int a1, .int a2]) (n := 3) (Nat.le_of_ble_eq_true rfl)
  show W p l e (hp_rm 0 0 0) s m ([.ref a0, .int a1, .int a2] : List Value).toArray below meth c s.heap [] 0 0 (MQ below (hp_Qv Γ (fun β => cw w_X5_change α β)) ([.ref a0, .int a1, .int a2] : List Value).toArray s 0 0 (hp_A Γ)) (entryFrame m ([.ref a0, .int a1, .int a2] : List Value).toArray 3)
  rw [lg_entry_eq]
  generalize (lg_sl ([.ref a0, .int a1, .int a2]) ++ List.replicate (3 - (lg_sl ([.ref a0, .int a1, .int a2])).length) Slot.unset).toArray = ls at hl ⊢
  have hl : lv_has ls 3 [(0, .ref a0), (1, .int a1), (2, .int a2)] := hl
  refine lv_iload_n hx hb dX5_change_0 rfl (lv_at hl 1 rfl) (hp_n (n := 1) rfl ?_)
  refine lv_if_lt (tgt := 28) hx hb dX5_change_1 (by decide) (fun c_1 => ?_) (fun c_1 => hp_n (n := 4) rfl ?_)
  ·
    have jc_1 := il_lt c_1
    exact q_vret C B hr hlk B.2.2 dX5_change_28
  ·
    have jc_1 := il_nlt c_1
    refine lv_iload_n hx hb dX5_change_4 rfl (lv_at hl 1 rfl) (hp_n (n := 5) rfl ?_)
    refine lv_aload_n hx hb dX5_change_5 rfl (lv_at hl 0 rfl) (hp_n (n := 6) rfl ?_)
    refine q_geti (κ := 6) (k := 1) (φ := 301) (pc' := 9) C B (cw_k B.2.2 k0) fl_X5_15 rfl rfl rfl dX5_change_6 rfl (fun x_2 ex_2 => ?_)
    refine lv_icmp_ge (tgt := 28) hx hb dX5_change_9 (by decide) (fun c_3 => ?_) (fun c_3 => hp_n (n := 12) rfl ?_)
    ·
      have jc_3 := il_le c_3
      exact q_vret C B hr hlk B.2.2 dX5_change_28
    ·
      have jc_3 := il_nle c_3
      refine lv_iload_n hx hb dX5_change_12 rfl (lv_at hl 1 rfl) (hp_n (n := 13) rfl ?_)
      refine lv_aload_n hx hb dX5_change_13 rfl (lv_at hl 0 rfl) (hp_n (n := 14) rfl ?_)
      refine q_getr (κ := 6) (k := 0) (φ := 300) (pc' := 17) C B (cw_k B.2.2 k0) fl_X5_9 rfl rfl rfl (cw_r B.2.2 k0 rfl rfl (by decide) (by decide)) dX5_change_14 rfl (fun b_4 eb_4 kb_4 => ?_)
      refine q_alen (κ := 20) (t := 0) (n := 64) (x := 64) (ty := .int) (pc' := 18) C B (cw_k B.2.2 kb_4) (by decide) rfl rfl rfl dX5_change_17 rfl ?_
      refine lv_icmp_ge (tgt := 28) hx hb dX5_change_18 (by decide) (fun c_5 => ?_) (fun c_5 => hp_n (n := 21) rfl ?_)
      ·
        have jc_5 := il_le c_5
        exact q_vret C B hr hlk B.2.2 dX5_change_28
      ·
        have jc_5 := il_nle c_5
        refine lv_aload_n hx hb dX5_change_21 rfl (lv_at hl 0 rfl) (hp_n (n := 22) rfl ?_)
        refine q_gets (κ := 6) (k := 0) (φ := 300) (pc' := 25) C B (cw_k B.2.2 k0) fl_X5_9 rfl rfl rfl eb_4 dX5_change_22 rfl ?_
        refine lv_iload_n hx hb dX5_change_25 rfl (lv_at hl 1 rfl) (hp_n (n := 26) rfl ?_)
        refine lv_iload_n hx hb dX5_change_26 rfl (lv_at hl 2 rfl) (hp_n (n := 27) rfl ?_)
        refine q_ias (κ := 20) (n := 64) (pc' := 28) C B (cw_k B.2.2 kb_4) (by decide) rfl (vi_of (by omega) (by omega)) rfl (cw_sE B.2.2 (by decide)) dX5_change_27 rfl (fun αh_6 Hh_6 Lh_6 eh_6 Bh_6 => ?_)
        exact q_vret C Bh_6 hr hlk Bh_6.2.2 dX5_change_28
abbrev w_X5_shorten : cw_W := ([301], [], [], [])
set_option maxRecDepth 100000 in
set_option maxHeartbeats 4000000 in
theorem t_X5_shorten (Γ : hp_G) (l : Launch) (α : hp_T) (g : GC α) (a0 : Nat) (k0 : hp_K α a0 = 6) (a1 : Int32) : Met l yX5_shorten (hp_ws yX5_shorten cX5_shorten 2 none) (hp_rm 0 0 0) (hp_Pc Γ α [.ref a0, .int a1]) (hp_Qv Γ (fun β => cw w_X5_shorten α β)) 0 0 (hp_A Γ) := by
  refine hp_start (by decide) ?_
  intro p e s m below meth c C hr hlk B0 hnm
  have C : hp_C Γ p m c cX5_shorten 2 s ([.ref a0, .int a1] : List Value).toArray RX5 := C
  have hx := C.1.1
  have hb := C.1.2.1
  have hown := C.1.2.2.2.1
  have hts := C.1.2.2.2.2
  have B : hp_B Γ (cw w_X5_shorten) s α α s.heap [] := ⟨B0.1, B0.2.1, cw_rf g⟩
  have lit0 : (0 : Int32).toInt = 0 := by decide
  have hl := lv_entry ([.ref a0, .int a1]) (n := 2) (Nat.le_of_ble_eq_true rfl)
  show W p l e (hp_rm 0 0 0) s m ([.ref a0, .int a1] : List Value).toArray below meth c s.heap [] 0 0 (MQ below (hp_Qv Γ (fun β => cw w_X5_shorten α β)) ([.ref a0, .int a1] : List Value).toArray s 0 0 (hp_A Γ)) (entryFrame m ([.ref a0, .int a1] : List Value).toArray 2)
  rw [lg_entry_eq]
  generalize (lg_sl ([.ref a0, .int a1]) ++ List.replicate (2 - (lg_sl ([.ref a0, .int a1])).length) Slot.unset).toArray = ls at hl ⊢
  have hl : lv_has ls 2 [(0, .ref a0), (1, .int a1)] := hl
  refine lv_iload_n hx hb dX5_shorten_0 rfl (lv_at hl 1 rfl) (hp_n (n := 1) rfl ?_)
  refine lv_if_lt (tgt := 17) hx hb dX5_shorten_1 (by decide) (fun c_1 => ?_) (fun c_1 => hp_n (n := 4) rfl ?_)
  ·
    have jc_1 := il_lt c_1
    exact q_vret C B hr hlk B.2.2 dX5_shorten_17
  ·
    have jc_1 := il_nlt c_1
    refine lv_iload_n hx hb dX5_shorten_4 rfl (lv_at hl 1 rfl) (hp_n (n := 5) rfl ?_)
    refine lv_aload_n hx hb dX5_shorten_5 rfl (lv_at hl 0 rfl) (hp_n (n := 6) rfl ?_)
    refine q_geti (κ := 6) (k := 1) (φ := 301) (pc' := 9) C B (cw_k B.2.2 k0) fl_X5_15 rfl rfl rfl dX5_shorten_6 rfl (fun x_2 ex_2 => ?_)
    refine lv_icmp_ge (tgt := 17) hx hb dX5_shorten_9 (by decide) (fun c_3 => ?_) (fun c_3 => hp_n (n := 12) rfl ?_)
    ·
      have jc_3 := il_le c_3
      exact q_vret C B hr hlk B.2.2 dX5_shorten_17
    ·
      have jc_3 := il_nle c_3
      refine lv_aload_n hx hb dX5_shorten_12 rfl (lv_at hl 0 rfl) (hp_n (n := 13) rfl ?_)
      refine lv_iload_n hx hb dX5_shorten_13 rfl (lv_at hl 1 rfl) (hp_n (n := 14) rfl ?_)
      refine q_puti (κ := 6) (k := 1) (φ := 301) (pc' := 17) C B (cw_k B.2.2 k0) fl_X5_15 rfl rfl rfl rfl rfl rfl (cw_sI B.2.2 (by decide) (fun _ => by have q0 := g.1 301 a0 rfl; rw [← ex_2] at q0; omega)) dX5_shorten_14 rfl (fun αh_4 Hh_4 Lh_4 eh_4 Bh_4 => ?_)
      exact q_vret C Bh_4 hr hlk Bh_4.2.2 dX5_shorten_17
abbrev w_X5_countOf : cw_W := ([], [], [], [])
set_option maxRecDepth 100000 in
set_option maxHeartbeats 4000000 in
theorem t_X5_countOf (Γ : hp_G) (l : Launch) (α : hp_T) (g : GC α) (a0 : Nat) (k0 : hp_K α a0 = 6) (a1 : Int32) : Met l yX5_countOf (hp_ws yX5_countOf cX5_countOf 4 (some .int)) (hp_rm 1 0 0) (hp_Pc Γ α [.ref a0, .int a1]) (hp_Qi Γ (fun r β => β = α)) 0 0 (hp_A Γ) := by
  refine hp_start (by decide) ?_
  intro p e s m below meth c C hr hlk B0 hnm
  have C : hp_C Γ p m c cX5_countOf 4 s ([.ref a0, .int a1] : List Value).toArray RX5 := C
  have hx := C.1.1
  have hb := C.1.2.1
  have hown := C.1.2.2.2.1
  have hts := C.1.2.2.2.2
  have B : hp_B Γ (cw w_X5_countOf) s α α s.heap [] := ⟨B0.1, B0.2.1, cw_rf g⟩
  have lit0 : (0 : Int32).toInt = 0 := by decide
  have lit1 : (1 : Int32).toInt = 1 := by decide
  have hl := lv_entry ([.ref a0, .int a1]) (n := 4) (Nat.le_of_ble_eq_true rfl)
  show W p l e (hp_rm 1 0 0) s m ([.ref a0, .int a1] : List Value).toArray below meth c s.heap [] 0 0 (MQ below (hp_Qi Γ (fun r β => β = α)) ([.ref a0, .int a1] : List Value).toArray s 0 0 (hp_A Γ)) (entryFrame m ([.ref a0, .int a1] : List Value).toArray 4)
  rw [lg_entry_eq]
  generalize (lg_sl ([.ref a0, .int a1]) ++ List.replicate (4 - (lg_sl ([.ref a0, .int a1])).length) Slot.unset).toArray = ls at hl ⊢
  have hl : lv_has ls 4 [(0, .ref a0), (1, .int a1)] := hl
  refine lv_iconst (v := 0) hx hb dX5_countOf_0 (by decide) (hp_n (n := 1) rfl ?_)
  refine lv_istore_n (lv' := [(2, .int 0), (0, .ref a0), (1, .int a1)]) hx hb dX5_countOf_1 rfl hl (by decide) rfl (fun ls hl => hp_n (n := 2) rfl ?_)
  refine lv_iconst (v := 0) hx hb dX5_countOf_2 (by decide) (hp_n (n := 3) rfl ?_)
  have J4 : ∀ (nq : Nat) (Hh_1 : Heap) (Lh_1 : List Loc) (Bh_1 : hp_B Γ (cw w_X5_countOf) s α α Hh_1 Lh_1) (v2_h_1 : Int32) (v3_h_1 : Int32) (ih_1_0 : 0 ≤ v3_h_1.toInt) (ls : Array Slot) (hl : lv_has ls 4 [(0, .ref a0), (1, .int a1), (2, .int v2_h_1), (3, .int v3_h_1)]) (hmu4 : (2147483647 - v3_h_1.toInt).toNat = nq), W p l e (hp_rm 1 0 0) s m ([.ref a0, .int a1] : List Value).toArray below meth c Hh_1 Lh_1 0 0 (MQ below (hp_Qi Γ (fun r β => β = α)) ([.ref a0, .int a1] : List Value).toArray s 0 0 (hp_A Γ)) (F0 m 4 ls []) := by
    intro nq
    induction nq using Nat.strongRecOn with
    | ind nq ih4 =>
    intro Hh_1 Lh_1 Bh_1 v2_h_1 v3_h_1 ih_1_0 ls hl hmu4
    have inv4_0 := ih_1_0
    refine lv_iload_n hx hb dX5_countOf_4 rfl (lv_at hl 3 rfl) (hp_n (n := 5) rfl ?_)
    refine lv_aload_n hx hb dX5_countOf_5 rfl (lv_at hl 0 rfl) (hp_n (n := 6) rfl ?_)
    refine q_geti (κ := 6) (k := 1) (φ := 301) (pc' := 9) C Bh_1 (cw_k Bh_1.2.2 k0) fl_X5_15 rfl rfl rfl dX5_countOf_6 rfl (fun x_2 ex_2 => ?_)
    refine lv_icmp_ge (tgt := 30) hx hb dX5_countOf_9 (by decide) (fun c_3 => ?_) (fun c_3 => hp_n (n := 12) rfl ?_)
    ·
      have jc_3 := il_le c_3
      refine lv_iload_n hx hb dX5_countOf_30 rfl (lv_at hl 2 rfl) (hp_n (n := 31) rfl ?_)
      exact q_iret C Bh_1 hr hlk rfl dX5_countOf_31
    ·
      have jc_3 := il_nle c_3
      refine lv_aload_n hx hb dX5_countOf_12 rfl (lv_at hl 0 rfl) (hp_n (n := 13) rfl ?_)
      refine lv_iload_n hx hb dX5_countOf_13 rfl (lv_at hl 3 rfl) (hp_n (n := 14) rfl ?_)
      refine q_ci (pc' := 17) Bh_1 (hp_runV (As := [.int v3_h_1]) (rest := []) C Bh_1 (t_X5_at Γ l α Bh_1.2.2.1 a0 (cw_k Bh_1.2.2 k0) v3_h_1) lb_X5_at lv_X5_at lk_X5_19 (cw_k Bh_1.2.2 k0) rfl (by decide) rfl hl.1 rfl (Nat.le_of_ble_eq_true rfl) dX5_countOf_14 ⟨Nat.le_refl _, Nat.le_refl _⟩) (fun _ _ h => by rw [h]; exact Bh_1.2.2) rfl (fun rh_4 αh_4 Hh_4 Lh_4 ph_4 Bh_4 => ?_)
      rw [ph_4] at Bh_4
      refine lv_iload_n hx hb dX5_countOf_17 rfl (lv_at hl 1 rfl) (hp_n (n := 18) rfl ?_)
      refine lv_icmp_ne (tgt := 24) hx hb dX5_countOf_18 (by decide) (fun c_5 => ?_) (fun c_5 => hp_n (n := 21) rfl ?_)
      ·
        have jc_5 := il_ne c_5
        obtain ⟨x_6, ex_6⟩ : ∃ y : Int32, y = v3_h_1 + 1 := ⟨_, rfl⟩
        have qx_6 : x_6.toInt = v3_h_1.toInt + 1 := by have q0 := ib_hi x_2; have qa := ib_lo v3_h_1; rw [ex_6]; exact ii_add (by omega) (by omega)
        refine lv_iinc (v := x_6) (lv' := [(3, .int x_6), (0, .ref a0), (1, .int a1), (2, .int v2_h_1)]) hx hb dX5_countOf_24 hl (k := 3) rfl (by rw [ex_6]; rfl) (by decide) rfl (fun ls hl => hp_n (n := 27) rfl ?_)
        refine lv_goto (tgt := 4) hx hb dX5_countOf_27 (by decide) ?_
        exact ih4 _ (by have q0 := ib_hi x_2; have q1 := ib_lo x_2; have qa := ib_hi v3_h_1; have qb := ib_lo v3_h_1; have qc : (v3_h_1 + 1).toInt = v3_h_1.toInt + (1 : Int32).toInt := ii_add (by omega) (by omega); rw [ex_6]; omega) Hh_4 Lh_4 Bh_4 v2_h_1 x_6 (by omega) ls (lv_sub hl [1, 2, 3, 0] rfl) rfl
      ·
        have jc_5 := il_eq c_5
        obtain ⟨x_7, ex_7⟩ : ∃ y : Int32, y = v2_h_1 + 1 := ⟨_, rfl⟩
        refine lv_iinc (v := x_7) (lv' := [(2, .int x_7), (0, .ref a0), (1, .int a1), (3, .int v3_h_1)]) hx hb dX5_countOf_21 hl (k := 2) rfl (by rw [ex_7]; rfl) (by decide) rfl (fun ls hl => hp_n (n := 24) rfl ?_)
        obtain ⟨x_8, ex_8⟩ : ∃ y : Int32, y = v3_h_1 + 1 := ⟨_, rfl⟩
        have qx_8 : x_8.toInt = v3_h_1.toInt + 1 := by have q0 := ib_hi x_2; have qa := ib_lo v3_h_1; rw [ex_8]; exact ii_add (by omega) (by omega)
        refine lv_iinc (v := x_8) (lv' := [(3, .int x_8), (2, .int x_7), (0, .ref a0), (1, .int a1)]) hx hb dX5_countOf_24 hl (k := 3) rfl (by rw [ex_8]; rfl) (by decide) rfl (fun ls hl => hp_n (n := 27) rfl ?_)
        refine lv_goto (tgt := 4) hx hb dX5_countOf_27 (by decide) ?_
        exact ih4 _ (by have q0 := ib_hi x_2; have q1 := ib_lo x_2; have qa := ib_hi v3_h_1; have qb := ib_lo v3_h_1; have qc : (v3_h_1 + 1).toInt = v3_h_1.toInt + (1 : Int32).toInt := ii_add (by omega) (by omega); rw [ex_8]; omega) Hh_4 Lh_4 Bh_4 x_7 x_8 (by omega) ls (lv_sub hl [2, 3, 1, 0] rfl) rfl
  refine lv_istore_n (lv' := [(3, .int 0), (2, .int 0), (0, .ref a0), (1, .int a1)]) hx hb dX5_countOf_3 rfl hl (by decide) rfl (fun ls hl => hp_n (n := 4) rfl ?_)
  exact J4 _ s.heap [] B 0 0 (by omega) ls (lv_sub hl [2, 3, 1, 0] rfl) rfl
end JN2_5
section JN2_6
abbrev w_X9_clear : cw_W := ([501], [], [], [])
abbrev w_X9_put : cw_W := ([501], [], [27], [])
abbrev w_X9_letterAt : cw_W := ([], [], [], [])
set_option maxRecDepth 100000 in
set_option maxHeartbeats 4000000 in
theorem t_X9_letterAt (Γ : hp_G) (l : Launch) (α : hp_T) (g : GC α) (a0 : Nat) (k0 : hp_K α a0 = 10) (a1 : Int32) : Met l yX9_letterAt (hp_ws yX9_letterAt cX9_letterAt 2 (some .int)) (hp_rm 0 0 0) (hp_Pc Γ α [.ref a0, .int a1]) (hp_Qi Γ (fun r β => β = α)) 0 0 (hp_A Γ) := by
  refine hp_start (by decide) ?_
  intro p e s m below meth c C hr hlk B0 hnm
  have C : hp_C Γ p m c cX9_letterAt 2 s ([.ref a0, .int a1] : List Value).toArray RX9 := C
  have hx := C.1.1
  have hb := C.1.2.1
  have hown := C.1.2.2.2.1
  have hts := C.1.2.2.2.2
  have B : hp_B Γ (cw w_X9_letterAt) s α α s.heap [] := ⟨B0.1, B0.2.1, cw_rf g⟩
  have lit0 : (0 : Int32).toInt = 0 := by decide
  have lit8 : (8 : Int32).toInt = 8 := by decide
  have hl := lv_entry ([.ref a0, .int a1]) (n := 2) (Nat.le_of_ble_eq_true rfl)
  show W p l e (hp_rm 0 0 0) s m ([.ref a0, .int a1] : List Value).toArray below meth c s.heap [] 0 0 (MQ below (hp_Qi Γ (fun r β => β = α)) ([.ref a0, .int a1] : List Value).toArray s 0 0 (hp_A Γ)) (entryFrame m ([.ref a0, .int a1] : List Value).toArray 2)
  rw [lg_entry_eq]
  generalize (lg_sl ([.ref a0, .int a1]) ++ List.replicate (2 - (lg_sl ([.ref a0, .int a1])).length) Slot.unset).toArray = ls at hl ⊢
  have hl : lv_has ls 2 [(0, .ref a0), (1, .int a1)] := hl
  refine lv_iload_n hx hb dX9_letterAt_0 rfl (lv_at hl 1 rfl) (hp_n (n := 1) rfl ?_)
  refine lv_if_lt (tgt := 30) hx hb dX9_letterAt_1 (by decide) (fun c_1 => ?_) (fun c_1 => hp_n (n := 4) rfl ?_)
  ·
    have jc_1 := il_lt c_1
    refine lv_iconst (v := 0) hx hb dX9_letterAt_30 (by decide) (hp_n (n := 31) rfl ?_)
    exact q_iret C B hr hlk rfl dX9_letterAt_31
  ·
    have jc_1 := il_nlt c_1
    refine lv_iload_n hx hb dX9_letterAt_4 rfl (lv_at hl 1 rfl) (hp_n (n := 5) rfl ?_)
    refine lv_aload_n hx hb dX9_letterAt_5 rfl (lv_at hl 0 rfl) (hp_n (n := 6) rfl ?_)
    refine q_geti (κ := 10) (k := 1) (φ := 501) (pc' := 9) C B (cw_k B.2.2 k0) fl_X9_15 rfl rfl rfl dX9_letterAt_6 rfl (fun x_2 ex_2 => ?_)
    refine lv_icmp_ge (tgt := 30) hx hb dX9_letterAt_9 (by decide) (fun c_3 => ?_) (fun c_3 => hp_n (n := 12) rfl ?_)
    ·
      have jc_3 := il_le c_3
      refine lv_iconst (v := 0) hx hb dX9_letterAt_30 (by decide) (hp_n (n := 31) rfl ?_)
      exact q_iret C B hr hlk rfl dX9_letterAt_31
    ·
      have jc_3 := il_nle c_3
      refine lv_iload_n hx hb dX9_letterAt_12 rfl (lv_at hl 1 rfl) (hp_n (n := 13) rfl ?_)
      refine lv_aload_n hx hb dX9_letterAt_13 rfl (lv_at hl 0 rfl) (hp_n (n := 14) rfl ?_)
      refine q_getr (κ := 10) (k := 0) (φ := 500) (pc' := 17) C B (cw_k B.2.2 k0) fl_X9_9 rfl rfl rfl (cw_r B.2.2 k0 rfl rfl (by decide) (by decide)) dX9_letterAt_14 rfl (fun b_4 eb_4 kb_4 => ?_)
      refine q_alen (κ := 27) (t := 1) (n := 8) (x := 8) (ty := .byte) (pc' := 18) C B (cw_k B.2.2 kb_4) (by decide) rfl rfl rfl dX9_letterAt_17 rfl ?_
      refine lv_icmp_ge (tgt := 30) hx hb dX9_letterAt_18 (by decide) (fun c_5 => ?_) (fun c_5 => hp_n (n := 21) rfl ?_)
      ·
        have jc_5 := il_le c_5
        refine lv_iconst (v := 0) hx hb dX9_letterAt_30 (by decide) (hp_n (n := 31) rfl ?_)
        exact q_iret C B hr hlk rfl dX9_letterAt_31
      ·
        have jc_5 := il_nle c_5
        refine lv_aload_n hx hb dX9_letterAt_21 rfl (lv_at hl 0 rfl) (hp_n (n := 22) rfl ?_)
        refine q_gets (κ := 10) (k := 0) (φ := 500) (pc' := 25) C B (cw_k B.2.2 k0) fl_X9_9 rfl rfl rfl eb_4 dX9_letterAt_22 rfl ?_
        refine lv_iload_n hx hb dX9_letterAt_25 rfl (lv_at hl 1 rfl) (hp_n (n := 26) rfl ?_)
        refine q_bal (κ := 27) (n := 8) (pc' := 27) C B (cw_k B.2.2 kb_4) (by decide) rfl (vi_of (by omega) (by omega)) dX9_letterAt_26 rfl (lv_topi (fun x_6 ex_6 => ?_))
        refine lv_goto (tgt := 31) hx hb dX9_letterAt_27 (by decide) ?_
        exact q_iret C B hr hlk rfl dX9_letterAt_31
abbrev w_X9_change : cw_W := ([], [], [27], [])
abbrev w_X9_copy : cw_W := ([501], [], [27], [])
abbrev w_X9_isLike : cw_W := ([], [], [], [])
set_option maxRecDepth 100000 in
set_option maxHeartbeats 4000000 in
theorem t_X9_isLike (Γ : hp_G) (l : Launch) (α : hp_T) (g : GC α) (a0 : Nat) (k0 : hp_K α a0 = 10) (a1 : Nat) (k1 : hp_K α a1 = 10) : Met l yX9_isLike (hp_ws yX9_isLike cX9_isLike 4 (some .boolean)) (hp_rm 1 0 0) (hp_Pc Γ α [.ref a0, .ref a1]) (hp_Qi Γ (fun r β => β = α ∧ (r = 0 ∨ r = 1))) 0 0 (hp_A Γ) := by
  refine hp_start (by decide) ?_
  intro p e s m below meth c C hr hlk B0 hnm
  have C : hp_C Γ p m c cX9_isLike 4 s ([.ref a0, .ref a1] : List Value).toArray RX9 := C
  have hx := C.1.1
  have hb := C.1.2.1
  have hown := C.1.2.2.2.1
  have hts := C.1.2.2.2.2
  have B : hp_B Γ (cw w_X9_isLike) s α α s.heap [] := ⟨B0.1, B0.2.1, cw_rf g⟩
  have lit0 : (0 : Int32).toInt = 0 := by decide
  have lit1 : (1 : Int32).toInt = 1 := by decide
  have hl := lv_entry ([.ref a0, .ref a1]) (n := 4) (Nat.le_of_ble_eq_true rfl)
  show W p l e (hp_rm 1 0 0) s m ([.ref a0, .ref a1] : List Value).toArray below meth c s.heap [] 0 0 (MQ below (hp_Qi Γ (fun r β => β = α ∧ (r = 0 ∨ r = 1))) ([.ref a0, .ref a1] : List Value).toArray s 0 0 (hp_A Γ)) (entryFrame m ([.ref a0, .ref a1] : List Value).toArray 4)
  rw [lg_entry_eq]
  generalize (lg_sl ([.ref a0, .ref a1]) ++ List.replicate (4 - (lg_sl ([.ref a0, .ref a1])).length) Slot.unset).toArray = ls at hl ⊢
  have hl : lv_has ls 4 [(0, .ref a0), (1, .ref a1)] := hl
  refine lv_aload_n hx hb dX9_isLike_0 rfl (lv_at hl 0 rfl) (hp_n (n := 1) rfl ?_)
  refine q_geti (κ := 10) (k := 1) (φ := 501) (pc' := 4) C B (cw_k B.2.2 k0) fl_X9_15 rfl rfl rfl dX9_isLike_1 rfl (fun x_1 ex_1 => ?_)
  refine lv_aload_n hx hb dX9_isLike_4 rfl (lv_at hl 1 rfl) (hp_n (n := 5) rfl ?_)
  refine q_geti (κ := 10) (k := 1) (φ := 501) (pc' := 8) C B (cw_k B.2.2 k1) fl_X9_15 rfl rfl rfl dX9_isLike_5 rfl (fun x_2 ex_2 => ?_)
  refine lv_icmp_ne (tgt := 15) hx hb dX9_isLike_8 (by decide) (fun c_3 => ?_) (fun c_3 => hp_n (n := 11) rfl ?_)
  ·
    have jc_3 := il_ne c_3
    refine lv_iconst (v := 0) hx hb dX9_isLike_15 (by decide) (hp_n (n := 16) rfl ?_)
    refine lv_istore_n (lv' := [(2, .int 0), (0, .ref a0), (1, .ref a1)]) hx hb dX9_isLike_16 rfl hl (by decide) rfl (fun ls hl => hp_n (n := 17) rfl ?_)
    refine lv_iconst (v := 0) hx hb dX9_isLike_17 (by decide) (hp_n (n := 18) rfl ?_)
    have J19 : ∀ (nq : Nat) (Hh_4 : Heap) (Lh_4 : List Loc) (Bh_4 : hp_B Γ (cw w_X9_isLike) s α α Hh_4 Lh_4) (v2_h_4 : Int32) (zv2_h_4 : v2_h_4 = 0 ∨ v2_h_4 = 1) (v3_h_4 : Int32) (ih_4_0 : 0 ≤ v3_h_4.toInt) (ls : Array Slot) (hl : lv_has ls 4 [(0, .ref a0), (1, .ref a1), (2, .int v2_h_4), (3, .int v3_h_4)]) (hmu19 : (2147483647 - v3_h_4.toInt).toNat = nq), W p l e (hp_rm 1 0 0) s m ([.ref a0, .ref a1] : List Value).toArray below meth c Hh_4 Lh_4 0 0 (MQ below (hp_Qi Γ (fun r β => β = α ∧ (r = 0 ∨ r = 1))) ([.ref a0, .ref a1] : List Value).toArray s 0 0 (hp_A Γ)) (F0 m 19 ls []) := by
      intro nq
      induction nq using Nat.strongRecOn with
      | ind nq ih19 =>
      intro Hh_4 Lh_4 Bh_4 v2_h_4 zv2_h_4 v3_h_4 ih_4_0 ls hl hmu19
      have inv19_0 := ih_4_0
      refine lv_iload_n hx hb dX9_isLike_19 rfl (lv_at hl 3 rfl) (hp_n (n := 20) rfl ?_)
      refine lv_aload_n hx hb dX9_isLike_20 rfl (lv_at hl 0 rfl) (hp_n (n := 21) rfl ?_)
      refine q_getj (κ := 10) (k := 1) (φ := 501) (pc' := 24) C Bh_4 (cw_k Bh_4.2.2 k0) fl_X9_15 rfl rfl rfl ex_1 dX9_isLike_21 rfl ?_
      refine lv_icmp_ge (tgt := 56) hx hb dX9_isLike_24 (by decide) (fun c_5 => ?_) (fun c_5 => hp_n (n := 27) rfl ?_)
      ·
        have jc_5 := il_le c_5
        refine lv_iload_n hx hb dX9_isLike_56 rfl (lv_at hl 2 rfl) (hp_n (n := 57) rfl ?_)
        exact q_zret C Bh_4 hr hlk (nz_z zv2_h_4) ⟨rfl, zv2_h_4⟩ dX9_isLike_57
      ·
        have jc_5 := il_nle c_5
        refine lv_iload_n hx hb dX9_isLike_27 rfl (lv_at hl 2 rfl) (hp_n (n := 28) rfl ?_)
        refine lv_if_eq (tgt := 56) hx hb dX9_isLike_28 (by decide) (fun c_6 => ?_) (fun c_6 => hp_n (n := 31) rfl ?_)
        ·
          have jc_6 := il_eq c_6
          refine lv_iload_n hx hb dX9_isLike_56 rfl (lv_at hl 2 rfl) (hp_n (n := 57) rfl ?_)
          exact q_zret C Bh_4 hr hlk (nz_z zv2_h_4) ⟨rfl, zv2_h_4⟩ dX9_isLike_57
        ·
          have jc_6 := il_ne c_6
          refine lv_aload_n hx hb dX9_isLike_31 rfl (lv_at hl 0 rfl) (hp_n (n := 32) rfl ?_)
          refine lv_iload_n hx hb dX9_isLike_32 rfl (lv_at hl 3 rfl) (hp_n (n := 33) rfl ?_)
          refine q_ci (pc' := 36) Bh_4 (hp_runV (As := [.int v3_h_4]) (rest := []) C Bh_4 (t_X9_letterAt Γ l α Bh_4.2.2.1 a0 (cw_k Bh_4.2.2 k0) v3_h_4) lb_X9_letterAt lv_X9_letterAt lk_X9_22 (cw_k Bh_4.2.2 k0) rfl (by decide) rfl hl.1 rfl (Nat.le_of_ble_eq_true rfl) dX9_isLike_33 ⟨Nat.le_refl _, Nat.le_refl _⟩) (fun _ _ h => by rw [h]; exact Bh_4.2.2) rfl (fun rh_7 αh_7 Hh_7 Lh_7 ph_7 Bh_7 => ?_)
          rw [ph_7] at Bh_7
          refine lv_aload_n hx hb dX9_isLike_36 rfl (lv_at hl 1 rfl) (hp_n (n := 37) rfl ?_)
          refine lv_iload_n hx hb dX9_isLike_37 rfl (lv_at hl 3 rfl) (hp_n (n := 38) rfl ?_)
          refine q_ci (pc' := 41) Bh_7 (hp_runV (As := [.int v3_h_4]) (rest := [.int rh_7]) C Bh_7 (t_X9_letterAt Γ l α Bh_7.2.2.1 a1 (cw_k Bh_7.2.2 k1) v3_h_4) lb_X9_letterAt lv_X9_letterAt lk_X9_22 (cw_k Bh_7.2.2 k1) rfl (by decide) rfl hl.1 rfl (Nat.le_of_ble_eq_true rfl) dX9_isLike_38 ⟨Nat.le_refl _, Nat.le_refl _⟩) (fun _ _ h => by rw [h]; exact Bh_7.2.2) rfl (fun rh_8 αh_8 Hh_8 Lh_8 ph_8 Bh_8 => ?_)
          rw [ph_8] at Bh_8
          refine lv_icmp_ne (tgt := 48) hx hb dX9_isLike_41 (by decide) (fun c_9 => ?_) (fun c_9 => hp_n (n := 44) rfl ?_)
          ·
            have jc_9 := il_ne c_9
            refine lv_iconst (v := 0) hx hb dX9_isLike_48 (by decide) (hp_n (n := 49) rfl ?_)
            refine lv_istore_n (lv' := [(2, .int 0), (0, .ref a0), (1, .ref a1), (3, .int v3_h_4)]) hx hb dX9_isLike_49 rfl hl (by decide) rfl (fun ls hl => hp_n (n := 50) rfl ?_)
            obtain ⟨x_10, ex_10⟩ : ∃ y : Int32, y = v3_h_4 + 1 := ⟨_, rfl⟩
            have qx_10 : x_10.toInt = v3_h_4.toInt + 1 := by have q0 := ib_hi x_1; have qa := ib_lo v3_h_4; rw [ex_10]; exact ii_add (by omega) (by omega)
            refine lv_iinc (v := x_10) (lv' := [(3, .int x_10), (2, .int 0), (0, .ref a0), (1, .ref a1)]) hx hb dX9_isLike_50 hl (k := 3) rfl (by rw [ex_10]; rfl) (by decide) rfl (fun ls hl => hp_n (n := 53) rfl ?_)
            refine lv_goto (tgt := 19) hx hb dX9_isLike_53 (by decide) ?_
            exact ih19 _ (by have q0 := ib_hi x_1; have q1 := ib_lo x_1; have qa := ib_hi v3_h_4; have qb := ib_lo v3_h_4; have qc : (v3_h_4 + 1).toInt = v3_h_4.toInt + (1 : Int32).toInt := ii_add (by omega) (by omega); rw [ex_10]; omega) Hh_8 Lh_8 Bh_8 0 (Or.inl rfl) x_10 (by omega) ls (lv_sub hl [2, 3, 1, 0] rfl) rfl
          ·
            have jc_9 := il_eq c_9
            refine lv_iconst (v := 1) hx hb dX9_isLike_44 (by decide) (hp_n (n := 45) rfl ?_)
            refine lv_goto (tgt := 49) hx hb dX9_isLike_45 (by decide) ?_
            refine lv_istore_n (lv' := [(2, .int 1), (0, .ref a0), (1, .ref a1), (3, .int v3_h_4)]) hx hb dX9_isLike_49 rfl hl (by decide) rfl (fun ls hl => hp_n (n := 50) rfl ?_)
            obtain ⟨x_11, ex_11⟩ : ∃ y : Int32, y = v3_h_4 + 1 := ⟨_, rfl⟩
            have qx_11 : x_11.toInt = v3_h_4.toInt + 1 := by have q0 := ib_hi x_1; have qa := ib_lo v3_h_4; rw [ex_11]; exact ii_add (by omega) (by omega)
            refine lv_iinc (v := x_11) (lv' := [(3, .int x_11), (2, .int 1), (0, .ref a0), (1, .ref a1)]) hx hb dX9_isLike_50 hl (k := 3) rfl (by rw [ex_11]; rfl) (by decide) rfl (fun ls hl => hp_n (n := 53) rfl ?_)
            refine lv_goto (tgt := 19) hx hb dX9_isLike_53 (by decide) ?_
            exact ih19 _ (by have q0 := ib_hi x_1; have q1 := ib_lo x_1; have qa := ib_hi v3_h_4; have qb := ib_lo v3_h_4; have qc : (v3_h_4 + 1).toInt = v3_h_4.toInt + (1 : Int32).toInt := ii_add (by omega) (by omega); rw [ex_11]; omega) Hh_8 Lh_8 Bh_8 1 (Or.inr rfl) x_11 (by omega) ls (lv_sub hl [2, 3, 1, 0] rfl) rfl
    refine lv_istore_n (lv' := [(3, .int 0), (2, .int 0), (0, .ref a0), (1, .ref a1)]) hx hb dX9_isLike_18 rfl hl (by decide) rfl (fun ls hl => hp_n (n := 19) rfl ?_)
    exact J19 _ s.heap [] B 0 (Or.inl rfl) 0 (by omega) ls (lv_sub hl [2, 3, 1, 0] rfl) rfl
  ·
    have jc_3 := il_eq c_3
    refine lv_iconst (v := 1) hx hb dX9_isLike_11 (by decide) (hp_n (n := 12) rfl ?_)
    refine lv_goto (tgt := 16) hx hb dX9_isLike_12 (by decide) ?_
    refine lv_istore_n (lv' := [(2, .int 1), (0, .ref a0), (1, .ref a1)]) hx hb dX9_isLike_16 rfl hl (by decide) rfl (fun ls hl => hp_n (n := 17) rfl ?_)
    refine lv_iconst (v := 0) hx hb dX9_isLike_17 (by decide) (hp_n (n := 18) rfl ?_)
    have J19 : ∀ (nq : Nat) (Hh_12 : Heap) (Lh_12 : List Loc) (Bh_12 : hp_B Γ (cw w_X9_isLike) s α α Hh_12 Lh_12) (v2_h_12 : Int32) (zv2_h_12 : v2_h_12 = 0 ∨ v2_h_12 = 1) (v3_h_12 : Int32) (ih_12_0 : 0 ≤ v3_h_12.toInt) (ls : Array Slot) (hl : lv_has ls 4 [(0, .ref a0), (1, .ref a1), (2, .int v2_h_12), (3, .int v3_h_12)]) (hmu19 : (2147483647 - v3_h_12.toInt).toNat = nq), W p l e (hp_rm 1 0 0) s m ([.ref a0, .ref a1] : List Value).toArray below meth c Hh_12 Lh_12 0 0 (MQ below (hp_Qi Γ (fun r β => β = α ∧ (r = 0 ∨ r = 1))) ([.ref a0, .ref a1] : List Value).toArray s 0 0 (hp_A Γ)) (F0 m 19 ls []) := by
      intro nq
      induction nq using Nat.strongRecOn with
      | ind nq ih19 =>
      intro Hh_12 Lh_12 Bh_12 v2_h_12 zv2_h_12 v3_h_12 ih_12_0 ls hl hmu19
      have inv19_0 := ih_12_0
      refine lv_iload_n hx hb dX9_isLike_19 rfl (lv_at hl 3 rfl) (hp_n (n := 20) rfl ?_)
      refine lv_aload_n hx hb dX9_isLike_20 rfl (lv_at hl 0 rfl) (hp_n (n := 21) rfl ?_)
      refine q_getj (κ := 10) (k := 1) (φ := 501) (pc' := 24) C Bh_12 (cw_k Bh_12.2.2 k0) fl_X9_15 rfl rfl rfl ex_1 dX9_isLike_21 rfl ?_
      refine lv_icmp_ge (tgt := 56) hx hb dX9_isLike_24 (by decide) (fun c_13 => ?_) (fun c_13 => hp_n (n := 27) rfl ?_)
      ·
        have jc_13 := il_le c_13
        refine lv_iload_n hx hb dX9_isLike_56 rfl (lv_at hl 2 rfl) (hp_n (n := 57) rfl ?_)
        exact q_zret C Bh_12 hr hlk (nz_z zv2_h_12) ⟨rfl, zv2_h_12⟩ dX9_isLike_57
      ·
        have jc_13 := il_nle c_13
        refine lv_iload_n hx hb dX9_isLike_27 rfl (lv_at hl 2 rfl) (hp_n (n := 28) rfl ?_)
        refine lv_if_eq (tgt := 56) hx hb dX9_isLike_28 (by decide) (fun c_14 => ?_) (fun c_14 => hp_n (n := 31) rfl ?_)
        ·
          have jc_14 := il_eq c_14
          refine lv_iload_n hx hb dX9_isLike_56 rfl (lv_at hl 2 rfl) (hp_n (n := 57) rfl ?_)
          exact q_zret C Bh_12 hr hlk (nz_z zv2_h_12) ⟨rfl, zv2_h_12⟩ dX9_isLike_57
        ·
          have jc_14 := il_ne c_14
          refine lv_aload_n hx hb dX9_isLike_31 rfl (lv_at hl 0 rfl) (hp_n (n := 32) rfl ?_)
          refine lv_iload_n hx hb dX9_isLike_32 rfl (lv_at hl 3 rfl) (hp_n (n := 33) rfl ?_)
          refine q_ci (pc' := 36) Bh_12 (hp_runV (As := [.int v3_h_12]) (rest := []) C Bh_12 (t_X9_letterAt Γ l α Bh_12.2.2.1 a0 (cw_k Bh_12.2.2 k0) v3_h_12) lb_X9_letterAt lv_X9_letterAt lk_X9_22 (cw_k Bh_12.2.2 k0) rfl (by decide) rfl hl.1 rfl (Nat.le_of_ble_eq_true rfl) dX9_isLike_33 ⟨Nat.le_refl _, Nat.le_refl _⟩) (fun _ _ h => by rw [h]; exact Bh_12.2.2) rfl (fun rh_15 αh_15 Hh_15 Lh_15 ph_15 Bh_15 => ?_)
          rw [ph_15] at Bh_15
          refine lv_aload_n hx hb dX9_isLike_36 rfl (lv_at hl 1 rfl) (hp_n (n := 37) rfl ?_)
          refine lv_iload_n hx hb dX9_isLike_37 rfl (lv_at hl 3 rfl) (hp_n (n := 38) rfl ?_)
          refine q_ci (pc' := 41) Bh_15 (hp_runV (As := [.int v3_h_12]) (rest := [.int rh_15]) C Bh_15 (t_X9_letterAt Γ l α Bh_15.2.2.1 a1 (cw_k Bh_15.2.2 k1) v3_h_12) lb_X9_letterAt lv_X9_letterAt lk_X9_22 (cw_k Bh_15.2.2 k1) rfl (by decide) rfl hl.1 rfl (Nat.le_of_ble_eq_true rfl) dX9_isLike_38 ⟨Nat.le_refl _, Nat.le_refl _⟩) (fun _ _ h => by rw [h]; exact Bh_15.2.2) rfl (fun rh_16 αh_16 Hh_16 Lh_16 ph_16 Bh_16 => ?_)
          rw [ph_16] at Bh_16
          refine lv_icmp_ne (tgt := 48) hx hb dX9_isLike_41 (by decide) (fun c_17 => ?_) (fun c_17 => hp_n (n := 44) rfl ?_)
          ·
            have jc_17 := il_ne c_17
            refine lv_iconst (v := 0) hx hb dX9_isLike_48 (by decide) (hp_n (n := 49) rfl ?_)
            refine lv_istore_n (lv' := [(2, .int 0), (0, .ref a0), (1, .ref a1), (3, .int v3_h_12)]) hx hb dX9_isLike_49 rfl hl (by decide) rfl (fun ls hl => hp_n (n := 50) rfl ?_)
            obtain ⟨x_18, ex_18⟩ : ∃ y : Int32, y = v3_h_12 + 1 := ⟨_, rfl⟩
            have qx_18 : x_18.toInt = v3_h_12.toInt + 1 := by have q0 := ib_hi x_1; have qa := ib_lo v3_h_12; rw [ex_18]; exact ii_add (by omega) (by omega)
            refine lv_iinc (v := x_18) (lv' := [(3, .int x_18), (2, .int 0), (0, .ref a0), (1, .ref a1)]) hx hb dX9_isLike_50 hl (k := 3) rfl (by rw [ex_18]; rfl) (by decide) rfl (fun ls hl => hp_n (n := 53) rfl ?_)
            refine lv_goto (tgt := 19) hx hb dX9_isLike_53 (by decide) ?_
            exact ih19 _ (by have q0 := ib_hi x_1; have q1 := ib_lo x_1; have qa := ib_hi v3_h_12; have qb := ib_lo v3_h_12; have qc : (v3_h_12 + 1).toInt = v3_h_12.toInt + (1 : Int32).toInt := ii_add (by omega) (by omega); rw [ex_18]; omega) Hh_16 Lh_16 Bh_16 0 (Or.inl rfl) x_18 (by omega) ls (lv_sub hl [2, 3, 1, 0] rfl) rfl
          ·
            have jc_17 := il_eq c_17
            refine lv_iconst (v := 1) hx hb dX9_isLike_44 (by decide) (hp_n (n := 45) rfl ?_)
            refine lv_goto (tgt := 49) hx hb dX9_isLike_45 (by decide) ?_
            refine lv_istore_n (lv' := [(2, .int 1), (0, .ref a0), (1, .ref a1), (3, .int v3_h_12)]) hx hb dX9_isLike_49 rfl hl (by decide) rfl (fun ls hl => hp_n (n := 50) rfl ?_)
            obtain ⟨x_19, ex_19⟩ : ∃ y : Int32, y = v3_h_12 + 1 := ⟨_, rfl⟩
            have qx_19 : x_19.toInt = v3_h_12.toInt + 1 := by have q0 := ib_hi x_1; have qa := ib_lo v3_h_12; rw [ex_19]; exact ii_add (by omega) (by omega)
            refine lv_iinc (v := x_19) (lv' := [(3, .int x_19), (2, .int 1), (0, .ref a0), (1, .ref a1)]) hx hb dX9_isLike_50 hl (k := 3) rfl (by rw [ex_19]; rfl) (by decide) rfl (fun ls hl => hp_n (n := 53) rfl ?_)
            refine lv_goto (tgt := 19) hx hb dX9_isLike_53 (by decide) ?_
            exact ih19 _ (by have q0 := ib_hi x_1; have q1 := ib_lo x_1; have qa := ib_hi v3_h_12; have qb := ib_lo v3_h_12; have qc : (v3_h_12 + 1).toInt = v3_h_12.toInt + (1 : Int32).toInt := ii_add (by omega) (by omega); rw [ex_19]; omega) Hh_16 Lh_16 Bh_16 1 (Or.inr rfl) x_19 (by omega) ls (lv_sub hl [2, 3, 1, 0] rfl) rfl
    refine lv_istore_n (lv' := [(3, .int 0), (2, .int 1), (0, .ref a0), (1, .ref a1)]) hx hb dX9_isLike_18 rfl hl (by decide) rfl (fun ls hl => hp_n (n := 19) rfl ?_)
    exact J19 _ s.heap [] B 1 (Or.inr rfl) 0 (by omega) ls (lv_sub hl [2, 3, 1, 0] rfl) rfl
abbrev w_X7_trust : cw_W := ([400, 401], [], [], [])
abbrev w_X7_renew : cw_W := ([400, 401, 402, 403], [], [], [])
abbrev w_X7_hearWhy : cw_W := ([403], [], [], [])
abbrev w_X11_mixed : cw_W := ([], [], [], [])
set_option maxRecDepth 100000 in
set_option maxHeartbeats 4000000 in
theorem t_X11_mixed (Γ : hp_G) (l : Launch) (α : hp_T) (g : GC α) (a0 : Int32) (a1 : Int32) (a2 : Int32) : Met l yX11_mixed (hp_ws yX11_mixed cX11_mixed 3 (some .int)) (hp_rm 0 0 0) (hp_Pc Γ α [.int a0, .int a1, .int a2]) (hp_Qi Γ (fun r β => β = α)) 0 0 (hp_A Γ) := by
  refine hp_start (by decide) ?_
  intro p e s m below meth c C hr hlk B0 hnm
  have C : hp_C Γ p m c cX11_mixed 3 s ([.int a0, .int a1, .int a2] : List Value).toArray RX11 := C
  have hx := C.1.1
  have hb := C.1.2.1
  have hown := C.1.2.2.2.1
  have hts := C.1.2.2.2.2
  have B : hp_B Γ (cw w_X11_mixed) s α α s.heap [] := ⟨B0.1, B0.2.1, cw_rf g⟩
  have lit0 : (0 : Int32).toInt = 0 := by decide
  have hl := lv_entry ([.int a0, .int a1, .int a2]) (n := 3) (Nat.le_of_ble_eq_true rfl)
  show W p l e (hp_rm 0 0 0) s m ([.int a0, .int a1, .int a2] : List Value).toArray below meth c s.heap [] 0 0 (MQ below (hp_Qi Γ (fun r β => β = α)) ([.int a0, .int a1, .int a2] : List Value).toArray s 0 0 (hp_A Γ)) (entryFrame m ([.int a0, .int a1, .int a2] : List Value).toArray 3)
  rw [lg_entry_eq]
  generalize (lg_sl ([.int a0, .int a1, .int a2]) ++ List.replicate (3 - (lg_sl ([.int a0, .int a1, .int a2])).length) Slot.unset).toArray = ls at hl ⊢
  have hl : lv_has ls 3 [(0, .int a0), (1, .int a1), (2, .int a2)] := hl
  refine lv_iload_n hx hb dX11_mixed_0 rfl (lv_at hl 0 rfl) (hp_n (n := 1) rfl ?_)
  refine lv_if_gt (tgt := 6) hx hb dX11_mixed_1 (by decide) (fun c_1 => ?_) (fun c_1 => hp_n (n := 4) rfl ?_)
  ·
    have jc_1 := il_lt c_1
    refine lv_iload_n hx hb dX11_mixed_6 rfl (lv_at hl 1 rfl) (hp_n (n := 7) rfl ?_)
    refine lv_i2l hx hb dX11_mixed_7 rfl (hp_n (n := 8) rfl (lv_topl (fun x_2 ex_2 => ?_)))
    refine lv_iload_n hx hb dX11_mixed_8 rfl (lv_at hl 1 rfl) (hp_n (n := 9) rfl ?_)
    refine lv_i2l hx hb dX11_mixed_9 rfl (hp_n (n := 10) rfl (lv_topl (fun x_3 ex_3 => ?_)))
    refine lv_lmul hx hb dX11_mixed_10 (hp_n (n := 11) rfl (lv_topl (fun x_4 ex_4 => ?_)))
    refine lv_ldc2 hx hb hown (hts _ kc_X11_502) dX11_mixed_11 (hp_n (n := 14) rfl ?_)
    refine lv_iload_n hx hb dX11_mixed_14 rfl (lv_at hl 1 rfl) (hp_n (n := 15) rfl ?_)
    refine lv_i2l hx hb dX11_mixed_15 rfl (hp_n (n := 16) rfl (lv_topl (fun x_5 ex_5 => ?_)))
    refine lv_lmul hx hb dX11_mixed_16 (hp_n (n := 17) rfl (lv_topl (fun x_6 ex_6 => ?_)))
    refine lv_ladd hx hb dX11_mixed_17 (hp_n (n := 18) rfl (lv_topl (fun x_7 ex_7 => ?_)))
    refine lv_iload_n hx hb dX11_mixed_18 rfl (lv_at hl 2 rfl) (hp_n (n := 19) rfl ?_)
    refine lv_i2l hx hb dX11_mixed_19 rfl (hp_n (n := 20) rfl (lv_topl (fun x_8 ex_8 => ?_)))
    refine lv_ladd hx hb dX11_mixed_20 (hp_n (n := 21) rfl (lv_topl (fun x_9 ex_9 => ?_)))
    refine lv_ldc2 hx hb hown (hts _ kc_X11_504) dX11_mixed_21 (hp_n (n := 24) rfl ?_)
    refine lv_ladd hx hb dX11_mixed_24 (hp_n (n := 25) rfl (lv_topl (fun x_10 ex_10 => ?_)))
    refine lv_iload_n hx hb dX11_mixed_25 rfl (lv_at hl 0 rfl) (hp_n (n := 26) rfl ?_)
    refine lv_i2l hx hb dX11_mixed_26 rfl (hp_n (n := 27) rfl (lv_topl (fun x_11 ex_11 => ?_)))
    refine lv_lrem hx hb dX11_mixed_27 (li_nz ex_11 (by omega)) (hp_n (n := 28) rfl (lv_topl (fun x_12 ex_12 => ?_)))
    refine lv_l2i hx hb dX11_mixed_28 rfl (hp_n (n := 29) rfl (lv_topi (fun x_13 ex_13 => ?_)))
    exact q_iret C B hr hlk rfl dX11_mixed_29
  ·
    have jc_1 := il_nlt c_1
    refine lv_iconst (v := 0) hx hb dX11_mixed_4 (by decide) (hp_n (n := 5) rfl ?_)
    exact q_iret C B hr hlk rfl dX11_mixed_5
abbrev w_X11_markOfTwo : cw_W := ([], [], [], [])
set_option maxRecDepth 100000 in
set_option maxHeartbeats 4000000 in
theorem t_X11_markOfTwo (Γ : hp_G) (l : Launch) (α : hp_T) (g : GC α) (a0 : Int32) (a1 : Int32) (a2 : Int32) : Met l yX11_markOfTwo (hp_ws yX11_markOfTwo cX11_markOfTwo 5 (some .int)) (hp_rm 0 0 0) (hp_Pc Γ α [.int a0, .int a1, .int a2]) (hp_Qi Γ (fun r β => β = α)) 0 0 (hp_A Γ) := by
  refine hp_start (by decide) ?_
  intro p e s m below meth c C hr hlk B0 hnm
  have C : hp_C Γ p m c cX11_markOfTwo 5 s ([.int a0, .int a1, .int a2] : List Value).toArray RX11 := C
  have hx := C.1.1
  have hb := C.1.2.1
  have hown := C.1.2.2.2.1
  have hts := C.1.2.2.2.2
  have B : hp_B Γ (cw w_X11_markOfTwo) s α α s.heap [] := ⟨B0.1, B0.2.1, cw_rf g⟩
  have lit0 : (0 : Int32).toInt = 0 := by decide
  have hl := lv_entry ([.int a0, .int a1, .int a2]) (n := 5) (Nat.le_of_ble_eq_true rfl)
  show W p l e (hp_rm 0 0 0) s m ([.int a0, .int a1, .int a2] : List Value).toArray below meth c s.heap [] 0 0 (MQ below (hp_Qi Γ (fun r β => β = α)) ([.int a0, .int a1, .int a2] : List Value).toArray s 0 0 (hp_A Γ)) (entryFrame m ([.int a0, .int a1, .int a2] : List Value).toArray 5)
  rw [lg_entry_eq]
  generalize (lg_sl ([.int a0, .int a1, .int a2]) ++ List.replicate (5 - (lg_sl ([.int a0, .int a1, .int a2])).length) Slot.unset).toArray = ls at hl ⊢
  have hl : lv_has ls 5 [(0, .int a0), (1, .int a1), (2, .int a2)] := hl
  refine lv_iload_n hx hb dX11_markOfTwo_0 rfl (lv_at hl 0 rfl) (hp_n (n := 1) rfl ?_)
  refine lv_if_gt (tgt := 6) hx hb dX11_markOfTwo_1 (by decide) (fun c_1 => ?_) (fun c_1 => hp_n (n := 4) rfl ?_)
  ·
    have jc_1 := il_lt c_1
    refine lv_iload_n hx hb dX11_markOfTwo_6 rfl (lv_at hl 1 rfl) (hp_n (n := 7) rfl ?_)
    refine lv_i2l hx hb dX11_markOfTwo_7 rfl (hp_n (n := 8) rfl (lv_topl (fun x_2 ex_2 => ?_)))
    refine lv_ldc2 hx hb hown (hts _ kc_X11_506) dX11_markOfTwo_8 (hp_n (n := 11) rfl ?_)
    refine lv_ladd hx hb dX11_markOfTwo_11 (hp_n (n := 12) rfl (lv_topl (fun x_3 ex_3 => ?_)))
    refine lv_iload_n hx hb dX11_markOfTwo_12 rfl (lv_at hl 0 rfl) (hp_n (n := 13) rfl ?_)
    refine lv_i2l hx hb dX11_markOfTwo_13 rfl (hp_n (n := 14) rfl (lv_topl (fun x_4 ex_4 => ?_)))
    refine lv_lrem hx hb dX11_markOfTwo_14 (li_nz ex_4 (by omega)) (hp_n (n := 15) rfl (lv_topl (fun x_5 ex_5 => ?_)))
    refine lv_lstore_n (lv' := [(3, .long x_5), (0, .int a0), (1, .int a1), (2, .int a2)]) hx hb dX11_markOfTwo_15 rfl hl (by decide) rfl (fun ls hl => hp_n (n := 16) rfl ?_)
    refine lv_lload_n hx hb dX11_markOfTwo_16 rfl (lv_at hl 0 rfl) (hp_n (n := 17) rfl ?_)
    refine lv_lload_n hx hb dX11_markOfTwo_17 rfl (lv_at hl 0 rfl) (hp_n (n := 18) rfl ?_)
    refine lv_lmul hx hb dX11_markOfTwo_18 (hp_n (n := 19) rfl (lv_topl (fun x_6 ex_6 => ?_)))
    refine lv_ldc2 hx hb hown (hts _ kc_X11_502) dX11_markOfTwo_19 (hp_n (n := 22) rfl ?_)
    refine lv_lload_n hx hb dX11_markOfTwo_22 rfl (lv_at hl 0 rfl) (hp_n (n := 23) rfl ?_)
    refine lv_lmul hx hb dX11_markOfTwo_23 (hp_n (n := 24) rfl (lv_topl (fun x_7 ex_7 => ?_)))
    refine lv_ladd hx hb dX11_markOfTwo_24 (hp_n (n := 25) rfl (lv_topl (fun x_8 ex_8 => ?_)))
    refine lv_iload_n hx hb dX11_markOfTwo_25 rfl (lv_at hl 3 rfl) (hp_n (n := 26) rfl ?_)
    refine lv_i2l hx hb dX11_markOfTwo_26 rfl (hp_n (n := 27) rfl (lv_topl (fun x_9 ex_9 => ?_)))
    refine lv_ladd hx hb dX11_markOfTwo_27 (hp_n (n := 28) rfl (lv_topl (fun x_10 ex_10 => ?_)))
    refine lv_ldc2 hx hb hown (hts _ kc_X11_504) dX11_markOfTwo_28 (hp_n (n := 31) rfl ?_)
    refine lv_ladd hx hb dX11_markOfTwo_31 (hp_n (n := 32) rfl (lv_topl (fun x_11 ex_11 => ?_)))
    refine lv_iload_n hx hb dX11_markOfTwo_32 rfl (lv_at hl 1 rfl) (hp_n (n := 33) rfl ?_)
    refine lv_i2l hx hb dX11_markOfTwo_33 rfl (hp_n (n := 34) rfl (lv_topl (fun x_12 ex_12 => ?_)))
    refine lv_lrem hx hb dX11_markOfTwo_34 (li_nz ex_12 (by omega)) (hp_n (n := 35) rfl (lv_topl (fun x_13 ex_13 => ?_)))
    refine lv_l2i hx hb dX11_markOfTwo_35 rfl (hp_n (n := 36) rfl (lv_topi (fun x_14 ex_14 => ?_)))
    exact q_iret C B hr hlk rfl dX11_markOfTwo_36
  ·
    have jc_1 := il_nlt c_1
    refine lv_iconst (v := 0) hx hb dX11_markOfTwo_4 (by decide) (hp_n (n := 5) rfl ?_)
    exact q_iret C B hr hlk rfl dX11_markOfTwo_5
abbrev w_X9_markBy : cw_W := ([], [], [], [])
set_option maxRecDepth 100000 in
set_option maxHeartbeats 4000000 in
theorem t_X9_markBy (Γ : hp_G) (l : Launch) (α : hp_T) (g : GC α) (a0 : Nat) (k0 : hp_K α a0 = 10) (a1 : Int32) : Met l yX9_markBy (hp_ws yX9_markBy cX9_markBy 4 (some .int)) (hp_rm 1 0 0) (hp_Pc Γ α [.ref a0, .int a1]) (hp_Qi Γ (fun r β => β = α)) 0 0 (hp_A Γ) := by
  refine hp_start (by decide) ?_
  intro p e s m below meth c C hr hlk B0 hnm
  have C : hp_C Γ p m c cX9_markBy 4 s ([.ref a0, .int a1] : List Value).toArray RX9 := C
  have hx := C.1.1
  have hb := C.1.2.1
  have hown := C.1.2.2.2.1
  have hts := C.1.2.2.2.2
  have B : hp_B Γ (cw w_X9_markBy) s α α s.heap [] := ⟨B0.1, B0.2.1, cw_rf g⟩
  have lit0 : (0 : Int32).toInt = 0 := by decide
  have lit1 : (1 : Int32).toInt = 1 := by decide
  have hl := lv_entry ([.ref a0, .int a1]) (n := 4) (Nat.le_of_ble_eq_true rfl)
  show W p l e (hp_rm 1 0 0) s m ([.ref a0, .int a1] : List Value).toArray below meth c s.heap [] 0 0 (MQ below (hp_Qi Γ (fun r β => β = α)) ([.ref a0, .int a1] : List Value).toArray s 0 0 (hp_A Γ)) (entryFrame m ([.ref a0, .int a1] : List Value).toArray 4)
  rw [lg_entry_eq]
  generalize (lg_sl ([.ref a0, .int a1]) ++ List.replicate (4 - (lg_sl ([.ref a0, .int a1])).length) Slot.unset).toArray = ls at hl ⊢
  have hl : lv_has ls 4 [(0, .ref a0), (1, .int a1)] := hl
  refine lv_iconst (v := 1) hx hb dX9_markBy_0 (by decide) (hp_n (n := 1) rfl ?_)
  refine lv_istore_n (lv' := [(2, .int 1), (0, .ref a0), (1, .int a1)]) hx hb dX9_markBy_1 rfl hl (by decide) rfl (fun ls hl => hp_n (n := 2) rfl ?_)
  refine lv_iconst (v := 0) hx hb dX9_markBy_2 (by decide) (hp_n (n := 3) rfl ?_)
  have J4 : ∀ (nq : Nat) (Hh_1 : Heap) (Lh_1 : List Loc) (Bh_1 : hp_B Γ (cw w_X9_markBy) s α α Hh_1 Lh_1) (v2_h_1 : Int32) (v3_h_1 : Int32) (ih_1_0 : 0 ≤ v3_h_1.toInt) (ls : Array Slot) (hl : lv_has ls 4 [(0, .ref a0), (1, .int a1), (2, .int v2_h_1), (3, .int v3_h_1)]) (hmu4 : (2147483647 - v3_h_1.toInt).toNat = nq), W p l e (hp_rm 1 0 0) s m ([.ref a0, .int a1] : List Value).toArray below meth c Hh_1 Lh_1 0 0 (MQ below (hp_Qi Γ (fun r β => β = α)) ([.ref a0, .int a1] : List Value).toArray s 0 0 (hp_A Γ)) (F0 m 4 ls []) := by
    intro nq
    induction nq using Nat.strongRecOn with
    | ind nq ih4 =>
    intro Hh_1 Lh_1 Bh_1 v2_h_1 v3_h_1 ih_1_0 ls hl hmu4
    have inv4_0 := ih_1_0
    refine lv_iload_n hx hb dX9_markBy_4 rfl (lv_at hl 3 rfl) (hp_n (n := 5) rfl ?_)
    refine lv_aload_n hx hb dX9_markBy_5 rfl (lv_at hl 0 rfl) (hp_n (n := 6) rfl ?_)
    refine q_geti (κ := 10) (k := 1) (φ := 501) (pc' := 9) C Bh_1 (cw_k Bh_1.2.2 k0) fl_X9_15 rfl rfl rfl dX9_markBy_6 rfl (fun x_2 ex_2 => ?_)
    refine lv_icmp_ge (tgt := 29) hx hb dX9_markBy_9 (by decide) (fun c_3 => ?_) (fun c_3 => hp_n (n := 12) rfl ?_)
    ·
      have jc_3 := il_le c_3
      refine lv_iload_n hx hb dX9_markBy_29 rfl (lv_at hl 2 rfl) (hp_n (n := 30) rfl ?_)
      exact q_iret C Bh_1 hr hlk rfl dX9_markBy_30
    ·
      have jc_3 := il_nle c_3
      refine lv_iload_n hx hb dX9_markBy_12 rfl (lv_at hl 1 rfl) (hp_n (n := 13) rfl ?_)
      refine lv_iload_n hx hb dX9_markBy_13 rfl (lv_at hl 2 rfl) (hp_n (n := 14) rfl ?_)
      refine lv_aload_n hx hb dX9_markBy_14 rfl (lv_at hl 0 rfl) (hp_n (n := 15) rfl ?_)
      refine lv_iload_n hx hb dX9_markBy_15 rfl (lv_at hl 3 rfl) (hp_n (n := 16) rfl ?_)
      refine q_ci (pc' := 19) Bh_1 (hp_runV (As := [.int v3_h_1]) (rest := [.int v2_h_1, .int a1]) C Bh_1 (t_X9_letterAt Γ l α Bh_1.2.2.1 a0 (cw_k Bh_1.2.2 k0) v3_h_1) lb_X9_letterAt lv_X9_letterAt lk_X9_22 (cw_k Bh_1.2.2 k0) rfl (by decide) rfl hl.1 rfl (Nat.le_of_ble_eq_true rfl) dX9_markBy_16 ⟨Nat.le_refl _, Nat.le_refl _⟩) (fun _ _ h => by rw [h]; exact Bh_1.2.2) rfl (fun rh_4 αh_4 Hh_4 Lh_4 ph_4 Bh_4 => ?_)
      rw [ph_4] at Bh_4
      refine q_ci (pc' := 22) Bh_4 (hp_runS (As := [.int a1, .int v2_h_1, .int rh_4]) (rest := []) C Bh_4 (t_X11_mixed Γ l α Bh_4.2.2.1 a1 v2_h_1 rh_4) lb_X11_mixed ls_X11_mixed lk_X9_30 rfl (by decide) rfl hl.1 rfl (Nat.le_of_ble_eq_true rfl) dX9_markBy_19 ⟨Nat.le_refl _, Nat.le_refl _⟩) (fun _ _ h => by rw [h]; exact Bh_4.2.2) rfl (fun rh_5 αh_5 Hh_5 Lh_5 ph_5 Bh_5 => ?_)
      rw [ph_5] at Bh_5
      refine lv_istore_n (lv' := [(2, .int rh_5), (0, .ref a0), (1, .int a1), (3, .int v3_h_1)]) hx hb dX9_markBy_22 rfl hl (by decide) rfl (fun ls hl => hp_n (n := 23) rfl ?_)
      obtain ⟨x_6, ex_6⟩ : ∃ y : Int32, y = v3_h_1 + 1 := ⟨_, rfl⟩
      have qx_6 : x_6.toInt = v3_h_1.toInt + 1 := by have q0 := ib_hi x_2; have qa := ib_lo v3_h_1; rw [ex_6]; exact ii_add (by omega) (by omega)
      refine lv_iinc (v := x_6) (lv' := [(3, .int x_6), (2, .int rh_5), (0, .ref a0), (1, .int a1)]) hx hb dX9_markBy_23 hl (k := 3) rfl (by rw [ex_6]; rfl) (by decide) rfl (fun ls hl => hp_n (n := 26) rfl ?_)
      refine lv_goto (tgt := 4) hx hb dX9_markBy_26 (by decide) ?_
      exact ih4 _ (by have q0 := ib_hi x_2; have q1 := ib_lo x_2; have qa := ib_hi v3_h_1; have qb := ib_lo v3_h_1; have qc : (v3_h_1 + 1).toInt = v3_h_1.toInt + (1 : Int32).toInt := ii_add (by omega) (by omega); rw [ex_6]; omega) Hh_5 Lh_5 Bh_5 rh_5 x_6 (by omega) ls (lv_sub hl [2, 3, 1, 0] rfl) rfl
  refine lv_istore_n (lv' := [(3, .int 0), (2, .int 1), (0, .ref a0), (1, .int a1)]) hx hb dX9_markBy_3 rfl hl (by decide) rfl (fun ls hl => hp_n (n := 4) rfl ?_)
  exact J4 _ s.heap [] B 1 0 (by omega) ls (lv_sub hl [2, 3, 1, 0] rfl) rfl
end JN2_6
section JN2_7
abbrev w_X5_putPeak : cw_W := ([301], [], [20], [])
set_option maxRecDepth 100000 in
set_option maxHeartbeats 4000000 in
theorem t_X5_putPeak (Γ : hp_G) (l : Launch) (α : hp_T) (g : GC α) (a0 : Nat) (k0 : hp_K α a0 = 6) (a1 : Int32) (a2 : Int32) (a3 : Int32) : Met l yX5_putPeak (hp_ws yX5_putPeak cX5_putPeak 7 none) (hp_rm 1 0 0) (hp_Pc Γ α [.ref a0, .int a1, .int a2, .int a3]) (hp_Qv Γ (fun β => cw w_X5_putPeak α β)) 0 0 (hp_A Γ) := by
  refine hp_start (by decide) ?_
  intro p e s m below meth c C hr hlk B0 hnm
  have C : hp_C Γ p m c cX5_putPeak 7 s ([.ref a0, .int a1, .int a2, .int a3] : List Value).toArray RX5 := C
  have hx := C.1.1
  have hb := C.1.2.1
  have hown := C.1.2.2.2.1
  have hts := C.1.2.2.2.2
  have B : hp_B Γ (cw w_X5_putPeak) s α α s.heap [] := ⟨B0.1, B0.2.1, cw_rf g⟩
  have lit0 : (0 : Int32).toInt = 0 := by decide
  have lit1 : (1 : Int32).toInt = 1 := by decide
  have lit31 : (31 : Int32).toInt = 31 := by decide
  have hl := lv_entry ([.ref a0, .int a1, .int a2, .int a3]) (n := 7) (Nat.le_of_ble_eq_true rfl)
  show W p l e (hp_rm 1 0 0) s m ([.ref a0, .int a1, .int a2, .int a3] : List Value).toArray below meth c s.heap [] 0 0 (MQ below (hp_Qv Γ (fun β => cw w_X5_putPeak α β)) ([.ref a0, .int a1, .int a2, .int a3] : List Value).toArray s 0 0 (hp_A Γ)) (entryFrame m ([.ref a0, .int a1, .int a2, .int a3] : List Value).toArray 7)
  rw [lg_entry_eq]
  generalize (lg_sl ([.ref a0, .int a1, .int a2, .int a3]) ++ List.replicate (7 - (lg_sl ([.ref a0, .int a1, .int a2, .int a3])).length) Slot.unset).toArray = ls at hl ⊢
  have hl : lv_has ls 7 [(0, .ref a0), (1, .int a1), (2, .int a2), (3, .int a3)] := hl
  refine lv_iload_n hx hb dX5_putPeak_0 rfl (lv_at hl 3 rfl) (hp_n (n := 1) rfl ?_)
  refine lv_istore (lv' := [(4, .int a3), (0, .ref a0), (1, .int a1), (2, .int a2), (3, .int a3)]) hx hb dX5_putPeak_1 hl (by decide) rfl (fun ls hl => hp_n (n := 3) rfl ?_)
  refine lv_iload_n hx hb dX5_putPeak_3 rfl (lv_at hl 3 rfl) (hp_n (n := 4) rfl ?_)
  refine lv_istore (lv' := [(5, .int a2), (4, .int a3), (0, .ref a0), (1, .int a1), (2, .int a2), (3, .int a3)]) hx hb dX5_putPeak_4 hl (by decide) rfl (fun ls hl => hp_n (n := 6) rfl ?_)
  refine lv_iconst (v := 0) hx hb dX5_putPeak_6 (by decide) (hp_n (n := 7) rfl ?_)
  have J9 : ∀ (nq : Nat) (αh_1 : hp_T) (Hh_1 : Heap) (Lh_1 : List Loc) (Bh_1 : hp_B Γ (cw w_X5_putPeak) s α αh_1 Hh_1 Lh_1) (v4_h_1 : Int32) (v5_h_1 : Int32) (v6_h_1 : Int32) (ih_1_0 : 0 ≤ v6_h_1.toInt) (ls : Array Slot) (hl : lv_has ls 7 [(0, .ref a0), (1, .int a1), (4, .int v4_h_1), (5, .int v5_h_1), (6, .int v6_h_1)]) (hmu9 : (2147483647 - v6_h_1.toInt).toNat = nq), W p l e (hp_rm 1 0 0) s m ([.ref a0, .int a1, .int a2, .int a3] : List Value).toArray below meth c Hh_1 Lh_1 0 0 (MQ below (hp_Qv Γ (fun β => cw w_X5_putPeak α β)) ([.ref a0, .int a1, .int a2, .int a3] : List Value).toArray s 0 0 (hp_A Γ)) (F0 m 9 ls []) := by
    intro nq
    induction nq using Nat.strongRecOn with
    | ind nq ih9 =>
    intro αh_1 Hh_1 Lh_1 Bh_1 v4_h_1 v5_h_1 v6_h_1 ih_1_0 ls hl hmu9
    have inv9_0 := ih_1_0
    refine lv_iload hx hb dX5_putPeak_9 (lv_at hl 4 rfl) (hp_n (n := 11) rfl ?_)
    refine lv_bipush (v := 31) hx hb dX5_putPeak_11 (by decide) (hp_n (n := 13) rfl ?_)
    have J64 : ∀ (Hh_2 : Heap) (Lh_2 : List Loc) (Bh_2 : hp_B Γ (cw w_X5_putPeak) s α αh_1 Hh_2 Lh_2) (ls : Array Slot) (hl : lv_has ls 7 [(0, .ref a0), (4, .int v4_h_1)]), W p l e (hp_rm 1 0 0) s m ([.ref a0, .int a1, .int a2, .int a3] : List Value).toArray below meth c Hh_2 Lh_2 0 0 (MQ below (hp_Qv Γ (fun β => cw w_X5_putPeak α β)) ([.ref a0, .int a1, .int a2, .int a3] : List Value).toArray s 0 0 (hp_A Γ)) (F0 m 64 ls []) := by
      intro Hh_2 Lh_2 Bh_2 ls hl
      refine lv_aload_n hx hb dX5_putPeak_64 rfl (lv_at hl 0 rfl) (hp_n (n := 65) rfl ?_)
      refine lv_iload hx hb dX5_putPeak_65 (lv_at hl 1 rfl) (hp_n (n := 67) rfl ?_)
      refine q_cv (pc' := 70) Bh_2 (hp_runV (As := [.int v4_h_1]) (rest := []) C Bh_2 (t_X5_put Γ l αh_1 Bh_2.2.2.1 a0 (cw_k Bh_2.2.2 k0) v4_h_1) lb_X5_put lv_X5_put lk_X5_31 (cw_k Bh_2.2.2 k0) rfl (by decide) rfl hl.1 rfl (Nat.le_of_ble_eq_true rfl) dX5_putPeak_67 ⟨Nat.le_refl _, Nat.le_refl _⟩) (fun _ h => cw_tr Bh_2.2.2 h (by decide)) rfl (fun αh_3 Hh_3 Lh_3 ph_3 Bh_3 => ?_)
      exact q_vret C Bh_3 hr hlk Bh_3.2.2 dX5_putPeak_70
    refine lv_icmp_ge (tgt := 64) hx hb dX5_putPeak_13 (by decide) (fun c_4 => ?_) (fun c_4 => hp_n (n := 16) rfl ?_)
    ·
      have jc_4 := il_le c_4
      exact J64 Hh_1 Lh_1 Bh_1 ls (lv_sub hl [0, 2] rfl)
    ·
      have jc_4 := il_nle c_4
      refine lv_iload hx hb dX5_putPeak_16 (lv_at hl 3 rfl) (hp_n (n := 18) rfl ?_)
      refine lv_iconst (v := 1) hx hb dX5_putPeak_18 (by decide) (hp_n (n := 19) rfl ?_)
      refine lv_iand hx hb dX5_putPeak_19 (hp_n (n := 20) rfl (lv_topi (fun x_5 ex_5 => ?_)))
      refine lv_iconst (v := 1) hx hb dX5_putPeak_20 (by decide) (hp_n (n := 21) rfl ?_)
      refine lv_icmp_ne (tgt := 64) hx hb dX5_putPeak_21 (by decide) (fun c_6 => ?_) (fun c_6 => hp_n (n := 24) rfl ?_)
      ·
        have jc_6 := il_ne c_6
        exact J64 Hh_1 Lh_1 Bh_1 ls (lv_sub hl [0, 2] rfl)
      ·
        have jc_6 := il_eq c_6
        refine lv_iload_n hx hb dX5_putPeak_24 rfl (lv_at hl 1 rfl) (hp_n (n := 25) rfl ?_)
        refine lv_aload_n hx hb dX5_putPeak_25 rfl (lv_at hl 0 rfl) (hp_n (n := 26) rfl ?_)
        refine lv_aload_n hx hb dX5_putPeak_26 rfl (lv_at hl 0 rfl) (hp_n (n := 27) rfl ?_)
        refine q_geti (κ := 6) (k := 1) (φ := 301) (pc' := 30) C Bh_1 (cw_k Bh_1.2.2 k0) fl_X5_15 rfl rfl rfl dX5_putPeak_27 rfl (fun x_7 ex_7 => ?_)
        refine lv_iconst (v := 1) hx hb dX5_putPeak_30 (by decide) (hp_n (n := 31) rfl ?_)
        refine lv_isub hx hb dX5_putPeak_31 (hp_n (n := 32) rfl (lv_topi (fun x_8 ex_8 => ?_)))
        refine q_ci (pc' := 35) Bh_1 (hp_runV (As := [.int x_8]) (rest := [.int a1]) C Bh_1 (t_X5_at Γ l αh_1 Bh_1.2.2.1 a0 (cw_k Bh_1.2.2 k0) x_8) lb_X5_at lv_X5_at lk_X5_19 (cw_k Bh_1.2.2 k0) rfl (by decide) rfl hl.1 rfl (Nat.le_of_ble_eq_true rfl) dX5_putPeak_32 ⟨Nat.le_refl _, Nat.le_refl _⟩) (fun _ _ h => by rw [h]; exact Bh_1.2.2) rfl (fun rh_9 αh_9 Hh_9 Lh_9 ph_9 Bh_9 => ?_)
        rw [ph_9] at Bh_9
        refine lv_iload hx hb dX5_putPeak_35 (lv_at hl 2 rfl) (hp_n (n := 37) rfl ?_)
        refine q_ci (pc' := 40) Bh_9 (hp_runS (As := [.int a1, .int rh_9, .int v4_h_1]) (rest := []) C Bh_9 (t_X11_markOfTwo Γ l αh_1 Bh_9.2.2.1 a1 rh_9 v4_h_1) lb_X11_markOfTwo ls_X11_markOfTwo lk_X5_23 rfl (by decide) rfl hl.1 rfl (Nat.le_of_ble_eq_true rfl) dX5_putPeak_37 ⟨Nat.le_refl _, Nat.le_refl _⟩) (fun _ _ h => by rw [h]; exact Bh_9.2.2) rfl (fun rh_10 αh_10 Hh_10 Lh_10 ph_10 Bh_10 => ?_)
        rw [ph_10] at Bh_10
        refine lv_istore (lv' := [(4, .int rh_10), (0, .ref a0), (1, .int a1), (5, .int v5_h_1), (6, .int v6_h_1)]) hx hb dX5_putPeak_40 hl (by decide) rfl (fun ls hl => hp_n (n := 42) rfl ?_)
        refine lv_aload_n hx hb dX5_putPeak_42 rfl (lv_at hl 1 rfl) (hp_n (n := 43) rfl ?_)
        refine lv_aload_n hx hb dX5_putPeak_43 rfl (lv_at hl 1 rfl) (hp_n (n := 44) rfl ?_)
        refine q_getj (κ := 6) (k := 1) (φ := 301) (pc' := 47) C Bh_10 (cw_k Bh_10.2.2 k0) fl_X5_15 rfl rfl rfl ex_7 dX5_putPeak_44 rfl ?_
        refine lv_iconst (v := 1) hx hb dX5_putPeak_47 (by decide) (hp_n (n := 48) rfl ?_)
        refine lv_isub hx hb dX5_putPeak_48 (hp_n (n := 49) rfl (lv_topi (fun x_11 ex_11 => ?_)))
        refine q_cv (pc' := 52) Bh_10 (hp_runV (As := [.int x_11]) (rest := []) C Bh_10 (t_X5_shorten Γ l αh_1 Bh_10.2.2.1 a0 (cw_k Bh_10.2.2 k0) x_11) lb_X5_shorten lv_X5_shorten lk_X5_27 (cw_k Bh_10.2.2 k0) rfl (by decide) rfl hl.1 rfl (Nat.le_of_ble_eq_true rfl) dX5_putPeak_49 ⟨Nat.le_refl _, Nat.le_refl _⟩) (fun _ h => cw_tr Bh_10.2.2 h (by decide)) rfl (fun αh_12 Hh_12 Lh_12 ph_12 Bh_12 => ?_)
        refine lv_iload hx hb dX5_putPeak_52 (lv_at hl 3 rfl) (hp_n (n := 54) rfl ?_)
        refine lv_iconst (v := 1) hx hb dX5_putPeak_54 (by decide) (hp_n (n := 55) rfl ?_)
        refine lv_iushr hx hb dX5_putPeak_55 rfl (hp_n (n := 56) rfl (lv_topi (fun x_13 ex_13 => ?_)))
        refine lv_istore (lv' := [(5, .int x_13), (4, .int rh_10), (0, .ref a0), (1, .int a1), (6, .int v6_h_1)]) hx hb dX5_putPeak_56 hl (by decide) rfl (fun ls hl => hp_n (n := 58) rfl ?_)
        obtain ⟨x_14, ex_14⟩ : ∃ y : Int32, y = v6_h_1 + 1 := ⟨_, rfl⟩
        have qx_14 : x_14.toInt = v6_h_1.toInt + 1 := by have qa := ib_lo v6_h_1; rw [ex_14]; exact ii_add (by omega) (by omega)
        refine lv_iinc (v := x_14) (lv' := [(6, .int x_14), (5, .int x_13), (4, .int rh_10), (0, .ref a0), (1, .int a1)]) hx hb dX5_putPeak_58 hl (k := 4) rfl (by rw [ex_14]; rfl) (by decide) rfl (fun ls hl => hp_n (n := 61) rfl ?_)
        refine lv_goto (tgt := 9) hx hb dX5_putPeak_61 (by decide) ?_
        exact ih9 _ (by have qa := ib_hi v6_h_1; have qb := ib_lo v6_h_1; have qc : (v6_h_1 + 1).toInt = v6_h_1.toInt + (1 : Int32).toInt := ii_add (by omega) (by omega); rw [ex_14]; omega) αh_12 Hh_12 Lh_12 Bh_12 rh_10 x_13 x_14 (by omega) ls (lv_sub hl [3, 4, 2, 1, 0] rfl) rfl
  refine lv_istore (lv' := [(6, .int 0), (5, .int a2), (4, .int a3), (0, .ref a0), (1, .int a1), (2, .int a2), (3, .int a3)]) hx hb dX5_putPeak_7 hl (by decide) rfl (fun ls hl => hp_n (n := 9) rfl ?_)
  exact J9 _ α s.heap [] B a3 a2 0 (by omega) ls (lv_sub hl [3, 4, 2, 1, 0] rfl) rfl
abbrev w_X5_foldedPeaks : cw_W := ([], [], [], [])
set_option maxRecDepth 100000 in
set_option maxHeartbeats 4000000 in
theorem t_X5_foldedPeaks (Γ : hp_G) (l : Launch) (α : hp_T) (g : GC α) (a0 : Nat) (k0 : hp_K α a0 = 6) (a1 : Int32) : Met l yX5_foldedPeaks (hp_ws yX5_foldedPeaks cX5_foldedPeaks 4 (some .int)) (hp_rm 1 0 0) (hp_Pc Γ α [.ref a0, .int a1]) (hp_Qi Γ (fun r β => β = α)) 0 0 (hp_A Γ) := by
  refine hp_start (by decide) ?_
  intro p e s m below meth c C hr hlk B0 hnm
  have C : hp_C Γ p m c cX5_foldedPeaks 4 s ([.ref a0, .int a1] : List Value).toArray RX5 := C
  have hx := C.1.1
  have hb := C.1.2.1
  have hown := C.1.2.2.2.1
  have hts := C.1.2.2.2.2
  have B : hp_B Γ (cw w_X5_foldedPeaks) s α α s.heap [] := ⟨B0.1, B0.2.1, cw_rf g⟩
  have litm1 : ((-1) : Int32).toInt = (-1) := by decide
  have lit0 : (0 : Int32).toInt = 0 := by decide
  have lit1 : (1 : Int32).toInt = 1 := by decide
  have lit2 : (2 : Int32).toInt = 2 := by decide
  have hl := lv_entry ([.ref a0, .int a1]) (n := 4) (Nat.le_of_ble_eq_true rfl)
  show W p l e (hp_rm 1 0 0) s m ([.ref a0, .int a1] : List Value).toArray below meth c s.heap [] 0 0 (MQ below (hp_Qi Γ (fun r β => β = α)) ([.ref a0, .int a1] : List Value).toArray s 0 0 (hp_A Γ)) (entryFrame m ([.ref a0, .int a1] : List Value).toArray 4)
  rw [lg_entry_eq]
  generalize (lg_sl ([.ref a0, .int a1]) ++ List.replicate (4 - (lg_sl ([.ref a0, .int a1])).length) Slot.unset).toArray = ls at hl ⊢
  have hl : lv_has ls 4 [(0, .ref a0), (1, .int a1)] := hl
  refine lv_aload_n hx hb dX5_foldedPeaks_0 rfl (lv_at hl 0 rfl) (hp_n (n := 1) rfl ?_)
  refine lv_aload_n hx hb dX5_foldedPeaks_1 rfl (lv_at hl 0 rfl) (hp_n (n := 2) rfl ?_)
  refine q_geti (κ := 6) (k := 1) (φ := 301) (pc' := 5) C B (cw_k B.2.2 k0) fl_X5_15 rfl rfl rfl dX5_foldedPeaks_2 rfl (fun x_1 ex_1 => ?_)
  refine lv_iconst (v := 1) hx hb dX5_foldedPeaks_5 (by decide) (hp_n (n := 6) rfl ?_)
  refine lv_isub hx hb dX5_foldedPeaks_6 (hp_n (n := 7) rfl (lv_topi (fun x_2 ex_2 => ?_)))
  refine q_ci (pc' := 10) B (hp_runV (As := [.int x_2]) (rest := []) C B (t_X5_at Γ l α B.2.2.1 a0 (cw_k B.2.2 k0) x_2) lb_X5_at lv_X5_at lk_X5_19 (cw_k B.2.2 k0) rfl (by decide) rfl hl.1 rfl (Nat.le_of_ble_eq_true rfl) dX5_foldedPeaks_7 ⟨Nat.le_refl _, Nat.le_refl _⟩) (fun _ _ h => by rw [h]; exact B.2.2) rfl (fun rh_3 αh_3 Hh_3 Lh_3 ph_3 Bh_3 => ?_)
  rw [ph_3] at Bh_3
  refine lv_istore_n (lv' := [(2, .int rh_3), (0, .ref a0), (1, .int a1)]) hx hb dX5_foldedPeaks_10 rfl hl (by decide) rfl (fun ls hl => hp_n (n := 11) rfl ?_)
  refine lv_aload_n hx hb dX5_foldedPeaks_11 rfl (lv_at hl 1 rfl) (hp_n (n := 12) rfl ?_)
  refine q_getj (κ := 6) (k := 1) (φ := 301) (pc' := 15) C Bh_3 (cw_k Bh_3.2.2 k0) fl_X5_15 rfl rfl rfl ex_1 dX5_foldedPeaks_12 rfl ?_
  refine lv_iconst (v := 2) hx hb dX5_foldedPeaks_15 (by decide) (hp_n (n := 16) rfl ?_)
  refine lv_isub hx hb dX5_foldedPeaks_16 (hp_n (n := 17) rfl (lv_topi (fun x_4 ex_4 => ?_)))
  have J18 : ∀ (nq : Nat) (Hh_5 : Heap) (Lh_5 : List Loc) (Bh_5 : hp_B Γ (cw w_X5_foldedPeaks) s α α Hh_5 Lh_5) (v2_h_5 : Int32) (v3_h_5 : Int32) (ls : Array Slot) (hl : lv_has ls 4 [(0, .ref a0), (1, .int a1), (2, .int v2_h_5), (3, .int v3_h_5)]) (hmu18 : (v3_h_5.toInt + 1).toNat = nq), W p l e (hp_rm 1 0 0) s m ([.ref a0, .int a1] : List Value).toArray below meth c Hh_5 Lh_5 0 0 (MQ below (hp_Qi Γ (fun r β => β = α)) ([.ref a0, .int a1] : List Value).toArray s 0 0 (hp_A Γ)) (F0 m 18 ls []) := by
    intro nq
    induction nq using Nat.strongRecOn with
    | ind nq ih18 =>
    intro Hh_5 Lh_5 Bh_5 v2_h_5 v3_h_5 ls hl hmu18
    refine lv_iload_n hx hb dX5_foldedPeaks_18 rfl (lv_at hl 3 rfl) (hp_n (n := 19) rfl ?_)
    refine lv_if_lt (tgt := 39) hx hb dX5_foldedPeaks_19 (by decide) (fun c_6 => ?_) (fun c_6 => hp_n (n := 22) rfl ?_)
    ·
      have jc_6 := il_lt c_6
      refine lv_iload_n hx hb dX5_foldedPeaks_39 rfl (lv_at hl 2 rfl) (hp_n (n := 40) rfl ?_)
      exact q_iret C Bh_5 hr hlk rfl dX5_foldedPeaks_40
    ·
      have jc_6 := il_nlt c_6
      refine lv_iload_n hx hb dX5_foldedPeaks_22 rfl (lv_at hl 1 rfl) (hp_n (n := 23) rfl ?_)
      refine lv_aload_n hx hb dX5_foldedPeaks_23 rfl (lv_at hl 0 rfl) (hp_n (n := 24) rfl ?_)
      refine lv_iload_n hx hb dX5_foldedPeaks_24 rfl (lv_at hl 3 rfl) (hp_n (n := 25) rfl ?_)
      refine q_ci (pc' := 28) Bh_5 (hp_runV (As := [.int v3_h_5]) (rest := [.int a1]) C Bh_5 (t_X5_at Γ l α Bh_5.2.2.1 a0 (cw_k Bh_5.2.2 k0) v3_h_5) lb_X5_at lv_X5_at lk_X5_19 (cw_k Bh_5.2.2 k0) rfl (by decide) rfl hl.1 rfl (Nat.le_of_ble_eq_true rfl) dX5_foldedPeaks_25 ⟨Nat.le_refl _, Nat.le_refl _⟩) (fun _ _ h => by rw [h]; exact Bh_5.2.2) rfl (fun rh_7 αh_7 Hh_7 Lh_7 ph_7 Bh_7 => ?_)
      rw [ph_7] at Bh_7
      refine lv_iload_n hx hb dX5_foldedPeaks_28 rfl (lv_at hl 2 rfl) (hp_n (n := 29) rfl ?_)
      refine q_ci (pc' := 32) Bh_7 (hp_runS (As := [.int a1, .int rh_7, .int v2_h_5]) (rest := []) C Bh_7 (t_X11_markOfTwo Γ l α Bh_7.2.2.1 a1 rh_7 v2_h_5) lb_X11_markOfTwo ls_X11_markOfTwo lk_X5_23 rfl (by decide) rfl hl.1 rfl (Nat.le_of_ble_eq_true rfl) dX5_foldedPeaks_29 ⟨Nat.le_refl _, Nat.le_refl _⟩) (fun _ _ h => by rw [h]; exact Bh_7.2.2) rfl (fun rh_8 αh_8 Hh_8 Lh_8 ph_8 Bh_8 => ?_)
      rw [ph_8] at Bh_8
      refine lv_istore_n (lv' := [(2, .int rh_8), (0, .ref a0), (1, .int a1), (3, .int v3_h_5)]) hx hb dX5_foldedPeaks_32 rfl hl (by decide) rfl (fun ls hl => hp_n (n := 33) rfl ?_)
      obtain ⟨x_9, ex_9⟩ : ∃ y : Int32, y = v3_h_5 + (-1) := ⟨_, rfl⟩
      refine lv_iinc (v := x_9) (lv' := [(3, .int x_9), (2, .int rh_8), (0, .ref a0), (1, .int a1)]) hx hb dX5_foldedPeaks_33 hl (k := 3) rfl (by rw [ex_9]; rfl) (by decide) rfl (fun ls hl => hp_n (n := 36) rfl ?_)
      refine lv_goto (tgt := 18) hx hb dX5_foldedPeaks_36 (by decide) ?_
      exact ih18 _ (mu_dn1 hmu18 ex_9 (by omega)) Hh_8 Lh_8 Bh_8 rh_8 x_9 ls (lv_sub hl [2, 3, 1, 0] rfl) rfl
  refine lv_istore_n (lv' := [(3, .int x_4), (2, .int rh_3), (0, .ref a0), (1, .int a1)]) hx hb dX5_foldedPeaks_17 rfl hl (by decide) rfl (fun ls hl => hp_n (n := 18) rfl ?_)
  exact J18 _ Hh_3 Lh_3 Bh_3 rh_3 x_4 ls (lv_sub hl [2, 3, 1, 0] rfl) rfl
end JN2_7
section JN2_8
theorem pf_J9_all_J9_min_7cf53 : plainFor yJ9_min_7cf53 = true ∧ plainFor yJ9_max_7cf53 = true ∧ plainFor yJ9_floorMod_f86c9 = true := by decide +kernel
theorem pf_J9_min_7cf53 : plainFor yJ9_min_7cf53 = true := pf_J9_all_J9_min_7cf53.1
theorem pf_J9_max_7cf53 : plainFor yJ9_max_7cf53 = true := pf_J9_all_J9_min_7cf53.2.1
theorem pf_J9_floorMod_f86c9 : plainFor yJ9_floorMod_f86c9 = true := pf_J9_all_J9_min_7cf53.2.2
abbrev w_J9_min_7cf53 : cw_W := ([], [], [], [])
set_option maxRecDepth 100000 in
set_option maxHeartbeats 4000000 in
theorem t_J9_min_7cf53 (Γ : hp_G) (l : Launch) (α : hp_T) (g : GC α) (a0 : Int32) (a1 : Int32) : Met l yJ9_min_7cf53 (hp_ws yJ9_min_7cf53 cJ9_min_7cf53 2 (some .int)) (hp_rm 0 0 0) (hp_Pc Γ α [.int a0, .int a1]) (hp_Qi Γ (fun r β => β = α ∧ r.toInt ≤ a0.toInt ∧ r.toInt ≤ a1.toInt ∧ (r.toInt = a0.toInt ∨ r.toInt = a1.toInt))) 0 0 (hp_A Γ) := by
  refine hp_startF pf_J9_min_7cf53 ?_
  intro p e s m below meth c C hr hlk B0 hnm
  have C : hp_C Γ p m c cJ9_min_7cf53 2 s ([.int a0, .int a1] : List Value).toArray RJ9 := C
  have hx := C.1.1
  have hb := C.1.2.1
  have hown := C.1.2.2.2.1
  have hts := C.1.2.2.2.2
  have B : hp_B Γ (cw w_J9_min_7cf53) s α α s.heap [] := ⟨B0.1, B0.2.1, cw_rf g⟩
  have hl := lv_entry ([.int a0, .int a1]) (n := 2) (Nat.le_of_ble_eq_true rfl)
  show W p l e (hp_rm 0 0 0) s m ([.int a0, .int a1] : List Value).toArray below meth c s.heap [] 0 0 (MQ below (hp_Qi Γ (fun r β => β = α ∧ r.toInt ≤ a0.toInt ∧ r.toInt ≤ a1.toInt ∧ (r.toInt = a0.toInt ∨ r.toInt = a1.toInt))) ([.int a0, .int a1] : List Value).toArray s 0 0 (hp_A Γ)) (entryFrame m ([.int a0, .int a1] : List Value).toArray 2)
  rw [lg_entry_eq]
  generalize (lg_sl ([.int a0, .int a1]) ++ List.replicate (2 - (lg_sl ([.int a0, .int a1])).length) Slot.unset).toArray = ls at hl ⊢
  have hl : lv_has ls 2 [(0, .int a0), (1, .int a1)] := hl
  refine lv_iload_n hx hb dJ9_min_7cf53_0 rfl (lv_at hl 0 rfl) (hp_n (n := 1) rfl ?_)
  refine lv_iload_n hx hb dJ9_min_7cf53_1 rfl (lv_at hl 1 rfl) (hp_n (n := 2) rfl ?_)
  refine lv_icmp_gt (tgt := 9) hx hb dJ9_min_7cf53_2 (by decide) (fun c_1 => ?_) (fun c_1 => hp_n (n := 5) rfl ?_)
  ·
    have jc_1 := il_lt c_1
    refine lv_iload_n hx hb dJ9_min_7cf53_9 rfl (lv_at hl 1 rfl) (hp_n (n := 10) rfl ?_)
    exact q_iret C B hr hlk ⟨rfl, by omega, by omega, by first | exact Or.inl rfl | exact Or.inr rfl⟩ dJ9_min_7cf53_10
  ·
    have jc_1 := il_nlt c_1
    refine lv_iload_n hx hb dJ9_min_7cf53_5 rfl (lv_at hl 0 rfl) (hp_n (n := 6) rfl ?_)
    refine lv_goto (tgt := 10) hx hb dJ9_min_7cf53_6 (by decide) ?_
    exact q_iret C B hr hlk ⟨rfl, by omega, by omega, by first | exact Or.inl rfl | exact Or.inr rfl⟩ dJ9_min_7cf53_10
abbrev w_J9_max_7cf53 : cw_W := ([], [], [], [])
set_option maxRecDepth 100000 in
set_option maxHeartbeats 4000000 in
theorem t_J9_max_7cf53 (Γ : hp_G) (l : Launch) (α : hp_T) (g : GC α) (a0 : Int32) (a1 : Int32) : Met l yJ9_max_7cf53 (hp_ws yJ9_max_7cf53 cJ9_max_7cf53 2 (some .int)) (hp_rm 0 0 0) (hp_Pc Γ α [.int a0, .int a1]) (hp_Qi Γ (fun r β => β = α ∧ a0.toInt ≤ r.toInt ∧ a1.toInt ≤ r.toInt ∧ (r.toInt = a0.toInt ∨ r.toInt = a1.toInt))) 0 0 (hp_A Γ) := by
  refine hp_startF pf_J9_max_7cf53 ?_
  intro p e s m below meth c C hr hlk B0 hnm
  have C : hp_C Γ p m c cJ9_max_7cf53 2 s ([.int a0, .int a1] : List Value).toArray RJ9 := C
  have hx := C.1.1
  have hb := C.1.2.1
  have hown := C.1.2.2.2.1
  have hts := C.1.2.2.2.2
  have B : hp_B Γ (cw w_J9_max_7cf53) s α α s.heap [] := ⟨B0.1, B0.2.1, cw_rf g⟩
  have hl := lv_entry ([.int a0, .int a1]) (n := 2) (Nat.le_of_ble_eq_true rfl)
  show W p l e (hp_rm 0 0 0) s m ([.int a0, .int a1] : List Value).toArray below meth c s.heap [] 0 0 (MQ below (hp_Qi Γ (fun r β => β = α ∧ a0.toInt ≤ r.toInt ∧ a1.toInt ≤ r.toInt ∧ (r.toInt = a0.toInt ∨ r.toInt = a1.toInt))) ([.int a0, .int a1] : List Value).toArray s 0 0 (hp_A Γ)) (entryFrame m ([.int a0, .int a1] : List Value).toArray 2)
  rw [lg_entry_eq]
  generalize (lg_sl ([.int a0, .int a1]) ++ List.replicate (2 - (lg_sl ([.int a0, .int a1])).length) Slot.unset).toArray = ls at hl ⊢
  have hl : lv_has ls 2 [(0, .int a0), (1, .int a1)] := hl
  refine lv_iload_n hx hb dJ9_max_7cf53_0 rfl (lv_at hl 0 rfl) (hp_n (n := 1) rfl ?_)
  refine lv_iload_n hx hb dJ9_max_7cf53_1 rfl (lv_at hl 1 rfl) (hp_n (n := 2) rfl ?_)
  refine lv_icmp_lt (tgt := 9) hx hb dJ9_max_7cf53_2 (by decide) (fun c_1 => ?_) (fun c_1 => hp_n (n := 5) rfl ?_)
  ·
    have jc_1 := il_lt c_1
    refine lv_iload_n hx hb dJ9_max_7cf53_9 rfl (lv_at hl 1 rfl) (hp_n (n := 10) rfl ?_)
    exact q_iret C B hr hlk ⟨rfl, by omega, by omega, by first | exact Or.inl rfl | exact Or.inr rfl⟩ dJ9_max_7cf53_10
  ·
    have jc_1 := il_nlt c_1
    refine lv_iload_n hx hb dJ9_max_7cf53_5 rfl (lv_at hl 0 rfl) (hp_n (n := 6) rfl ?_)
    refine lv_goto (tgt := 10) hx hb dJ9_max_7cf53_6 (by decide) ?_
    exact q_iret C B hr hlk ⟨rfl, by omega, by omega, by first | exact Or.inl rfl | exact Or.inr rfl⟩ dJ9_max_7cf53_10
abbrev w_J6_numberOfLeadingZeros_0f7a4 : cw_W := ([], [], [], [])
set_option maxRecDepth 100000 in
set_option maxHeartbeats 4000000 in
theorem t_J6_numberOfLeadingZeros_0f7a4 (Γ : hp_G) (l : Launch) (α : hp_T) (g : GC α) (a0 : Int32) : Met l yJ6_numberOfLeadingZeros_0f7a4 (hp_ws yJ6_numberOfLeadingZeros_0f7a4 cJ6_numberOfLeadingZeros_0f7a4 2 (some .int)) (hp_rm 0 0 0) (hp_Pc Γ α [.int a0]) (hp_Qi Γ (fun r β => β = α)) 0 0 (hp_A Γ) := by
  refine hp_start (by decide) ?_
  intro p e s m below meth c C hr hlk B0 hnm
  have C : hp_C Γ p m c cJ6_numberOfLeadingZeros_0f7a4 2 s ([.int a0] : List Value).toArray RJ6 := C
  have hx := C.1.1
  have hb := C.1.2.1
  have hown := C.1.2.2.2.1
  have hts := C.1.2.2.2.2
  have B : hp_B Γ (cw w_J6_numberOfLeadingZeros_0f7a4) s α α s.heap [] := ⟨B0.1, B0.2.1, cw_rf g⟩
  have litm16 : ((-16) : Int32).toInt = (-16) := by decide
  have litm8 : ((-8) : Int32).toInt = (-8) := by decide
  have litm4 : ((-4) : Int32).toInt = (-4) := by decide
  have litm2 : ((-2) : Int32).toInt = (-2) := by decide
  have lit0 : (0 : Int32).toInt = 0 := by decide
  have lit1 : (1 : Int32).toInt = 1 := by decide
  have lit2 : (2 : Int32).toInt = 2 := by decide
  have lit4 : (4 : Int32).toInt = 4 := by decide
  have lit8 : (8 : Int32).toInt = 8 := by decide
  have lit16 : (16 : Int32).toInt = 16 := by decide
  have lit31 : (31 : Int32).toInt = 31 := by decide
  have lit32 : (32 : Int32).toInt = 32 := by decide
  have lit256 : (256 : Int32).toInt = 256 := by decide
  have lit65536 : (65536 : Int32).toInt = 65536 := by decide
  have hl := lv_entry ([.int a0]) (n := 2) (Nat.le_of_ble_eq_true rfl)
  show W p l e (hp_rm 0 0 0) s m ([.int a0] : List Value).toArray below meth c s.heap [] 0 0 (MQ below (hp_Qi Γ (fun r β => β = α)) ([.int a0] : List Value).toArray s 0 0 (hp_A Γ)) (entryFrame m ([.int a0] : List Value).toArray 2)
  rw [lg_entry_eq]
  generalize (lg_sl ([.int a0]) ++ List.replicate (2 - (lg_sl ([.int a0])).length) Slot.unset).toArray = ls at hl ⊢
  have hl : lv_has ls 2 [(0, .int a0)] := hl
  refine lv_iload_n hx hb dJ6_numberOfLeadingZeros_0f7a4_0 rfl (lv_at hl 0 rfl) (hp_n (n := 1) rfl ?_)
  refine lv_if_gt (tgt := 15) hx hb dJ6_numberOfLeadingZeros_0f7a4_1 (by decide) (fun c_1 => ?_) (fun c_1 => hp_n (n := 4) rfl ?_)
  ·
    have jc_1 := il_lt c_1
    refine lv_bipush (v := 31) hx hb dJ6_numberOfLeadingZeros_0f7a4_15 (by decide) (hp_n (n := 17) rfl ?_)
    refine lv_istore_n (lv' := [(1, .int 31), (0, .int a0)]) hx hb dJ6_numberOfLeadingZeros_0f7a4_17 rfl hl (by decide) rfl (fun ls hl => hp_n (n := 18) rfl ?_)
    refine lv_iload_n hx hb dJ6_numberOfLeadingZeros_0f7a4_18 rfl (lv_at hl 1 rfl) (hp_n (n := 19) rfl ?_)
    refine lv_ldcw hx hb hown (hts _ kc_J6_264) dJ6_numberOfLeadingZeros_0f7a4_19 (hp_n (n := 22) rfl ?_)
    have J33 : ∀ (Hh_2 : Heap) (Lh_2 : List Loc) (Bh_2 : hp_B Γ (cw w_J6_numberOfLeadingZeros_0f7a4) s α α Hh_2 Lh_2) (v0_h_2 : Int32) (v1_h_2 : Int32) (ls : Array Slot) (hl : lv_has ls 2 [(0, .int v0_h_2), (1, .int v1_h_2)]), W p l e (hp_rm 0 0 0) s m ([.int a0] : List Value).toArray below meth c Hh_2 Lh_2 0 0 (MQ below (hp_Qi Γ (fun r β => β = α)) ([.int a0] : List Value).toArray s 0 0 (hp_A Γ)) (F0 m 33 ls []) := by
      intro Hh_2 Lh_2 Bh_2 v0_h_2 v1_h_2 ls hl
      refine lv_iload_n hx hb dJ6_numberOfLeadingZeros_0f7a4_33 rfl (lv_at hl 0 rfl) (hp_n (n := 34) rfl ?_)
      refine lv_sipush (v := 256) hx hb dJ6_numberOfLeadingZeros_0f7a4_34 (by decide) (hp_n (n := 37) rfl ?_)
      have J48 : ∀ (Hh_3 : Heap) (Lh_3 : List Loc) (Bh_3 : hp_B Γ (cw w_J6_numberOfLeadingZeros_0f7a4) s α α Hh_3 Lh_3) (v0_h_3 : Int32) (v1_h_3 : Int32) (ls : Array Slot) (hl : lv_has ls 2 [(0, .int v0_h_3), (1, .int v1_h_3)]), W p l e (hp_rm 0 0 0) s m ([.int a0] : List Value).toArray below meth c Hh_3 Lh_3 0 0 (MQ below (hp_Qi Γ (fun r β => β = α)) ([.int a0] : List Value).toArray s 0 0 (hp_A Γ)) (F0 m 48 ls []) := by
        intro Hh_3 Lh_3 Bh_3 v0_h_3 v1_h_3 ls hl
        refine lv_iload_n hx hb dJ6_numberOfLeadingZeros_0f7a4_48 rfl (lv_at hl 0 rfl) (hp_n (n := 49) rfl ?_)
        refine lv_bipush (v := 16) hx hb dJ6_numberOfLeadingZeros_0f7a4_49 (by decide) (hp_n (n := 51) rfl ?_)
        have J61 : ∀ (Hh_4 : Heap) (Lh_4 : List Loc) (Bh_4 : hp_B Γ (cw w_J6_numberOfLeadingZeros_0f7a4) s α α Hh_4 Lh_4) (v0_h_4 : Int32) (v1_h_4 : Int32) (ls : Array Slot) (hl : lv_has ls 2 [(0, .int v0_h_4), (1, .int v1_h_4)]), W p l e (hp_rm 0 0 0) s m ([.int a0] : List Value).toArray below meth c Hh_4 Lh_4 0 0 (MQ below (hp_Qi Γ (fun r β => β = α)) ([.int a0] : List Value).toArray s 0 0 (hp_A Γ)) (F0 m 61 ls []) := by
          intro Hh_4 Lh_4 Bh_4 v0_h_4 v1_h_4 ls hl
          refine lv_iload_n hx hb dJ6_numberOfLeadingZeros_0f7a4_61 rfl (lv_at hl 0 rfl) (hp_n (n := 62) rfl ?_)
          refine lv_iconst (v := 4) hx hb dJ6_numberOfLeadingZeros_0f7a4_62 (by decide) (hp_n (n := 63) rfl ?_)
          have J73 : ∀ (Hh_5 : Heap) (Lh_5 : List Loc) (Bh_5 : hp_B Γ (cw w_J6_numberOfLeadingZeros_0f7a4) s α α Hh_5 Lh_5) (v0_h_5 : Int32) (v1_h_5 : Int32) (ls : Array Slot) (hl : lv_has ls 2 [(0, .int v0_h_5), (1, .int v1_h_5)]), W p l e (hp_rm 0 0 0) s m ([.int a0] : List Value).toArray below meth c Hh_5 Lh_5 0 0 (MQ below (hp_Qi Γ (fun r β => β = α)) ([.int a0] : List Value).toArray s 0 0 (hp_A Γ)) (F0 m 73 ls []) := by
            intro Hh_5 Lh_5 Bh_5 v0_h_5 v1_h_5 ls hl
            refine lv_iload_n hx hb dJ6_numberOfLeadingZeros_0f7a4_73 rfl (lv_at hl 1 rfl) (hp_n (n := 74) rfl ?_)
            refine lv_iload_n hx hb dJ6_numberOfLeadingZeros_0f7a4_74 rfl (lv_at hl 0 rfl) (hp_n (n := 75) rfl ?_)
            refine lv_iconst (v := 1) hx hb dJ6_numberOfLeadingZeros_0f7a4_75 (by decide) (hp_n (n := 76) rfl ?_)
            refine lv_iushr hx hb dJ6_numberOfLeadingZeros_0f7a4_76 rfl (hp_n (n := 77) rfl (lv_topi (fun x_6 ex_6 => ?_)))
            refine lv_isub hx hb dJ6_numberOfLeadingZeros_0f7a4_77 (hp_n (n := 78) rfl (lv_topi (fun x_7 ex_7 => ?_)))
            exact q_iret C Bh_5 hr hlk rfl dJ6_numberOfLeadingZeros_0f7a4_78
          refine lv_icmp_lt (tgt := 73) hx hb dJ6_numberOfLeadingZeros_0f7a4_63 (by decide) (fun c_8 => ?_) (fun c_8 => hp_n (n := 66) rfl ?_)
          ·
            have jc_8 := il_lt c_8
            exact J73 Hh_4 Lh_4 Bh_4 v0_h_4 v1_h_4 ls (lv_sub hl [0, 1] rfl)
          ·
            have jc_8 := il_nlt c_8
            obtain ⟨x_9, ex_9⟩ : ∃ y : Int32, y = v1_h_4 + (-2) := ⟨_, rfl⟩
            refine lv_iinc (v := x_9) (lv' := [(1, .int x_9), (0, .int v0_h_4)]) hx hb dJ6_numberOfLeadingZeros_0f7a4_66 hl (k := 1) rfl (by rw [ex_9]; rfl) (by decide) rfl (fun ls hl => hp_n (n := 69) rfl ?_)
            refine lv_iload_n hx hb dJ6_numberOfLeadingZeros_0f7a4_69 rfl (lv_at hl 1 rfl) (hp_n (n := 70) rfl ?_)
            refine lv_iconst (v := 2) hx hb dJ6_numberOfLeadingZeros_0f7a4_70 (by decide) (hp_n (n := 71) rfl ?_)
            refine lv_iushr hx hb dJ6_numberOfLeadingZeros_0f7a4_71 rfl (hp_n (n := 72) rfl (lv_topi (fun x_10 ex_10 => ?_)))
            refine lv_istore_n (lv' := [(0, .int x_10), (1, .int x_9)]) hx hb dJ6_numberOfLeadingZeros_0f7a4_72 rfl hl (by decide) rfl (fun ls hl => hp_n (n := 73) rfl ?_)
            exact J73 Hh_4 Lh_4 Bh_4 x_10 x_9 ls (lv_sub hl [0, 1] rfl)
        refine lv_icmp_lt (tgt := 61) hx hb dJ6_numberOfLeadingZeros_0f7a4_51 (by decide) (fun c_11 => ?_) (fun c_11 => hp_n (n := 54) rfl ?_)
        ·
          have jc_11 := il_lt c_11
          exact J61 Hh_3 Lh_3 Bh_3 v0_h_3 v1_h_3 ls (lv_sub hl [0, 1] rfl)
        ·
          have jc_11 := il_nlt c_11
          obtain ⟨x_12, ex_12⟩ : ∃ y : Int32, y = v1_h_3 + (-4) := ⟨_, rfl⟩
          refine lv_iinc (v := x_12) (lv' := [(1, .int x_12), (0, .int v0_h_3)]) hx hb dJ6_numberOfLeadingZeros_0f7a4_54 hl (k := 1) rfl (by rw [ex_12]; rfl) (by decide) rfl (fun ls hl => hp_n (n := 57) rfl ?_)
          refine lv_iload_n hx hb dJ6_numberOfLeadingZeros_0f7a4_57 rfl (lv_at hl 1 rfl) (hp_n (n := 58) rfl ?_)
          refine lv_iconst (v := 4) hx hb dJ6_numberOfLeadingZeros_0f7a4_58 (by decide) (hp_n (n := 59) rfl ?_)
          refine lv_iushr hx hb dJ6_numberOfLeadingZeros_0f7a4_59 rfl (hp_n (n := 60) rfl (lv_topi (fun x_13 ex_13 => ?_)))
          refine lv_istore_n (lv' := [(0, .int x_13), (1, .int x_12)]) hx hb dJ6_numberOfLeadingZeros_0f7a4_60 rfl hl (by decide) rfl (fun ls hl => hp_n (n := 61) rfl ?_)
          exact J61 Hh_3 Lh_3 Bh_3 x_13 x_12 ls (lv_sub hl [0, 1] rfl)
      refine lv_icmp_lt (tgt := 48) hx hb dJ6_numberOfLeadingZeros_0f7a4_37 (by decide) (fun c_14 => ?_) (fun c_14 => hp_n (n := 40) rfl ?_)
      ·
        have jc_14 := il_lt c_14
        exact J48 Hh_2 Lh_2 Bh_2 v0_h_2 v1_h_2 ls (lv_sub hl [0, 1] rfl)
      ·
        have jc_14 := il_nlt c_14
        obtain ⟨x_15, ex_15⟩ : ∃ y : Int32, y = v1_h_2 + (-8) := ⟨_, rfl⟩
        refine lv_iinc (v := x_15) (lv' := [(1, .int x_15), (0, .int v0_h_2)]) hx hb dJ6_numberOfLeadingZeros_0f7a4_40 hl (k := 1) rfl (by rw [ex_15]; rfl) (by decide) rfl (fun ls hl => hp_n (n := 43) rfl ?_)
        refine lv_iload_n hx hb dJ6_numberOfLeadingZeros_0f7a4_43 rfl (lv_at hl 1 rfl) (hp_n (n := 44) rfl ?_)
        refine lv_bipush (v := 8) hx hb dJ6_numberOfLeadingZeros_0f7a4_44 (by decide) (hp_n (n := 46) rfl ?_)
        refine lv_iushr hx hb dJ6_numberOfLeadingZeros_0f7a4_46 rfl (hp_n (n := 47) rfl (lv_topi (fun x_16 ex_16 => ?_)))
        refine lv_istore_n (lv' := [(0, .int x_16), (1, .int x_15)]) hx hb dJ6_numberOfLeadingZeros_0f7a4_47 rfl hl (by decide) rfl (fun ls hl => hp_n (n := 48) rfl ?_)
        exact J48 Hh_2 Lh_2 Bh_2 x_16 x_15 ls (lv_sub hl [0, 1] rfl)
    refine lv_icmp_lt (tgt := 33) hx hb dJ6_numberOfLeadingZeros_0f7a4_22 (by decide) (fun c_17 => ?_) (fun c_17 => hp_n (n := 25) rfl ?_)
    ·
      have jc_17 := il_lt c_17
      exact J33 s.heap [] B a0 31 ls (lv_sub hl [1, 0] rfl)
    ·
      have jc_17 := il_nlt c_17
      obtain ⟨x_18, ex_18⟩ : ∃ y : Int32, y = 31 + (-16) := ⟨_, rfl⟩
      refine lv_iinc (v := x_18) (lv' := [(1, .int x_18), (0, .int a0)]) hx hb dJ6_numberOfLeadingZeros_0f7a4_25 hl (k := 0) rfl (by rw [ex_18]; rfl) (by decide) rfl (fun ls hl => hp_n (n := 28) rfl ?_)
      refine lv_iload_n hx hb dJ6_numberOfLeadingZeros_0f7a4_28 rfl (lv_at hl 1 rfl) (hp_n (n := 29) rfl ?_)
      refine lv_bipush (v := 16) hx hb dJ6_numberOfLeadingZeros_0f7a4_29 (by decide) (hp_n (n := 31) rfl ?_)
      refine lv_iushr hx hb dJ6_numberOfLeadingZeros_0f7a4_31 rfl (hp_n (n := 32) rfl (lv_topi (fun x_19 ex_19 => ?_)))
      refine lv_istore_n (lv' := [(0, .int x_19), (1, .int x_18)]) hx hb dJ6_numberOfLeadingZeros_0f7a4_32 rfl hl (by decide) rfl (fun ls hl => hp_n (n := 33) rfl ?_)
      exact J33 s.heap [] B x_19 x_18 ls (lv_sub hl [0, 1] rfl)
  ·
    have jc_1 := il_nlt c_1
    refine lv_iload_n hx hb dJ6_numberOfLeadingZeros_0f7a4_4 rfl (lv_at hl 0 rfl) (hp_n (n := 5) rfl ?_)
    refine lv_if_ne (tgt := 13) hx hb dJ6_numberOfLeadingZeros_0f7a4_5 (by decide) (fun c_20 => ?_) (fun c_20 => hp_n (n := 8) rfl ?_)
    ·
      have jc_20 := il_ne c_20
      refine lv_iconst (v := 0) hx hb dJ6_numberOfLeadingZeros_0f7a4_13 (by decide) (hp_n (n := 14) rfl ?_)
      exact q_iret C B hr hlk rfl dJ6_numberOfLeadingZeros_0f7a4_14
    ·
      have jc_20 := il_eq c_20
      refine lv_bipush (v := 32) hx hb dJ6_numberOfLeadingZeros_0f7a4_8 (by decide) (hp_n (n := 10) rfl ?_)
      refine lv_goto (tgt := 14) hx hb dJ6_numberOfLeadingZeros_0f7a4_10 (by decide) ?_
      exact q_iret C B hr hlk rfl dJ6_numberOfLeadingZeros_0f7a4_14
abbrev w_J6_highestOneBit_0f7a4 : cw_W := ([], [], [], [])
set_option maxRecDepth 100000 in
set_option maxHeartbeats 4000000 in
theorem t_J6_highestOneBit_0f7a4 (Γ : hp_G) (l : Launch) (α : hp_T) (g : GC α) (a0 : Int32) : Met l yJ6_highestOneBit_0f7a4 (hp_ws yJ6_highestOneBit_0f7a4 cJ6_highestOneBit_0f7a4 1 (some .int)) (hp_rm 1 0 0) (hp_Pc Γ α [.int a0]) (hp_Qi Γ (fun r β => β = α)) 0 0 (hp_A Γ) := by
  refine hp_start (by decide) ?_
  intro p e s m below meth c C hr hlk B0 hnm
  have C : hp_C Γ p m c cJ6_highestOneBit_0f7a4 1 s ([.int a0] : List Value).toArray RJ6 := C
  have hx := C.1.1
  have hb := C.1.2.1
  have hown := C.1.2.2.2.1
  have hts := C.1.2.2.2.2
  have B : hp_B Γ (cw w_J6_highestOneBit_0f7a4) s α α s.heap [] := ⟨B0.1, B0.2.1, cw_rf g⟩
  have litm2147483648 : ((-2147483648) : Int32).toInt = (-2147483648) := by decide
  have hl := lv_entry ([.int a0]) (n := 1) (Nat.le_of_ble_eq_true rfl)
  show W p l e (hp_rm 1 0 0) s m ([.int a0] : List Value).toArray below meth c s.heap [] 0 0 (MQ below (hp_Qi Γ (fun r β => β = α)) ([.int a0] : List Value).toArray s 0 0 (hp_A Γ)) (entryFrame m ([.int a0] : List Value).toArray 1)
  rw [lg_entry_eq]
  generalize (lg_sl ([.int a0]) ++ List.replicate (1 - (lg_sl ([.int a0])).length) Slot.unset).toArray = ls at hl ⊢
  have hl : lv_has ls 1 [(0, .int a0)] := hl
  refine lv_iload_n hx hb dJ6_highestOneBit_0f7a4_0 rfl (lv_at hl 0 rfl) (hp_n (n := 1) rfl ?_)
  refine lv_ldc hx hb hown (hts _ kc_J6_127) dJ6_highestOneBit_0f7a4_1 (hp_n (n := 3) rfl ?_)
  refine lv_iload_n hx hb dJ6_highestOneBit_0f7a4_3 rfl (lv_at hl 0 rfl) (hp_n (n := 4) rfl ?_)
  refine q_ci (pc' := 7) B (hp_runS (As := [.int a0]) (rest := [.int (-2147483648), .int a0]) C B (t_J6_numberOfLeadingZeros_0f7a4 Γ l α B.2.2.1 a0) lb_J6_numberOfLeadingZeros_0f7a4 ls_J6_numberOfLeadingZeros_0f7a4 lk_J6_51 rfl (by decide) rfl hl.1 rfl (Nat.le_of_ble_eq_true rfl) dJ6_highestOneBit_0f7a4_4 ⟨Nat.le_refl _, Nat.le_refl _⟩) (fun _ _ h => by rw [h]; exact B.2.2) rfl (fun rh_1 αh_1 Hh_1 Lh_1 ph_1 Bh_1 => ?_)
  rw [ph_1] at Bh_1
  refine lv_iushr hx hb dJ6_highestOneBit_0f7a4_7 rfl (hp_n (n := 8) rfl (lv_topi (fun x_2 ex_2 => ?_)))
  refine lv_iand hx hb dJ6_highestOneBit_0f7a4_8 (hp_n (n := 9) rfl (lv_topi (fun x_3 ex_3 => ?_)))
  exact q_iret C Bh_1 hr hlk rfl dJ6_highestOneBit_0f7a4_9
abbrev w_J6_bitCount_0f7a4 : cw_W := ([], [], [], [])
set_option maxRecDepth 100000 in
set_option maxHeartbeats 4000000 in
theorem t_J6_bitCount_0f7a4 (Γ : hp_G) (l : Launch) (α : hp_T) (g : GC α) (a0 : Int32) : Met l yJ6_bitCount_0f7a4 (hp_ws yJ6_bitCount_0f7a4 cJ6_bitCount_0f7a4 1 (some .int)) (hp_rm 0 0 0) (hp_Pc Γ α [.int a0]) (hp_Qi Γ (fun r β => β = α)) 0 0 (hp_A Γ) := by
  refine hp_start (by decide) ?_
  intro p e s m below meth c C hr hlk B0 hnm
  have C : hp_C Γ p m c cJ6_bitCount_0f7a4 1 s ([.int a0] : List Value).toArray RJ6 := C
  have hx := C.1.1
  have hb := C.1.2.1
  have hown := C.1.2.2.2.1
  have hts := C.1.2.2.2.2
  have B : hp_B Γ (cw w_J6_bitCount_0f7a4) s α α s.heap [] := ⟨B0.1, B0.2.1, cw_rf g⟩
  have lit1 : (1 : Int32).toInt = 1 := by decide
  have lit2 : (2 : Int32).toInt = 2 := by decide
  have lit4 : (4 : Int32).toInt = 4 := by decide
  have lit8 : (8 : Int32).toInt = 8 := by decide
  have lit16 : (16 : Int32).toInt = 16 := by decide
  have lit63 : (63 : Int32).toInt = 63 := by decide
  have lit252645135 : (252645135 : Int32).toInt = 252645135 := by decide
  have lit858993459 : (858993459 : Int32).toInt = 858993459 := by decide
  have lit1431655765 : (1431655765 : Int32).toInt = 1431655765 := by decide
  have hl := lv_entry ([.int a0]) (n := 1) (Nat.le_of_ble_eq_true rfl)
  show W p l e (hp_rm 0 0 0) s m ([.int a0] : List Value).toArray below meth c s.heap [] 0 0 (MQ below (hp_Qi Γ (fun r β => β = α)) ([.int a0] : List Value).toArray s 0 0 (hp_A Γ)) (entryFrame m ([.int a0] : List Value).toArray 1)
  rw [lg_entry_eq]
  generalize (lg_sl ([.int a0]) ++ List.replicate (1 - (lg_sl ([.int a0])).length) Slot.unset).toArray = ls at hl ⊢
  have hl : lv_has ls 1 [(0, .int a0)] := hl
  refine lv_iload_n hx hb dJ6_bitCount_0f7a4_0 rfl (lv_at hl 0 rfl) (hp_n (n := 1) rfl ?_)
  refine lv_iload_n hx hb dJ6_bitCount_0f7a4_1 rfl (lv_at hl 0 rfl) (hp_n (n := 2) rfl ?_)
  refine lv_iconst (v := 1) hx hb dJ6_bitCount_0f7a4_2 (by decide) (hp_n (n := 3) rfl ?_)
  refine lv_iushr hx hb dJ6_bitCount_0f7a4_3 rfl (hp_n (n := 4) rfl (lv_topi (fun x_1 ex_1 => ?_)))
  refine lv_ldcw hx hb hown (hts _ kc_J6_265) dJ6_bitCount_0f7a4_4 (hp_n (n := 7) rfl ?_)
  refine lv_iand hx hb dJ6_bitCount_0f7a4_7 (hp_n (n := 8) rfl (lv_topi (fun x_2 ex_2 => ?_)))
  refine lv_isub hx hb dJ6_bitCount_0f7a4_8 (hp_n (n := 9) rfl (lv_topi (fun x_3 ex_3 => ?_)))
  refine lv_istore_n (lv' := [(0, .int x_3)]) hx hb dJ6_bitCount_0f7a4_9 rfl hl (by decide) rfl (fun ls hl => hp_n (n := 10) rfl ?_)
  refine lv_iload_n hx hb dJ6_bitCount_0f7a4_10 rfl (lv_at hl 0 rfl) (hp_n (n := 11) rfl ?_)
  refine lv_ldcw hx hb hown (hts _ kc_J6_266) dJ6_bitCount_0f7a4_11 (hp_n (n := 14) rfl ?_)
  refine lv_iand hx hb dJ6_bitCount_0f7a4_14 (hp_n (n := 15) rfl (lv_topi (fun x_4 ex_4 => ?_)))
  refine lv_iload_n hx hb dJ6_bitCount_0f7a4_15 rfl (lv_at hl 0 rfl) (hp_n (n := 16) rfl ?_)
  refine lv_iconst (v := 2) hx hb dJ6_bitCount_0f7a4_16 (by decide) (hp_n (n := 17) rfl ?_)
  refine lv_iushr hx hb dJ6_bitCount_0f7a4_17 rfl (hp_n (n := 18) rfl (lv_topi (fun x_5 ex_5 => ?_)))
  refine lv_ldcw hx hb hown (hts _ kc_J6_266) dJ6_bitCount_0f7a4_18 (hp_n (n := 21) rfl ?_)
  refine lv_iand hx hb dJ6_bitCount_0f7a4_21 (hp_n (n := 22) rfl (lv_topi (fun x_6 ex_6 => ?_)))
  refine lv_iadd hx hb dJ6_bitCount_0f7a4_22 (hp_n (n := 23) rfl (lv_topi (fun x_7 ex_7 => ?_)))
  refine lv_istore_n (lv' := [(0, .int x_7)]) hx hb dJ6_bitCount_0f7a4_23 rfl hl (by decide) rfl (fun ls hl => hp_n (n := 24) rfl ?_)
  refine lv_iload_n hx hb dJ6_bitCount_0f7a4_24 rfl (lv_at hl 0 rfl) (hp_n (n := 25) rfl ?_)
  refine lv_iload_n hx hb dJ6_bitCount_0f7a4_25 rfl (lv_at hl 0 rfl) (hp_n (n := 26) rfl ?_)
  refine lv_iconst (v := 4) hx hb dJ6_bitCount_0f7a4_26 (by decide) (hp_n (n := 27) rfl ?_)
  refine lv_iushr hx hb dJ6_bitCount_0f7a4_27 rfl (hp_n (n := 28) rfl (lv_topi (fun x_8 ex_8 => ?_)))
  refine lv_iadd hx hb dJ6_bitCount_0f7a4_28 (hp_n (n := 29) rfl (lv_topi (fun x_9 ex_9 => ?_)))
  refine lv_ldcw hx hb hown (hts _ kc_J6_267) dJ6_bitCount_0f7a4_29 (hp_n (n := 32) rfl ?_)
  refine lv_iand hx hb dJ6_bitCount_0f7a4_32 (hp_n (n := 33) rfl (lv_topi (fun x_10 ex_10 => ?_)))
  refine lv_istore_n (lv' := [(0, .int x_10)]) hx hb dJ6_bitCount_0f7a4_33 rfl hl (by decide) rfl (fun ls hl => hp_n (n := 34) rfl ?_)
  refine lv_iload_n hx hb dJ6_bitCount_0f7a4_34 rfl (lv_at hl 0 rfl) (hp_n (n := 35) rfl ?_)
  refine lv_iload_n hx hb dJ6_bitCount_0f7a4_35 rfl (lv_at hl 0 rfl) (hp_n (n := 36) rfl ?_)
  refine lv_bipush (v := 8) hx hb dJ6_bitCount_0f7a4_36 (by decide) (hp_n (n := 38) rfl ?_)
  refine lv_iushr hx hb dJ6_bitCount_0f7a4_38 rfl (hp_n (n := 39) rfl (lv_topi (fun x_11 ex_11 => ?_)))
  refine lv_iadd hx hb dJ6_bitCount_0f7a4_39 (hp_n (n := 40) rfl (lv_topi (fun x_12 ex_12 => ?_)))
  refine lv_istore_n (lv' := [(0, .int x_12)]) hx hb dJ6_bitCount_0f7a4_40 rfl hl (by decide) rfl (fun ls hl => hp_n (n := 41) rfl ?_)
  refine lv_iload_n hx hb dJ6_bitCount_0f7a4_41 rfl (lv_at hl 0 rfl) (hp_n (n := 42) rfl ?_)
  refine lv_iload_n hx hb dJ6_bitCount_0f7a4_42 rfl (lv_at hl 0 rfl) (hp_n (n := 43) rfl ?_)
  refine lv_bipush (v := 16) hx hb dJ6_bitCount_0f7a4_43 (by decide) (hp_n (n := 45) rfl ?_)
  refine lv_iushr hx hb dJ6_bitCount_0f7a4_45 rfl (hp_n (n := 46) rfl (lv_topi (fun x_13 ex_13 => ?_)))
  refine lv_iadd hx hb dJ6_bitCount_0f7a4_46 (hp_n (n := 47) rfl (lv_topi (fun x_14 ex_14 => ?_)))
  refine lv_istore_n (lv' := [(0, .int x_14)]) hx hb dJ6_bitCount_0f7a4_47 rfl hl (by decide) rfl (fun ls hl => hp_n (n := 48) rfl ?_)
  refine lv_iload_n hx hb dJ6_bitCount_0f7a4_48 rfl (lv_at hl 0 rfl) (hp_n (n := 49) rfl ?_)
  refine lv_bipush (v := 63) hx hb dJ6_bitCount_0f7a4_49 (by decide) (hp_n (n := 51) rfl ?_)
  refine lv_iand hx hb dJ6_bitCount_0f7a4_51 (hp_n (n := 52) rfl (lv_topi (fun x_15 ex_15 => ?_)))
  exact q_iret C B hr hlk rfl dJ6_bitCount_0f7a4_52
abbrev w_J9_floorMod_f86c9 : cw_W := ([], [], [], [])
set_option maxRecDepth 100000 in
set_option maxHeartbeats 4000000 in
theorem t_J9_floorMod_f86c9 (Γ : hp_G) (l : Launch) (α : hp_T) (g : GC α) (a0 : Int64) (a1 : Int64) (hz : ¬ a1 = 0) : Met l yJ9_floorMod_f86c9 (hp_ws yJ9_floorMod_f86c9 cJ9_floorMod_f86c9 6 (some .long)) (hp_rm 0 0 0) (hp_Pc Γ α [.long a0, .long a1]) (hp_Ql Γ (fun r β => β = α)) 0 0 (hp_A Γ) := by
  refine hp_startF pf_J9_floorMod_f86c9 ?_
  intro p e s m below meth c C hr hlk B0 hnm
  have C : hp_C Γ p m c cJ9_floorMod_f86c9 6 s ([.long a0, .long a1] : List Value).toArray RJ9 := C
  have hx := C.1.1
  have hb := C.1.2.1
  have hown := C.1.2.2.2.1
  have hts := C.1.2.2.2.2
  have B : hp_B Γ (cw w_J9_floorMod_f86c9) s α α s.heap [] := ⟨B0.1, B0.2.1, cw_rf g⟩
  have lit0 : (0 : Int32).toInt = 0 := by decide
  have hl := lv_entry ([.long a0, .long a1]) (n := 6) (Nat.le_of_ble_eq_true rfl)
  show W p l e (hp_rm 0 0 0) s m ([.long a0, .long a1] : List Value).toArray below meth c s.heap [] 0 0 (MQ below (hp_Ql Γ (fun r β => β = α)) ([.long a0, .long a1] : List Value).toArray s 0 0 (hp_A Γ)) (entryFrame m ([.long a0, .long a1] : List Value).toArray 6)
  rw [lg_entry_eq]
  generalize (lg_sl ([.long a0, .long a1]) ++ List.replicate (6 - (lg_sl ([.long a0, .long a1])).length) Slot.unset).toArray = ls at hl ⊢
  have hl : lv_has ls 6 [(0, .long a0), (2, .long a1)] := hl
  refine lv_lload_n hx hb dJ9_floorMod_f86c9_0 rfl (lv_at hl 0 rfl) (hp_n (n := 1) rfl ?_)
  refine lv_lload_n hx hb dJ9_floorMod_f86c9_1 rfl (lv_at hl 1 rfl) (hp_n (n := 2) rfl ?_)
  refine lv_lrem hx hb dJ9_floorMod_f86c9_2 (by exact hz) (hp_n (n := 3) rfl (lv_topl (fun x_1 ex_1 => ?_)))
  refine lv_lstore (lv' := [(4, .long x_1), (0, .long a0), (2, .long a1)]) hx hb dJ9_floorMod_f86c9_3 hl (by decide) rfl (fun ls hl => hp_n (n := 5) rfl ?_)
  refine lv_lload_n hx hb dJ9_floorMod_f86c9_5 rfl (lv_at hl 1 rfl) (hp_n (n := 6) rfl ?_)
  refine lv_lload_n hx hb dJ9_floorMod_f86c9_6 rfl (lv_at hl 2 rfl) (hp_n (n := 7) rfl ?_)
  refine lv_lxor hx hb dJ9_floorMod_f86c9_7 (hp_n (n := 8) rfl (lv_topl (fun x_2 ex_2 => ?_)))
  refine lv_lconst (v := 0) hx hb dJ9_floorMod_f86c9_8 rfl (hp_n (n := 9) rfl ?_)
  refine W.lcmp hx hb dJ9_floorMod_f86c9_9 (hp_n (n := 10) rfl (lv_topi (fun x_3 ex_3 => ?_)))
  refine lv_if_ge (tgt := 25) hx hb dJ9_floorMod_f86c9_10 (by decide) (fun c_4 => ?_) (fun c_4 => hp_n (n := 13) rfl ?_)
  ·
    have jc_4 := il_le c_4
    refine lv_lload hx hb dJ9_floorMod_f86c9_25 (lv_at hl 0 rfl) (hp_n (n := 27) rfl ?_)
    exact q_lret C B hr hlk rfl dJ9_floorMod_f86c9_27
  ·
    have jc_4 := il_nle c_4
    refine lv_lload hx hb dJ9_floorMod_f86c9_13 (lv_at hl 0 rfl) (hp_n (n := 15) rfl ?_)
    refine lv_lconst (v := 0) hx hb dJ9_floorMod_f86c9_15 rfl (hp_n (n := 16) rfl ?_)
    refine W.lcmp hx hb dJ9_floorMod_f86c9_16 (hp_n (n := 17) rfl (lv_topi (fun x_5 ex_5 => ?_)))
    refine lv_if_eq (tgt := 25) hx hb dJ9_floorMod_f86c9_17 (by decide) (fun c_6 => ?_) (fun c_6 => hp_n (n := 20) rfl ?_)
    ·
      have jc_6 := il_eq c_6
      refine lv_lload hx hb dJ9_floorMod_f86c9_25 (lv_at hl 0 rfl) (hp_n (n := 27) rfl ?_)
      exact q_lret C B hr hlk rfl dJ9_floorMod_f86c9_27
    ·
      have jc_6 := il_ne c_6
      refine lv_lload hx hb dJ9_floorMod_f86c9_20 (lv_at hl 0 rfl) (hp_n (n := 22) rfl ?_)
      refine lv_lload_n hx hb dJ9_floorMod_f86c9_22 rfl (lv_at hl 2 rfl) (hp_n (n := 23) rfl ?_)
      refine lv_ladd hx hb dJ9_floorMod_f86c9_23 (hp_n (n := 24) rfl (lv_topl (fun x_7 ex_7 => ?_)))
      exact q_lret C B hr hlk rfl dJ9_floorMod_f86c9_24
end JN2_8
section JN2_9
abbrev w_X11_firstPartOf : cw_W := ([], [], [], [])
set_option maxRecDepth 100000 in
set_option maxHeartbeats 4000000 in
theorem t_X11_firstPartOf (Γ : hp_G) (l : Launch) (α : hp_T) (g : GC α) (a0 : Int32) : Met l yX11_firstPartOf (hp_ws yX11_firstPartOf cX11_firstPartOf 1 (some .int)) (hp_rm 2 0 0) (hp_Pc Γ α [.int a0]) (hp_Qi Γ (fun r β => β = α)) 0 0 (hp_A Γ) := by
  refine hp_start (by decide) ?_
  intro p e s m below meth c C hr hlk B0 hnm
  have C : hp_C Γ p m c cX11_firstPartOf 1 s ([.int a0] : List Value).toArray RX11 := C
  have hx := C.1.1
  have hb := C.1.2.1
  have hown := C.1.2.2.2.1
  have hts := C.1.2.2.2.2
  have B : hp_B Γ (cw w_X11_firstPartOf) s α α s.heap [] := ⟨B0.1, B0.2.1, cw_rf g⟩
  have lit0 : (0 : Int32).toInt = 0 := by decide
  have lit1 : (1 : Int32).toInt = 1 := by decide
  have lit2 : (2 : Int32).toInt = 2 := by decide
  have hl := lv_entry ([.int a0]) (n := 1) (Nat.le_of_ble_eq_true rfl)
  show W p l e (hp_rm 2 0 0) s m ([.int a0] : List Value).toArray below meth c s.heap [] 0 0 (MQ below (hp_Qi Γ (fun r β => β = α)) ([.int a0] : List Value).toArray s 0 0 (hp_A Γ)) (entryFrame m ([.int a0] : List Value).toArray 1)
  rw [lg_entry_eq]
  generalize (lg_sl ([.int a0]) ++ List.replicate (1 - (lg_sl ([.int a0])).length) Slot.unset).toArray = ls at hl ⊢
  have hl : lv_has ls 1 [(0, .int a0)] := hl
  refine lv_iload_n hx hb dX11_firstPartOf_0 rfl (lv_at hl 0 rfl) (hp_n (n := 1) rfl ?_)
  refine lv_iconst (v := 2) hx hb dX11_firstPartOf_1 (by decide) (hp_n (n := 2) rfl ?_)
  refine lv_icmp_ge (tgt := 9) hx hb dX11_firstPartOf_2 (by decide) (fun c_1 => ?_) (fun c_1 => hp_n (n := 5) rfl ?_)
  ·
    have jc_1 := il_le c_1
    refine lv_iload_n hx hb dX11_firstPartOf_9 rfl (lv_at hl 0 rfl) (hp_n (n := 10) rfl ?_)
    refine lv_iconst (v := 1) hx hb dX11_firstPartOf_10 (by decide) (hp_n (n := 11) rfl ?_)
    refine lv_isub hx hb dX11_firstPartOf_11 (hp_n (n := 12) rfl (lv_topi (fun x_2 ex_2 => ?_)))
    refine q_ci (pc' := 15) B (hp_runS (As := [.int x_2]) (rest := []) C B (t_J6_highestOneBit_0f7a4 Γ l α B.2.2.1 x_2) lb_J6_highestOneBit_0f7a4 ls_J6_highestOneBit_0f7a4 lk_X11_463 rfl (by decide) rfl hl.1 rfl (Nat.le_of_ble_eq_true rfl) dX11_firstPartOf_12 ⟨Nat.le_refl _, Nat.le_refl _⟩) (fun _ _ h => by rw [h]; exact B.2.2) rfl (fun rh_3 αh_3 Hh_3 Lh_3 ph_3 Bh_3 => ?_)
    rw [ph_3] at Bh_3
    exact q_iret C Bh_3 hr hlk rfl dX11_firstPartOf_15
  ·
    have jc_1 := il_nle c_1
    refine lv_iconst (v := 0) hx hb dX11_firstPartOf_5 (by decide) (hp_n (n := 6) rfl ?_)
    refine lv_goto (tgt := 15) hx hb dX11_firstPartOf_6 (by decide) ?_
    exact q_iret C B hr hlk rfl dX11_firstPartOf_15
abbrev w_X11_hasOneOf : cw_W := ([], [], [], [])
set_option maxRecDepth 100000 in
set_option maxHeartbeats 4000000 in
theorem t_X11_hasOneOf (Γ : hp_G) (l : Launch) (α : hp_T) (g : GC α) (a0 : Int32) (a1 : Int32) (a2 : Int32) : Met l yX11_hasOneOf (hp_ws yX11_hasOneOf cX11_hasOneOf 4 (some .boolean)) (hp_rm 0 0 0) (hp_Pc Γ α [.int a0, .int a1, .int a2]) (hp_Qi Γ (fun r β => β = α ∧ (r = 0 ∨ r = 1))) 0 0 (hp_A Γ) := by
  refine hp_start (by decide) ?_
  intro p e s m below meth c C hr hlk B0 hnm
  have C : hp_C Γ p m c cX11_hasOneOf 4 s ([.int a0, .int a1, .int a2] : List Value).toArray RX11 := C
  have hx := C.1.1
  have hb := C.1.2.1
  have hown := C.1.2.2.2.1
  have hts := C.1.2.2.2.2
  have B : hp_B Γ (cw w_X11_hasOneOf) s α α s.heap [] := ⟨B0.1, B0.2.1, cw_rf g⟩
  have lit0 : (0 : Int32).toInt = 0 := by decide
  have lit1 : (1 : Int32).toInt = 1 := by decide
  have lit30 : (30 : Int32).toInt = 30 := by decide
  have hl := lv_entry ([.int a0, .int a1, .int a2]) (n := 4) (Nat.le_of_ble_eq_true rfl)
  show W p l e (hp_rm 0 0 0) s m ([.int a0, .int a1, .int a2] : List Value).toArray below meth c s.heap [] 0 0 (MQ below (hp_Qi Γ (fun r β => β = α ∧ (r = 0 ∨ r = 1))) ([.int a0, .int a1, .int a2] : List Value).toArray s 0 0 (hp_A Γ)) (entryFrame m ([.int a0, .int a1, .int a2] : List Value).toArray 4)
  rw [lg_entry_eq]
  generalize (lg_sl ([.int a0, .int a1, .int a2]) ++ List.replicate (4 - (lg_sl ([.int a0, .int a1, .int a2])).length) Slot.unset).toArray = ls at hl ⊢
  have hl : lv_has ls 4 [(0, .int a0), (1, .int a1), (2, .int a2)] := hl
  refine lv_iload_n hx hb dX11_hasOneOf_0 rfl (lv_at hl 1 rfl) (hp_n (n := 1) rfl ?_)
  refine lv_if_lt (tgt := 14) hx hb dX11_hasOneOf_1 (by decide) (fun c_1 => ?_) (fun c_1 => hp_n (n := 4) rfl ?_)
  ·
    have jc_1 := il_lt c_1
    refine lv_iconst (v := 0) hx hb dX11_hasOneOf_14 (by decide) (hp_n (n := 15) rfl ?_)
    exact q_zret C B hr hlk (by decide) ⟨rfl, (Or.inl rfl)⟩ dX11_hasOneOf_15
  ·
    have jc_1 := il_nlt c_1
    refine lv_iload_n hx hb dX11_hasOneOf_4 rfl (lv_at hl 1 rfl) (hp_n (n := 5) rfl ?_)
    refine lv_bipush (v := 30) hx hb dX11_hasOneOf_5 (by decide) (hp_n (n := 7) rfl ?_)
    refine lv_icmp_ge (tgt := 14) hx hb dX11_hasOneOf_7 (by decide) (fun c_2 => ?_) (fun c_2 => hp_n (n := 10) rfl ?_)
    ·
      have jc_2 := il_le c_2
      refine lv_iconst (v := 0) hx hb dX11_hasOneOf_14 (by decide) (hp_n (n := 15) rfl ?_)
      exact q_zret C B hr hlk (by decide) ⟨rfl, (Or.inl rfl)⟩ dX11_hasOneOf_15
    ·
      have jc_2 := il_nle c_2
      refine lv_iload_n hx hb dX11_hasOneOf_10 rfl (lv_at hl 2 rfl) (hp_n (n := 11) rfl ?_)
      refine lv_if_gt (tgt := 16) hx hb dX11_hasOneOf_11 (by decide) (fun c_3 => ?_) (fun c_3 => hp_n (n := 14) rfl ?_)
      ·
        have jc_3 := il_lt c_3
        refine lv_iload_n hx hb dX11_hasOneOf_16 rfl (lv_at hl 0 rfl) (hp_n (n := 17) rfl ?_)
        refine lv_iload_n hx hb dX11_hasOneOf_17 rfl (lv_at hl 1 rfl) (hp_n (n := 18) rfl ?_)
        refine lv_iushr hx hb dX11_hasOneOf_18 rfl (hp_n (n := 19) rfl (lv_topi (fun x_4 ex_4 => ?_)))
        refine lv_istore_n (lv' := [(3, .int x_4), (0, .int a0), (1, .int a1), (2, .int a2)]) hx hb dX11_hasOneOf_19 rfl hl (by decide) rfl (fun ls hl => hp_n (n := 20) rfl ?_)
        refine lv_iload_n hx hb dX11_hasOneOf_20 rfl (lv_at hl 3 rfl) (hp_n (n := 21) rfl ?_)
        refine lv_bipush (v := 30) hx hb dX11_hasOneOf_21 (by decide) (hp_n (n := 23) rfl ?_)
        refine lv_icmp_lt (tgt := 30) hx hb dX11_hasOneOf_23 (by decide) (fun c_5 => ?_) (fun c_5 => hp_n (n := 26) rfl ?_)
        ·
          have jc_5 := il_lt c_5
          refine lv_iload_n hx hb dX11_hasOneOf_30 rfl (lv_at hl 0 rfl) (hp_n (n := 31) rfl ?_)
          refine lv_iconst (v := 1) hx hb dX11_hasOneOf_31 (by decide) (hp_n (n := 32) rfl ?_)
          refine lv_iload_n hx hb dX11_hasOneOf_32 rfl (lv_at hl 3 rfl) (hp_n (n := 33) rfl ?_)
          refine lv_ishl hx hb dX11_hasOneOf_33 (hp_n (n := 34) rfl (lv_topi (fun x_6 ex_6 => ?_)))
          refine lv_iconst (v := 1) hx hb dX11_hasOneOf_34 (by decide) (hp_n (n := 35) rfl ?_)
          refine lv_isub hx hb dX11_hasOneOf_35 (hp_n (n := 36) rfl (lv_topi (fun x_7 ex_7 => ?_)))
          refine lv_iand hx hb dX11_hasOneOf_36 (hp_n (n := 37) rfl (lv_topi (fun x_8 ex_8 => ?_)))
          refine lv_if_eq (tgt := 44) hx hb dX11_hasOneOf_37 (by decide) (fun c_9 => ?_) (fun c_9 => hp_n (n := 40) rfl ?_)
          ·
            have jc_9 := il_eq c_9
            refine lv_iconst (v := 0) hx hb dX11_hasOneOf_44 (by decide) (hp_n (n := 45) rfl ?_)
            exact q_zret C B hr hlk (by decide) ⟨rfl, (Or.inl rfl)⟩ dX11_hasOneOf_45
          ·
            have jc_9 := il_ne c_9
            refine lv_iconst (v := 1) hx hb dX11_hasOneOf_40 (by decide) (hp_n (n := 41) rfl ?_)
            refine lv_goto (tgt := 45) hx hb dX11_hasOneOf_41 (by decide) ?_
            exact q_zret C B hr hlk (by decide) ⟨rfl, (Or.inr rfl)⟩ dX11_hasOneOf_45
        ·
          have jc_5 := il_nlt c_5
          refine lv_iload_n hx hb dX11_hasOneOf_26 rfl (lv_at hl 0 rfl) (hp_n (n := 27) rfl ?_)
          refine lv_goto (tgt := 37) hx hb dX11_hasOneOf_27 (by decide) ?_
          refine lv_if_eq (tgt := 44) hx hb dX11_hasOneOf_37 (by decide) (fun c_10 => ?_) (fun c_10 => hp_n (n := 40) rfl ?_)
          ·
            have jc_10 := il_eq c_10
            refine lv_iconst (v := 0) hx hb dX11_hasOneOf_44 (by decide) (hp_n (n := 45) rfl ?_)
            exact q_zret C B hr hlk (by decide) ⟨rfl, (Or.inl rfl)⟩ dX11_hasOneOf_45
          ·
            have jc_10 := il_ne c_10
            refine lv_iconst (v := 1) hx hb dX11_hasOneOf_40 (by decide) (hp_n (n := 41) rfl ?_)
            refine lv_goto (tgt := 45) hx hb dX11_hasOneOf_41 (by decide) ?_
            exact q_zret C B hr hlk (by decide) ⟨rfl, (Or.inr rfl)⟩ dX11_hasOneOf_45
      ·
        have jc_3 := il_nlt c_3
        refine lv_iconst (v := 0) hx hb dX11_hasOneOf_14 (by decide) (hp_n (n := 15) rfl ?_)
        exact q_zret C B hr hlk (by decide) ⟨rfl, (Or.inl rfl)⟩ dX11_hasOneOf_15
abbrev w_X8_firstAt : cw_W := ([], [], [], [])
set_option maxRecDepth 100000 in
set_option maxHeartbeats 4000000 in
theorem t_X8_firstAt (Γ : hp_G) (l : Launch) (α : hp_T) (g : GC α) (a0 : Nat) (k0 : hp_K α a0 = 9) (a1 : Int32) : Met l yX8_firstAt (hp_ws yX8_firstAt cX8_firstAt 2 (some .int)) (hp_rm 0 0 0) (hp_Pc Γ α [.ref a0, .int a1]) (hp_Qi Γ (fun r β => β = α)) 0 0 (hp_A Γ) := by
  refine hp_start (by decide) ?_
  intro p e s m below meth c C hr hlk B0 hnm
  have C : hp_C Γ p m c cX8_firstAt 2 s ([.ref a0, .int a1] : List Value).toArray RX8 := C
  have hx := C.1.1
  have hb := C.1.2.1
  have hown := C.1.2.2.2.1
  have hts := C.1.2.2.2.2
  have B : hp_B Γ (cw w_X8_firstAt) s α α s.heap [] := ⟨B0.1, B0.2.1, cw_rf g⟩
  have lit0 : (0 : Int32).toInt = 0 := by decide
  have lit64 : (64 : Int32).toInt = 64 := by decide
  have hl := lv_entry ([.ref a0, .int a1]) (n := 2) (Nat.le_of_ble_eq_true rfl)
  show W p l e (hp_rm 0 0 0) s m ([.ref a0, .int a1] : List Value).toArray below meth c s.heap [] 0 0 (MQ below (hp_Qi Γ (fun r β => β = α)) ([.ref a0, .int a1] : List Value).toArray s 0 0 (hp_A Γ)) (entryFrame m ([.ref a0, .int a1] : List Value).toArray 2)
  rw [lg_entry_eq]
  generalize (lg_sl ([.ref a0, .int a1]) ++ List.replicate (2 - (lg_sl ([.ref a0, .int a1])).length) Slot.unset).toArray = ls at hl ⊢
  have hl : lv_has ls 2 [(0, .ref a0), (1, .int a1)] := hl
  refine lv_iload_n hx hb dX8_firstAt_0 rfl (lv_at hl 1 rfl) (hp_n (n := 1) rfl ?_)
  refine lv_if_lt (tgt := 30) hx hb dX8_firstAt_1 (by decide) (fun c_1 => ?_) (fun c_1 => hp_n (n := 4) rfl ?_)
  ·
    have jc_1 := il_lt c_1
    refine lv_iconst (v := 0) hx hb dX8_firstAt_30 (by decide) (hp_n (n := 31) rfl ?_)
    exact q_iret C B hr hlk rfl dX8_firstAt_31
  ·
    have jc_1 := il_nlt c_1
    refine lv_iload_n hx hb dX8_firstAt_4 rfl (lv_at hl 1 rfl) (hp_n (n := 5) rfl ?_)
    refine lv_aload_n hx hb dX8_firstAt_5 rfl (lv_at hl 0 rfl) (hp_n (n := 6) rfl ?_)
    refine q_geti (κ := 9) (k := 3) (φ := 453) (pc' := 9) C B (cw_k B.2.2 k0) fl_X8_22 rfl rfl rfl dX8_firstAt_6 rfl (fun x_2 ex_2 => ?_)
    obtain ⟨gx_2a, gx_2b⟩ : 0 ≤ x_2.toInt ∧ x_2.toInt ≤ 64 := by rw [ex_2]; exact B.2.2.1.1 453 a0 rfl
    refine lv_icmp_ge (tgt := 30) hx hb dX8_firstAt_9 (by decide) (fun c_3 => ?_) (fun c_3 => hp_n (n := 12) rfl ?_)
    ·
      have jc_3 := il_le c_3
      refine lv_iconst (v := 0) hx hb dX8_firstAt_30 (by decide) (hp_n (n := 31) rfl ?_)
      exact q_iret C B hr hlk rfl dX8_firstAt_31
    ·
      have jc_3 := il_nle c_3
      refine lv_iload_n hx hb dX8_firstAt_12 rfl (lv_at hl 1 rfl) (hp_n (n := 13) rfl ?_)
      refine lv_aload_n hx hb dX8_firstAt_13 rfl (lv_at hl 0 rfl) (hp_n (n := 14) rfl ?_)
      refine q_getr (κ := 9) (k := 0) (φ := 450) (pc' := 17) C B (cw_k B.2.2 k0) fl_X8_9 rfl rfl rfl (cw_r B.2.2 k0 rfl rfl (by decide) (by decide)) dX8_firstAt_14 rfl (fun b_4 eb_4 kb_4 => ?_)
      refine q_alen (κ := 21) (t := 0) (n := 64) (x := 64) (ty := .int) (pc' := 18) C B (cw_k B.2.2 kb_4) (by decide) rfl rfl rfl dX8_firstAt_17 rfl ?_
      refine lv_icmp_ge (tgt := 30) hx hb dX8_firstAt_18 (by decide) (fun c_5 => ?_) (fun c_5 => hp_n (n := 21) rfl ?_)
      ·
        have jc_5 := il_le c_5
        refine lv_iconst (v := 0) hx hb dX8_firstAt_30 (by decide) (hp_n (n := 31) rfl ?_)
        exact q_iret C B hr hlk rfl dX8_firstAt_31
      ·
        have jc_5 := il_nle c_5
        refine lv_aload_n hx hb dX8_firstAt_21 rfl (lv_at hl 0 rfl) (hp_n (n := 22) rfl ?_)
        refine q_gets (κ := 9) (k := 0) (φ := 450) (pc' := 25) C B (cw_k B.2.2 k0) fl_X8_9 rfl rfl rfl eb_4 dX8_firstAt_22 rfl ?_
        refine lv_iload_n hx hb dX8_firstAt_25 rfl (lv_at hl 1 rfl) (hp_n (n := 26) rfl ?_)
        refine q_ial (κ := 21) (n := 64) (pc' := 27) C B (cw_k B.2.2 kb_4) (by decide) rfl (vi_of (by omega) (by omega)) dX8_firstAt_26 rfl (lv_topi (fun x_6 ex_6 => ?_))
        refine lv_goto (tgt := 31) hx hb dX8_firstAt_27 (by decide) ?_
        exact q_iret C B hr hlk rfl dX8_firstAt_31
abbrev w_X8_manyAt : cw_W := ([], [], [], [])
set_option maxRecDepth 100000 in
set_option maxHeartbeats 4000000 in
theorem t_X8_manyAt (Γ : hp_G) (l : Launch) (α : hp_T) (g : GC α) (a0 : Nat) (k0 : hp_K α a0 = 9) (a1 : Int32) : Met l yX8_manyAt (hp_ws yX8_manyAt cX8_manyAt 2 (some .int)) (hp_rm 0 0 0) (hp_Pc Γ α [.ref a0, .int a1]) (hp_Qi Γ (fun r β => β = α)) 0 0 (hp_A Γ) := by
  refine hp_start (by decide) ?_
  intro p e s m below meth c C hr hlk B0 hnm
  have C : hp_C Γ p m c cX8_manyAt 2 s ([.ref a0, .int a1] : List Value).toArray RX8 := C
  have hx := C.1.1
  have hb := C.1.2.1
  have hown := C.1.2.2.2.1
  have hts := C.1.2.2.2.2
  have B : hp_B Γ (cw w_X8_manyAt) s α α s.heap [] := ⟨B0.1, B0.2.1, cw_rf g⟩
  have lit0 : (0 : Int32).toInt = 0 := by decide
  have lit64 : (64 : Int32).toInt = 64 := by decide
  have hl := lv_entry ([.ref a0, .int a1]) (n := 2) (Nat.le_of_ble_eq_true rfl)
  show W p l e (hp_rm 0 0 0) s m ([.ref a0, .int a1] : List Value).toArray below meth c s.heap [] 0 0 (MQ below (hp_Qi Γ (fun r β => β = α)) ([.ref a0, .int a1] : List Value).toArray s 0 0 (hp_A Γ)) (entryFrame m ([.ref a0, .int a1] : List Value).toArray 2)
  rw [lg_entry_eq]
  generalize (lg_sl ([.ref a0, .int a1]) ++ List.replicate (2 - (lg_sl ([.ref a0, .int a1])).length) Slot.unset).toArray = ls at hl ⊢
  have hl : lv_has ls 2 [(0, .ref a0), (1, .int a1)] := hl
  refine lv_iload_n hx hb dX8_manyAt_0 rfl (lv_at hl 1 rfl) (hp_n (n := 1) rfl ?_)
  refine lv_if_lt (tgt := 30) hx hb dX8_manyAt_1 (by decide) (fun c_1 => ?_) (fun c_1 => hp_n (n := 4) rfl ?_)
  ·
    have jc_1 := il_lt c_1
    refine lv_iconst (v := 0) hx hb dX8_manyAt_30 (by decide) (hp_n (n := 31) rfl ?_)
    exact q_iret C B hr hlk rfl dX8_manyAt_31
  ·
    have jc_1 := il_nlt c_1
    refine lv_iload_n hx hb dX8_manyAt_4 rfl (lv_at hl 1 rfl) (hp_n (n := 5) rfl ?_)
    refine lv_aload_n hx hb dX8_manyAt_5 rfl (lv_at hl 0 rfl) (hp_n (n := 6) rfl ?_)
    refine q_geti (κ := 9) (k := 3) (φ := 453) (pc' := 9) C B (cw_k B.2.2 k0) fl_X8_22 rfl rfl rfl dX8_manyAt_6 rfl (fun x_2 ex_2 => ?_)
    obtain ⟨gx_2a, gx_2b⟩ : 0 ≤ x_2.toInt ∧ x_2.toInt ≤ 64 := by rw [ex_2]; exact B.2.2.1.1 453 a0 rfl
    refine lv_icmp_ge (tgt := 30) hx hb dX8_manyAt_9 (by decide) (fun c_3 => ?_) (fun c_3 => hp_n (n := 12) rfl ?_)
    ·
      have jc_3 := il_le c_3
      refine lv_iconst (v := 0) hx hb dX8_manyAt_30 (by decide) (hp_n (n := 31) rfl ?_)
      exact q_iret C B hr hlk rfl dX8_manyAt_31
    ·
      have jc_3 := il_nle c_3
      refine lv_iload_n hx hb dX8_manyAt_12 rfl (lv_at hl 1 rfl) (hp_n (n := 13) rfl ?_)
      refine lv_aload_n hx hb dX8_manyAt_13 rfl (lv_at hl 0 rfl) (hp_n (n := 14) rfl ?_)
      refine q_getr (κ := 9) (k := 1) (φ := 451) (pc' := 17) C B (cw_k B.2.2 k0) fl_X8_15 rfl rfl rfl (cw_r B.2.2 k0 rfl rfl (by decide) (by decide)) dX8_manyAt_14 rfl (fun b_4 eb_4 kb_4 => ?_)
      refine q_alen (κ := 22) (t := 0) (n := 64) (x := 64) (ty := .int) (pc' := 18) C B (cw_k B.2.2 kb_4) (by decide) rfl rfl rfl dX8_manyAt_17 rfl ?_
      refine lv_icmp_ge (tgt := 30) hx hb dX8_manyAt_18 (by decide) (fun c_5 => ?_) (fun c_5 => hp_n (n := 21) rfl ?_)
      ·
        have jc_5 := il_le c_5
        refine lv_iconst (v := 0) hx hb dX8_manyAt_30 (by decide) (hp_n (n := 31) rfl ?_)
        exact q_iret C B hr hlk rfl dX8_manyAt_31
      ·
        have jc_5 := il_nle c_5
        refine lv_aload_n hx hb dX8_manyAt_21 rfl (lv_at hl 0 rfl) (hp_n (n := 22) rfl ?_)
        refine q_gets (κ := 9) (k := 1) (φ := 451) (pc' := 25) C B (cw_k B.2.2 k0) fl_X8_15 rfl rfl rfl eb_4 dX8_manyAt_22 rfl ?_
        refine lv_iload_n hx hb dX8_manyAt_25 rfl (lv_at hl 1 rfl) (hp_n (n := 26) rfl ?_)
        refine q_ial (κ := 22) (n := 64) (pc' := 27) C B (cw_k B.2.2 kb_4) (by decide) rfl (vi_of (by omega) (by omega)) dX8_manyAt_26 rfl (lv_topi (fun x_6 ex_6 => ?_))
        refine lv_goto (tgt := 31) hx hb dX8_manyAt_27 (by decide) ?_
        exact q_iret C B hr hlk rfl dX8_manyAt_31
abbrev w_X8_isAhead : cw_W := ([], [], [], [])
set_option maxRecDepth 100000 in
set_option maxHeartbeats 4000000 in
theorem t_X8_isAhead (Γ : hp_G) (l : Launch) (α : hp_T) (g : GC α) (a0 : Nat) (k0 : hp_K α a0 = 9) (a1 : Int32) : Met l yX8_isAhead (hp_ws yX8_isAhead cX8_isAhead 2 (some .boolean)) (hp_rm 0 0 0) (hp_Pc Γ α [.ref a0, .int a1]) (hp_Qi Γ (fun r β => β = α ∧ (r = 0 ∨ r = 1))) 0 0 (hp_A Γ) := by
  refine hp_start (by decide) ?_
  intro p e s m below meth c C hr hlk B0 hnm
  have C : hp_C Γ p m c cX8_isAhead 2 s ([.ref a0, .int a1] : List Value).toArray RX8 := C
  have hx := C.1.1
  have hb := C.1.2.1
  have hown := C.1.2.2.2.1
  have hts := C.1.2.2.2.2
  have B : hp_B Γ (cw w_X8_isAhead) s α α s.heap [] := ⟨B0.1, B0.2.1, cw_rf g⟩
  have lit0 : (0 : Int32).toInt = 0 := by decide
  have lit1 : (1 : Int32).toInt = 1 := by decide
  have lit64 : (64 : Int32).toInt = 64 := by decide
  have hl := lv_entry ([.ref a0, .int a1]) (n := 2) (Nat.le_of_ble_eq_true rfl)
  show W p l e (hp_rm 0 0 0) s m ([.ref a0, .int a1] : List Value).toArray below meth c s.heap [] 0 0 (MQ below (hp_Qi Γ (fun r β => β = α ∧ (r = 0 ∨ r = 1))) ([.ref a0, .int a1] : List Value).toArray s 0 0 (hp_A Γ)) (entryFrame m ([.ref a0, .int a1] : List Value).toArray 2)
  rw [lg_entry_eq]
  generalize (lg_sl ([.ref a0, .int a1]) ++ List.replicate (2 - (lg_sl ([.ref a0, .int a1])).length) Slot.unset).toArray = ls at hl ⊢
  have hl : lv_has ls 2 [(0, .ref a0), (1, .int a1)] := hl
  refine lv_iload_n hx hb dX8_isAhead_0 rfl (lv_at hl 1 rfl) (hp_n (n := 1) rfl ?_)
  refine lv_if_lt (tgt := 34) hx hb dX8_isAhead_1 (by decide) (fun c_1 => ?_) (fun c_1 => hp_n (n := 4) rfl ?_)
  ·
    have jc_1 := il_lt c_1
    refine lv_iconst (v := 0) hx hb dX8_isAhead_34 (by decide) (hp_n (n := 35) rfl ?_)
    exact q_zret C B hr hlk (by decide) ⟨rfl, (Or.inl rfl)⟩ dX8_isAhead_35
  ·
    have jc_1 := il_nlt c_1
    refine lv_iload_n hx hb dX8_isAhead_4 rfl (lv_at hl 1 rfl) (hp_n (n := 5) rfl ?_)
    refine lv_aload_n hx hb dX8_isAhead_5 rfl (lv_at hl 0 rfl) (hp_n (n := 6) rfl ?_)
    refine q_geti (κ := 9) (k := 3) (φ := 453) (pc' := 9) C B (cw_k B.2.2 k0) fl_X8_22 rfl rfl rfl dX8_isAhead_6 rfl (fun x_2 ex_2 => ?_)
    obtain ⟨gx_2a, gx_2b⟩ : 0 ≤ x_2.toInt ∧ x_2.toInt ≤ 64 := by rw [ex_2]; exact B.2.2.1.1 453 a0 rfl
    refine lv_icmp_ge (tgt := 34) hx hb dX8_isAhead_9 (by decide) (fun c_3 => ?_) (fun c_3 => hp_n (n := 12) rfl ?_)
    ·
      have jc_3 := il_le c_3
      refine lv_iconst (v := 0) hx hb dX8_isAhead_34 (by decide) (hp_n (n := 35) rfl ?_)
      exact q_zret C B hr hlk (by decide) ⟨rfl, (Or.inl rfl)⟩ dX8_isAhead_35
    ·
      have jc_3 := il_nle c_3
      refine lv_iload_n hx hb dX8_isAhead_12 rfl (lv_at hl 1 rfl) (hp_n (n := 13) rfl ?_)
      refine lv_aload_n hx hb dX8_isAhead_13 rfl (lv_at hl 0 rfl) (hp_n (n := 14) rfl ?_)
      refine q_getr (κ := 9) (k := 2) (φ := 452) (pc' := 17) C B (cw_k B.2.2 k0) fl_X8_18 rfl rfl rfl (cw_r B.2.2 k0 rfl rfl (by decide) (by decide)) dX8_isAhead_14 rfl (fun b_4 eb_4 kb_4 => ?_)
      refine q_alen (κ := 23) (t := 2) (n := 64) (x := 64) (ty := .boolean) (pc' := 18) C B (cw_k B.2.2 kb_4) (by decide) rfl rfl rfl dX8_isAhead_17 rfl ?_
      refine lv_icmp_ge (tgt := 34) hx hb dX8_isAhead_18 (by decide) (fun c_5 => ?_) (fun c_5 => hp_n (n := 21) rfl ?_)
      ·
        have jc_5 := il_le c_5
        refine lv_iconst (v := 0) hx hb dX8_isAhead_34 (by decide) (hp_n (n := 35) rfl ?_)
        exact q_zret C B hr hlk (by decide) ⟨rfl, (Or.inl rfl)⟩ dX8_isAhead_35
      ·
        have jc_5 := il_nle c_5
        refine lv_aload_n hx hb dX8_isAhead_21 rfl (lv_at hl 0 rfl) (hp_n (n := 22) rfl ?_)
        refine q_gets (κ := 9) (k := 2) (φ := 452) (pc' := 25) C B (cw_k B.2.2 k0) fl_X8_18 rfl rfl rfl eb_4 dX8_isAhead_22 rfl ?_
        refine lv_iload_n hx hb dX8_isAhead_25 rfl (lv_at hl 1 rfl) (hp_n (n := 26) rfl ?_)
        refine q_zal (κ := 23) (n := 64) (pc' := 27) C B (cw_k B.2.2 kb_4) (by decide) rfl (vi_of (by omega) (by omega)) dX8_isAhead_26 rfl (lv_topi (fun x_6 ex_6 => ?_))
        refine lv_if_eq (tgt := 34) hx hb dX8_isAhead_27 (by decide) (fun c_7 => ?_) (fun c_7 => hp_n (n := 30) rfl ?_)
        ·
          have jc_7 := il_eq c_7
          refine lv_iconst (v := 0) hx hb dX8_isAhead_34 (by decide) (hp_n (n := 35) rfl ?_)
          exact q_zret C B hr hlk (by decide) ⟨rfl, (Or.inl rfl)⟩ dX8_isAhead_35
        ·
          have jc_7 := il_ne c_7
          refine lv_iconst (v := 1) hx hb dX8_isAhead_30 (by decide) (hp_n (n := 31) rfl ?_)
          refine lv_goto (tgt := 35) hx hb dX8_isAhead_31 (by decide) ?_
          exact q_zret C B hr hlk (by decide) ⟨rfl, (Or.inr rfl)⟩ dX8_isAhead_35
abbrev w_X8_clear : cw_W := ([453, 454], [], [], [])
set_option maxRecDepth 100000 in
set_option maxHeartbeats 4000000 in
theorem t_X8_clear (Γ : hp_G) (l : Launch) (α : hp_T) (g : GC α) (a0 : Nat) (k0 : hp_K α a0 = 9) : Met l yX8_clear (hp_ws yX8_clear cX8_clear 1 none) (hp_rm 0 0 0) (hp_Pc Γ α [.ref a0]) (hp_Qv Γ (fun β => cw w_X8_clear α β)) 0 0 (hp_A Γ) := by
  refine hp_start (by decide) ?_
  intro p e s m below meth c C hr hlk B0 hnm
  have C : hp_C Γ p m c cX8_clear 1 s ([.ref a0] : List Value).toArray RX8 := C
  have hx := C.1.1
  have hb := C.1.2.1
  have hown := C.1.2.2.2.1
  have hts := C.1.2.2.2.2
  have B : hp_B Γ (cw w_X8_clear) s α α s.heap [] := ⟨B0.1, B0.2.1, cw_rf g⟩
  have lit0 : (0 : Int32).toInt = 0 := by decide
  have hl := lv_entry ([.ref a0]) (n := 1) (Nat.le_of_ble_eq_true rfl)
  show W p l e (hp_rm 0 0 0) s m ([.ref a0] : List Value).toArray below meth c s.heap [] 0 0 (MQ below (hp_Qv Γ (fun β => cw w_X8_clear α β)) ([.ref a0] : List Value).toArray s 0 0 (hp_A Γ)) (entryFrame m ([.ref a0] : List Value).toArray 1)
  rw [lg_entry_eq]
  generalize (lg_sl ([.ref a0]) ++ List.replicate (1 - (lg_sl ([.ref a0])).length) Slot.unset).toArray = ls at hl ⊢
  have hl : lv_has ls 1 [(0, .ref a0)] := hl
  refine lv_aload_n hx hb dX8_clear_0 rfl (lv_at hl 0 rfl) (hp_n (n := 1) rfl ?_)
  refine lv_iconst (v := 0) hx hb dX8_clear_1 (by decide) (hp_n (n := 2) rfl ?_)
  refine q_puti (κ := 9) (k := 3) (φ := 453) (pc' := 5) C B (cw_k B.2.2 k0) fl_X8_22 rfl rfl rfl rfl rfl rfl (cw_sI B.2.2 (by decide) (fun _ => by first | exact ⟨by decide, by decide⟩ | (constructor <;> omega))) dX8_clear_2 rfl (fun αh_1 Hh_1 Lh_1 eh_1 Bh_1 => ?_)
  refine lv_aload_n hx hb dX8_clear_5 rfl (lv_at hl 0 rfl) (hp_n (n := 6) rfl ?_)
  refine lv_iconst (v := 0) hx hb dX8_clear_6 (by decide) (hp_n (n := 7) rfl ?_)
  refine q_puti (κ := 9) (k := 4) (φ := 454) (pc' := 10) C Bh_1 (cw_k Bh_1.2.2 k0) fl_X8_26 rfl rfl rfl rfl rfl rfl (cw_sI Bh_1.2.2 (by decide) (fun h => absurd h (by decide))) dX8_clear_7 rfl (fun αh_2 Hh_2 Lh_2 eh_2 Bh_2 => ?_)
  exact q_vret C Bh_2 hr hlk Bh_2.2.2 dX8_clear_10
abbrev w_X8_put : cw_W := ([453], [], [21, 22, 23], [])
set_option maxRecDepth 100000 in
set_option maxHeartbeats 4000000 in
theorem t_X8_put (Γ : hp_G) (l : Launch) (α : hp_T) (g : GC α) (a0 : Nat) (k0 : hp_K α a0 = 9) (a1 : Int32) (a2 : Int32) (a3 : Int32) (z3 : a3 = 0 ∨ a3 = 1) : Met l yX8_put (hp_ws yX8_put cX8_put 4 none) (hp_rm 0 0 0) (hp_Pc Γ α [.ref a0, .int a1, .int a2, .int a3]) (hp_Qv Γ (fun β => cw w_X8_put α β)) 0 0 (hp_A Γ) := by
  refine hp_start (by decide) ?_
  intro p e s m below meth c C hr hlk B0 hnm
  have C : hp_C Γ p m c cX8_put 4 s ([.ref a0, .int a1, .int a2, .int a3] : List Value).toArray RX8 := C
  have hx := C.1.1
  have hb := C.1.2.1
  have hown := C.1.2.2.2.1
  have hts := C.1.2.2.2.2
  have B : hp_B Γ (cw w_X8_put) s α α s.heap [] := ⟨B0.1, B0.2.1, cw_rf g⟩
  have lit0 : (0 : Int32).toInt = 0 := by decide
  have lit1 : (1 : Int32).toInt = 1 := by decide
  have lit64 : (64 : Int32).toInt = 64 := by decide
  have hl := lv_entry ([.ref a0, .int a1, .int a2, .int a3]) (n := 4) (Nat.le_of_ble_eq_true rfl)
  show W p l e (hp_rm 0 0 0) s m ([.ref a0, .int a1, .int a2, .int a3] : List Value).toArray below meth c s.heap [] 0 0 (MQ below (hp_Qv Γ (fun β => cw w_X8_put α β)) ([.ref a0, .int a1, .int a2, .int a3] : List Value).toArray s 0 0 (hp_A Γ)) (entryFrame m ([.ref a0, .int a1, .int a2, .int a3] : List Value).toArray 4)
  rw [lg_entry_eq]
  generalize (lg_sl ([.ref a0, .int a1, .int a2, .int a3]) ++ List.replicate (4 - (lg_sl ([.ref a0, .int a1, .int a2, .int a3])).length) Slot.unset).toArray = ls at hl ⊢
  have hl : lv_has ls 4 [(0, .ref a0), (1, .int a1), (2, .int a2), (3, .int a3)] := hl
  refine lv_aload_n hx hb dX8_put_0 rfl (lv_at hl 0 rfl) (hp_n (n := 1) rfl ?_)
  refine q_geti (κ := 9) (k := 3) (φ := 453) (pc' := 4) C B (cw_k B.2.2 k0) fl_X8_22 rfl rfl rfl dX8_put_1 rfl (fun x_1 ex_1 => ?_)
  obtain ⟨gx_1a, gx_1b⟩ : 0 ≤ x_1.toInt ∧ x_1.toInt ≤ 64 := by rw [ex_1]; exact B.2.2.1.1 453 a0 rfl
  refine lv_if_lt (tgt := 56) hx hb dX8_put_4 (by decide) (fun c_2 => ?_) (fun c_2 => hp_n (n := 7) rfl ?_)
  ·
    have jc_2 := il_lt c_2
    exact q_vret C B hr hlk B.2.2 dX8_put_56
  ·
    have jc_2 := il_nlt c_2
    refine lv_aload_n hx hb dX8_put_7 rfl (lv_at hl 0 rfl) (hp_n (n := 8) rfl ?_)
    refine q_getj (κ := 9) (k := 3) (φ := 453) (pc' := 11) C B (cw_k B.2.2 k0) fl_X8_22 rfl rfl rfl ex_1 dX8_put_8 rfl ?_
    refine lv_bipush (v := 64) hx hb dX8_put_11 (by decide) (hp_n (n := 13) rfl ?_)
    refine lv_icmp_ge (tgt := 56) hx hb dX8_put_13 (by decide) (fun c_3 => ?_) (fun c_3 => hp_n (n := 16) rfl ?_)
    ·
      have jc_3 := il_le c_3
      exact q_vret C B hr hlk B.2.2 dX8_put_56
    ·
      have jc_3 := il_nle c_3
      refine lv_aload_n hx hb dX8_put_16 rfl (lv_at hl 0 rfl) (hp_n (n := 17) rfl ?_)
      refine q_getr (κ := 9) (k := 0) (φ := 450) (pc' := 20) C B (cw_k B.2.2 k0) fl_X8_9 rfl rfl rfl (cw_r B.2.2 k0 rfl rfl (by decide) (by decide)) dX8_put_17 rfl (fun b_4 eb_4 kb_4 => ?_)
      refine lv_aload_n hx hb dX8_put_20 rfl (lv_at hl 0 rfl) (hp_n (n := 21) rfl ?_)
      refine q_getj (κ := 9) (k := 3) (φ := 453) (pc' := 24) C B (cw_k B.2.2 k0) fl_X8_22 rfl rfl rfl ex_1 dX8_put_21 rfl ?_
      refine lv_iload_n hx hb dX8_put_24 rfl (lv_at hl 1 rfl) (hp_n (n := 25) rfl ?_)
      refine q_ias (κ := 21) (n := 64) (pc' := 26) C B (cw_k B.2.2 kb_4) (by decide) rfl (vi_of (by omega) (by omega)) rfl (cw_sE B.2.2 (by decide)) dX8_put_25 rfl (fun αh_5 Hh_5 Lh_5 eh_5 Bh_5 => ?_)
      refine lv_aload_n hx hb dX8_put_26 rfl (lv_at hl 0 rfl) (hp_n (n := 27) rfl ?_)
      refine q_getr (κ := 9) (k := 1) (φ := 451) (pc' := 30) C Bh_5 (cw_k Bh_5.2.2 k0) fl_X8_15 rfl rfl rfl (cw_r Bh_5.2.2 k0 rfl rfl (by decide) (by decide)) dX8_put_27 rfl (fun b_6 eb_6 kb_6 => ?_)
      refine lv_aload_n hx hb dX8_put_30 rfl (lv_at hl 0 rfl) (hp_n (n := 31) rfl ?_)
      have t_7 : x_1 = hp_I αh_5 453 a0 := by rw [eh_5]; exact ex_1
      refine q_getj (κ := 9) (k := 3) (φ := 453) (pc' := 34) C Bh_5 (cw_k Bh_5.2.2 k0) fl_X8_22 rfl rfl rfl t_7 dX8_put_31 rfl ?_
      refine lv_iload_n hx hb dX8_put_34 rfl (lv_at hl 2 rfl) (hp_n (n := 35) rfl ?_)
      refine q_ias (κ := 22) (n := 64) (pc' := 36) C Bh_5 (cw_k Bh_5.2.2 kb_6) (by decide) rfl (vi_of (by omega) (by omega)) rfl (cw_sE Bh_5.2.2 (by decide)) dX8_put_35 rfl (fun αh_8 Hh_8 Lh_8 eh_8 Bh_8 => ?_)
      refine lv_aload_n hx hb dX8_put_36 rfl (lv_at hl 0 rfl) (hp_n (n := 37) rfl ?_)
      refine q_getr (κ := 9) (k := 2) (φ := 452) (pc' := 40) C Bh_8 (cw_k Bh_8.2.2 k0) fl_X8_18 rfl rfl rfl (cw_r Bh_8.2.2 k0 rfl rfl (by decide) (by decide)) dX8_put_37 rfl (fun b_9 eb_9 kb_9 => ?_)
      refine lv_aload_n hx hb dX8_put_40 rfl (lv_at hl 0 rfl) (hp_n (n := 41) rfl ?_)
      have t_10 : x_1 = hp_I αh_8 453 a0 := by rw [eh_8]; exact t_7
      refine q_getj (κ := 9) (k := 3) (φ := 453) (pc' := 44) C Bh_8 (cw_k Bh_8.2.2 k0) fl_X8_22 rfl rfl rfl t_10 dX8_put_41 rfl ?_
      refine lv_iload_n hx hb dX8_put_44 rfl (lv_at hl 3 rfl) (hp_n (n := 45) rfl ?_)
      refine q_zas (κ := 23) (n := 64) (pc' := 46) C Bh_8 (cw_k Bh_8.2.2 kb_9) (by decide) rfl (vi_of (by omega) (by omega)) rfl rfl (cw_sE Bh_8.2.2 (by decide)) dX8_put_45 rfl (fun αh_11 Hh_11 Lh_11 eh_11 Bh_11 => ?_)
      refine lv_aload_n hx hb dX8_put_46 rfl (lv_at hl 0 rfl) (hp_n (n := 47) rfl ?_)
      refine lv_dup hx hb dX8_put_47 rfl (hp_n (n := 48) rfl ?_)
      have t_12 : x_1 = hp_I αh_11 453 a0 := by rw [eh_11]; exact t_10
      refine q_getj (κ := 9) (k := 3) (φ := 453) (pc' := 51) C Bh_11 (cw_k Bh_11.2.2 k0) fl_X8_22 rfl rfl rfl t_12 dX8_put_48 rfl ?_
      refine lv_iconst (v := 1) hx hb dX8_put_51 (by decide) (hp_n (n := 52) rfl ?_)
      refine lv_iadd hx hb dX8_put_52 (hp_n (n := 53) rfl (lv_topi (fun x_13 ex_13 => ?_)))
      have qx_13 : x_13.toInt = x_1.toInt + 1 := by have qa := ib_lo x_1; rw [ex_13]; exact ii_add (by omega) (by omega)
      refine q_puti (κ := 9) (k := 3) (φ := 453) (pc' := 56) C Bh_11 (cw_k Bh_11.2.2 k0) fl_X8_22 rfl rfl rfl rfl rfl rfl (cw_sI Bh_11.2.2 (by decide) (fun _ => by have qc : (x_1 + 1).toInt = x_1.toInt + (1 : Int32).toInt := ii_add (by omega) (by omega); rw [ex_13]; constructor <;> omega)) dX8_put_53 rfl (fun αh_14 Hh_14 Lh_14 eh_14 Bh_14 => ?_)
      exact q_vret C Bh_14 hr hlk Bh_14.2.2 dX8_put_56
abbrev w_X8_turnRound : cw_W := ([], [], [21, 22, 23], [])
set_option maxRecDepth 100000 in
set_option maxHeartbeats 4000000 in
theorem t_X8_turnRound (Γ : hp_G) (l : Launch) (α : hp_T) (g : GC α) (a0 : Nat) (k0 : hp_K α a0 = 9) : Met l yX8_turnRound (hp_ws yX8_turnRound cX8_turnRound 6 none) (hp_rm 0 0 0) (hp_Pc Γ α [.ref a0]) (hp_Qv Γ (fun β => cw w_X8_turnRound α β)) 0 0 (hp_A Γ) := by
  refine hp_start (by decide) ?_
  intro p e s m below meth c C hr hlk B0 hnm
  have C : hp_C Γ p m c cX8_turnRound 6 s ([.ref a0] : List Value).toArray RX8 := C
  have hx := C.1.1
  have hb := C.1.2.1
  have hown := C.1.2.2.2.1
  have hts := C.1.2.2.2.2
  have B : hp_B Γ (cw w_X8_turnRound) s α α s.heap [] := ⟨B0.1, B0.2.1, cw_rf g⟩
  have lit0 : (0 : Int32).toInt = 0 := by decide
  have lit1 : (1 : Int32).toInt = 1 := by decide
  have lit2 : (2 : Int32).toInt = 2 := by decide
  have lit64 : (64 : Int32).toInt = 64 := by decide
  have hl := lv_entry ([.ref a0]) (n := 6) (Nat.le_of_ble_eq_true rfl)
  show W p l e (hp_rm 0 0 0) s m ([.ref a0] : List Value).toArray below meth c s.heap [] 0 0 (MQ below (hp_Qv Γ (fun β => cw w_X8_turnRound α β)) ([.ref a0] : List Value).toArray s 0 0 (hp_A Γ)) (entryFrame m ([.ref a0] : List Value).toArray 6)
  rw [lg_entry_eq]
  generalize (lg_sl ([.ref a0]) ++ List.replicate (6 - (lg_sl ([.ref a0])).length) Slot.unset).toArray = ls at hl ⊢
  have hl : lv_has ls 6 [(0, .ref a0)] := hl
  refine lv_iconst (v := 0) hx hb dX8_turnRound_0 (by decide) (hp_n (n := 1) rfl ?_)
  have J2 : ∀ (nq : Nat) (αh_1 : hp_T) (Hh_1 : Heap) (Lh_1 : List Loc) (Bh_1 : hp_B Γ (cw w_X8_turnRound) s α αh_1 Hh_1 Lh_1) (v1_h_1 : Int32) (ih_1_0 : 0 ≤ v1_h_1.toInt) (ls : Array Slot) (hl : lv_has ls 6 [(0, .ref a0), (1, .int v1_h_1)]) (hmu2 : (2147483647 - v1_h_1.toInt).toNat = nq), W p l e (hp_rm 0 0 0) s m ([.ref a0] : List Value).toArray below meth c Hh_1 Lh_1 0 0 (MQ below (hp_Qv Γ (fun β => cw w_X8_turnRound α β)) ([.ref a0] : List Value).toArray s 0 0 (hp_A Γ)) (F0 m 2 ls []) := by
    intro nq
    induction nq using Nat.strongRecOn with
    | ind nq ih2 =>
    intro αh_1 Hh_1 Lh_1 Bh_1 v1_h_1 ih_1_0 ls hl hmu2
    have inv2_0 := ih_1_0
    refine lv_iload_n hx hb dX8_turnRound_2 rfl (lv_at hl 1 rfl) (hp_n (n := 3) rfl ?_)
    refine lv_aload_n hx hb dX8_turnRound_3 rfl (lv_at hl 0 rfl) (hp_n (n := 4) rfl ?_)
    refine q_geti (κ := 9) (k := 3) (φ := 453) (pc' := 7) C Bh_1 (cw_k Bh_1.2.2 k0) fl_X8_22 rfl rfl rfl dX8_turnRound_4 rfl (fun x_2 ex_2 => ?_)
    obtain ⟨gx_2a, gx_2b⟩ : 0 ≤ x_2.toInt ∧ x_2.toInt ≤ 64 := by rw [ex_2]; exact Bh_1.2.2.1.1 453 a0 rfl
    refine lv_iconst (v := 2) hx hb dX8_turnRound_7 (by decide) (hp_n (n := 8) rfl ?_)
    refine lv_idiv hx hb dX8_turnRound_8 (by decide) (hp_n (n := 9) rfl (lv_topi (fun x_3 ex_3 => ?_)))
    refine lv_icmp_ge (tgt := 126) hx hb dX8_turnRound_9 (by decide) (fun c_4 => ?_) (fun c_4 => hp_n (n := 12) rfl ?_)
    ·
      have jc_4 := il_le c_4
      exact q_vret C Bh_1 hr hlk Bh_1.2.2 dX8_turnRound_126
    ·
      have jc_4 := il_nle c_4
      refine lv_aload_n hx hb dX8_turnRound_12 rfl (lv_at hl 0 rfl) (hp_n (n := 13) rfl ?_)
      refine q_getj (κ := 9) (k := 3) (φ := 453) (pc' := 16) C Bh_1 (cw_k Bh_1.2.2 k0) fl_X8_22 rfl rfl rfl ex_2 dX8_turnRound_13 rfl ?_
      refine lv_iconst (v := 1) hx hb dX8_turnRound_16 (by decide) (hp_n (n := 17) rfl ?_)
      refine lv_isub hx hb dX8_turnRound_17 (hp_n (n := 18) rfl (lv_topi (fun x_5 ex_5 => ?_)))
      refine lv_iload_n hx hb dX8_turnRound_18 rfl (lv_at hl 1 rfl) (hp_n (n := 19) rfl ?_)
      refine lv_isub hx hb dX8_turnRound_19 (hp_n (n := 20) rfl (lv_topi (fun x_6 ex_6 => ?_)))
      refine lv_istore_n (lv' := [(2, .int x_6), (0, .ref a0), (1, .int v1_h_1)]) hx hb dX8_turnRound_20 rfl hl (by decide) rfl (fun ls hl => hp_n (n := 21) rfl ?_)
      refine lv_iload_n hx hb dX8_turnRound_21 rfl (lv_at hl 0 rfl) (hp_n (n := 22) rfl ?_)
      refine lv_if_lt (tgt := 37) hx hb dX8_turnRound_22 (by decide) (fun c_7 => ?_) (fun c_7 => hp_n (n := 25) rfl ?_)
      ·
        have jc_7 := il_lt c_7
        exact q_vret C Bh_1 hr hlk Bh_1.2.2 dX8_turnRound_37
      ·
        have jc_7 := il_nlt c_7
        refine lv_iload_n hx hb dX8_turnRound_25 rfl (lv_at hl 0 rfl) (hp_n (n := 26) rfl ?_)
        refine lv_bipush (v := 64) hx hb dX8_turnRound_26 (by decide) (hp_n (n := 28) rfl ?_)
        refine lv_icmp_ge (tgt := 37) hx hb dX8_turnRound_28 (by decide) (fun c_8 => ?_) (fun c_8 => hp_n (n := 31) rfl ?_)
        ·
          have jc_8 := il_le c_8
          exact q_vret C Bh_1 hr hlk Bh_1.2.2 dX8_turnRound_37
        ·
          have jc_8 := il_nle c_8
          refine lv_iload_n hx hb dX8_turnRound_31 rfl (lv_at hl 2 rfl) (hp_n (n := 32) rfl ?_)
          refine lv_bipush (v := 64) hx hb dX8_turnRound_32 (by decide) (hp_n (n := 34) rfl ?_)
          refine lv_icmp_lt (tgt := 38) hx hb dX8_turnRound_34 (by decide) (fun c_9 => ?_) (fun c_9 => hp_n (n := 37) rfl ?_)
          ·
            have jc_9 := il_lt c_9
            refine lv_aload_n hx hb dX8_turnRound_38 rfl (lv_at hl 1 rfl) (hp_n (n := 39) rfl ?_)
            refine q_getr (κ := 9) (k := 0) (φ := 450) (pc' := 42) C Bh_1 (cw_k Bh_1.2.2 k0) fl_X8_9 rfl rfl rfl (cw_r Bh_1.2.2 k0 rfl rfl (by decide) (by decide)) dX8_turnRound_39 rfl (fun b_10 eb_10 kb_10 => ?_)
            refine lv_iload_n hx hb dX8_turnRound_42 rfl (lv_at hl 2 rfl) (hp_n (n := 43) rfl ?_)
            refine q_ial (κ := 21) (n := 64) (pc' := 44) C Bh_1 (cw_k Bh_1.2.2 kb_10) (by decide) rfl (vi_of (by omega) (by omega)) dX8_turnRound_43 rfl (lv_topi (fun x_11 ex_11 => ?_))
            refine lv_istore_n (lv' := [(3, .int x_11), (2, .int x_6), (0, .ref a0), (1, .int v1_h_1)]) hx hb dX8_turnRound_44 rfl hl (by decide) rfl (fun ls hl => hp_n (n := 45) rfl ?_)
            refine lv_aload_n hx hb dX8_turnRound_45 rfl (lv_at hl 2 rfl) (hp_n (n := 46) rfl ?_)
            refine q_gets (κ := 9) (k := 0) (φ := 450) (pc' := 49) C Bh_1 (cw_k Bh_1.2.2 k0) fl_X8_9 rfl rfl rfl eb_10 dX8_turnRound_46 rfl ?_
            refine lv_iload_n hx hb dX8_turnRound_49 rfl (lv_at hl 3 rfl) (hp_n (n := 50) rfl ?_)
            refine lv_aload_n hx hb dX8_turnRound_50 rfl (lv_at hl 2 rfl) (hp_n (n := 51) rfl ?_)
            refine q_gets (κ := 9) (k := 0) (φ := 450) (pc' := 54) C Bh_1 (cw_k Bh_1.2.2 k0) fl_X8_9 rfl rfl rfl eb_10 dX8_turnRound_51 rfl ?_
            refine lv_iload_n hx hb dX8_turnRound_54 rfl (lv_at hl 1 rfl) (hp_n (n := 55) rfl ?_)
            refine q_ial (κ := 21) (n := 64) (pc' := 56) C Bh_1 (cw_k Bh_1.2.2 kb_10) (by decide) rfl (vi_of (by omega) (by omega)) dX8_turnRound_55 rfl (lv_topi (fun x_12 ex_12 => ?_))
            refine q_ias (κ := 21) (n := 64) (pc' := 57) C Bh_1 (cw_k Bh_1.2.2 kb_10) (by decide) rfl (vi_of (by omega) (by omega)) rfl (cw_sE Bh_1.2.2 (by decide)) dX8_turnRound_56 rfl (fun αh_13 Hh_13 Lh_13 eh_13 Bh_13 => ?_)
            refine lv_aload_n hx hb dX8_turnRound_57 rfl (lv_at hl 2 rfl) (hp_n (n := 58) rfl ?_)
            have t_14 : b_10 = hp_R αh_13 450 a0 := by rw [eh_13]; exact eb_10
            refine q_gets (κ := 9) (k := 0) (φ := 450) (pc' := 61) C Bh_13 (cw_k Bh_13.2.2 k0) fl_X8_9 rfl rfl rfl t_14 dX8_turnRound_58 rfl ?_
            refine lv_iload_n hx hb dX8_turnRound_61 rfl (lv_at hl 1 rfl) (hp_n (n := 62) rfl ?_)
            refine lv_iload_n hx hb dX8_turnRound_62 rfl (lv_at hl 0 rfl) (hp_n (n := 63) rfl ?_)
            refine q_ias (κ := 21) (n := 64) (pc' := 64) C Bh_13 (cw_k Bh_13.2.2 kb_10) (by decide) rfl (vi_of (by omega) (by omega)) rfl (cw_sE Bh_13.2.2 (by decide)) dX8_turnRound_63 rfl (fun αh_15 Hh_15 Lh_15 eh_15 Bh_15 => ?_)
            refine lv_aload_n hx hb dX8_turnRound_64 rfl (lv_at hl 2 rfl) (hp_n (n := 65) rfl ?_)
            refine q_getr (κ := 9) (k := 1) (φ := 451) (pc' := 68) C Bh_15 (cw_k Bh_15.2.2 k0) fl_X8_15 rfl rfl rfl (cw_r Bh_15.2.2 k0 rfl rfl (by decide) (by decide)) dX8_turnRound_65 rfl (fun b_16 eb_16 kb_16 => ?_)
            refine lv_iload_n hx hb dX8_turnRound_68 rfl (lv_at hl 3 rfl) (hp_n (n := 69) rfl ?_)
            refine q_ial (κ := 22) (n := 64) (pc' := 70) C Bh_15 (cw_k Bh_15.2.2 kb_16) (by decide) rfl (vi_of (by omega) (by omega)) dX8_turnRound_69 rfl (lv_topi (fun x_17 ex_17 => ?_))
            refine lv_istore (lv' := [(4, .int x_17), (3, .int x_11), (2, .int x_6), (0, .ref a0), (1, .int v1_h_1)]) hx hb dX8_turnRound_70 hl (by decide) rfl (fun ls hl => hp_n (n := 72) rfl ?_)
            refine lv_aload_n hx hb dX8_turnRound_72 rfl (lv_at hl 3 rfl) (hp_n (n := 73) rfl ?_)
            refine q_gets (κ := 9) (k := 1) (φ := 451) (pc' := 76) C Bh_15 (cw_k Bh_15.2.2 k0) fl_X8_15 rfl rfl rfl eb_16 dX8_turnRound_73 rfl ?_
            refine lv_iload_n hx hb dX8_turnRound_76 rfl (lv_at hl 4 rfl) (hp_n (n := 77) rfl ?_)
            refine lv_aload_n hx hb dX8_turnRound_77 rfl (lv_at hl 3 rfl) (hp_n (n := 78) rfl ?_)
            refine q_gets (κ := 9) (k := 1) (φ := 451) (pc' := 81) C Bh_15 (cw_k Bh_15.2.2 k0) fl_X8_15 rfl rfl rfl eb_16 dX8_turnRound_78 rfl ?_
            refine lv_iload_n hx hb dX8_turnRound_81 rfl (lv_at hl 2 rfl) (hp_n (n := 82) rfl ?_)
            refine q_ial (κ := 22) (n := 64) (pc' := 83) C Bh_15 (cw_k Bh_15.2.2 kb_16) (by decide) rfl (vi_of (by omega) (by omega)) dX8_turnRound_82 rfl (lv_topi (fun x_18 ex_18 => ?_))
            refine q_ias (κ := 22) (n := 64) (pc' := 84) C Bh_15 (cw_k Bh_15.2.2 kb_16) (by decide) rfl (vi_of (by omega) (by omega)) rfl (cw_sE Bh_15.2.2 (by decide)) dX8_turnRound_83 rfl (fun αh_19 Hh_19 Lh_19 eh_19 Bh_19 => ?_)
            refine lv_aload_n hx hb dX8_turnRound_84 rfl (lv_at hl 3 rfl) (hp_n (n := 85) rfl ?_)
            have t_20 : b_16 = hp_R αh_19 451 a0 := by rw [eh_19]; exact eb_16
            refine q_gets (κ := 9) (k := 1) (φ := 451) (pc' := 88) C Bh_19 (cw_k Bh_19.2.2 k0) fl_X8_15 rfl rfl rfl t_20 dX8_turnRound_85 rfl ?_
            refine lv_iload_n hx hb dX8_turnRound_88 rfl (lv_at hl 2 rfl) (hp_n (n := 89) rfl ?_)
            refine lv_iload hx hb dX8_turnRound_89 (lv_at hl 0 rfl) (hp_n (n := 91) rfl ?_)
            refine q_ias (κ := 22) (n := 64) (pc' := 92) C Bh_19 (cw_k Bh_19.2.2 kb_16) (by decide) rfl (vi_of (by omega) (by omega)) rfl (cw_sE Bh_19.2.2 (by decide)) dX8_turnRound_91 rfl (fun αh_21 Hh_21 Lh_21 eh_21 Bh_21 => ?_)
            refine lv_aload_n hx hb dX8_turnRound_92 rfl (lv_at hl 3 rfl) (hp_n (n := 93) rfl ?_)
            refine q_getr (κ := 9) (k := 2) (φ := 452) (pc' := 96) C Bh_21 (cw_k Bh_21.2.2 k0) fl_X8_18 rfl rfl rfl (cw_r Bh_21.2.2 k0 rfl rfl (by decide) (by decide)) dX8_turnRound_93 rfl (fun b_22 eb_22 kb_22 => ?_)
            refine lv_iload_n hx hb dX8_turnRound_96 rfl (lv_at hl 4 rfl) (hp_n (n := 97) rfl ?_)
            refine q_zal (κ := 23) (n := 64) (pc' := 98) C Bh_21 (cw_k Bh_21.2.2 kb_22) (by decide) rfl (vi_of (by omega) (by omega)) dX8_turnRound_97 rfl (lv_topi (fun x_23 ex_23 => ?_))
            refine lv_istore (lv' := [(5, .int x_23), (4, .int x_17), (3, .int x_11), (2, .int x_6), (0, .ref a0), (1, .int v1_h_1)]) hx hb dX8_turnRound_98 hl (by decide) rfl (fun ls hl => hp_n (n := 100) rfl ?_)
            refine lv_aload_n hx hb dX8_turnRound_100 rfl (lv_at hl 4 rfl) (hp_n (n := 101) rfl ?_)
            refine q_gets (κ := 9) (k := 2) (φ := 452) (pc' := 104) C Bh_21 (cw_k Bh_21.2.2 k0) fl_X8_18 rfl rfl rfl eb_22 dX8_turnRound_101 rfl ?_
            refine lv_iload_n hx hb dX8_turnRound_104 rfl (lv_at hl 5 rfl) (hp_n (n := 105) rfl ?_)
            refine lv_aload_n hx hb dX8_turnRound_105 rfl (lv_at hl 4 rfl) (hp_n (n := 106) rfl ?_)
            refine q_gets (κ := 9) (k := 2) (φ := 452) (pc' := 109) C Bh_21 (cw_k Bh_21.2.2 k0) fl_X8_18 rfl rfl rfl eb_22 dX8_turnRound_106 rfl ?_
            refine lv_iload_n hx hb dX8_turnRound_109 rfl (lv_at hl 3 rfl) (hp_n (n := 110) rfl ?_)
            refine q_zal (κ := 23) (n := 64) (pc' := 111) C Bh_21 (cw_k Bh_21.2.2 kb_22) (by decide) rfl (vi_of (by omega) (by omega)) dX8_turnRound_110 rfl (lv_topi (fun x_24 ex_24 => ?_))
            refine q_zas (κ := 23) (n := 64) (pc' := 112) C Bh_21 (cw_k Bh_21.2.2 kb_22) (by decide) rfl (vi_of (by omega) (by omega)) rfl rfl (cw_sE Bh_21.2.2 (by decide)) dX8_turnRound_111 rfl (fun αh_25 Hh_25 Lh_25 eh_25 Bh_25 => ?_)
            refine lv_aload_n hx hb dX8_turnRound_112 rfl (lv_at hl 4 rfl) (hp_n (n := 113) rfl ?_)
            have t_26 : b_22 = hp_R αh_25 452 a0 := by rw [eh_25]; exact eb_22
            refine q_gets (κ := 9) (k := 2) (φ := 452) (pc' := 116) C Bh_25 (cw_k Bh_25.2.2 k0) fl_X8_18 rfl rfl rfl t_26 dX8_turnRound_113 rfl ?_
            refine lv_iload_n hx hb dX8_turnRound_116 rfl (lv_at hl 3 rfl) (hp_n (n := 117) rfl ?_)
            refine lv_iload hx hb dX8_turnRound_117 (lv_at hl 0 rfl) (hp_n (n := 119) rfl ?_)
            refine q_zas (κ := 23) (n := 64) (pc' := 120) C Bh_25 (cw_k Bh_25.2.2 kb_22) (by decide) rfl (vi_of (by omega) (by omega)) rfl rfl (cw_sE Bh_25.2.2 (by decide)) dX8_turnRound_119 rfl (fun αh_27 Hh_27 Lh_27 eh_27 Bh_27 => ?_)
            obtain ⟨x_28, ex_28⟩ : ∃ y : Int32, y = v1_h_1 + 1 := ⟨_, rfl⟩
            have qx_28 : x_28.toInt = v1_h_1.toInt + 1 := by have q0 := ib_hi x_3; have qa := ib_lo v1_h_1; rw [ex_28]; exact ii_add (by omega) (by omega)
            refine lv_iinc (v := x_28) (lv' := [(1, .int x_28), (5, .int x_23), (4, .int x_17), (3, .int x_11), (2, .int x_6), (0, .ref a0)]) hx hb dX8_turnRound_120 hl (k := 5) rfl (by rw [ex_28]; rfl) (by decide) rfl (fun ls hl => hp_n (n := 123) rfl ?_)
            refine lv_goto (tgt := 2) hx hb dX8_turnRound_123 (by decide) ?_
            exact ih2 _ (by have q0 := ib_hi x_3; have q1 := ib_lo x_3; have qa := ib_hi v1_h_1; have qb := ib_lo v1_h_1; have qc : (v1_h_1 + 1).toInt = v1_h_1.toInt + (1 : Int32).toInt := ii_add (by omega) (by omega); rw [ex_28]; omega) αh_27 Hh_27 Lh_27 Bh_27 x_28 (by omega) ls (lv_sub hl [5, 0] rfl) rfl
          ·
            have jc_9 := il_nlt c_9
            exact q_vret C Bh_1 hr hlk Bh_1.2.2 dX8_turnRound_37
  refine lv_istore_n (lv' := [(1, .int 0), (0, .ref a0)]) hx hb dX8_turnRound_1 rfl hl (by decide) rfl (fun ls hl => hp_n (n := 2) rfl ?_)
  exact J2 _ α s.heap [] B 0 (by omega) ls (lv_sub hl [1, 0] rfl) rfl
abbrev w_X8_toThing : cw_W := ([453, 454], [], [21, 22, 23], [])
set_option maxRecDepth 100000 in
set_option maxHeartbeats 4000000 in
theorem t_X8_toThing (Γ : hp_G) (l : Launch) (α : hp_T) (g : GC α) (a0 : Nat) (k0 : hp_K α a0 = 9) (a1 : Int32) (a2 : Int32) : Met l yX8_toThing (hp_ws yX8_toThing cX8_toThing 7 none) (hp_rm 3 0 0) (hp_Pc Γ α [.ref a0, .int a1, .int a2]) (hp_Qv Γ (fun β => cw w_X8_toThing α β)) 0 0 (hp_A Γ) := by
  refine hp_start (by decide) ?_
  intro p e s m below meth c C hr hlk B0 hnm
  have C : hp_C Γ p m c cX8_toThing 7 s ([.ref a0, .int a1, .int a2] : List Value).toArray RX8 := C
  have hx := C.1.1
  have hb := C.1.2.1
  have hown := C.1.2.2.2.1
  have hts := C.1.2.2.2.2
  have B : hp_B Γ (cw w_X8_toThing) s α α s.heap [] := ⟨B0.1, B0.2.1, cw_rf g⟩
  have lit0 : (0 : Int32).toInt = 0 := by decide
  have lit1 : (1 : Int32).toInt = 1 := by decide
  have lit40 : (40 : Int32).toInt = 40 := by decide
  have hl := lv_entry ([.ref a0, .int a1, .int a2]) (n := 7) (Nat.le_of_ble_eq_true rfl)
  show W p l e (hp_rm 3 0 0) s m ([.ref a0, .int a1, .int a2] : List Value).toArray below meth c s.heap [] 0 0 (MQ below (hp_Qv Γ (fun β => cw w_X8_toThing α β)) ([.ref a0, .int a1, .int a2] : List Value).toArray s 0 0 (hp_A Γ)) (entryFrame m ([.ref a0, .int a1, .int a2] : List Value).toArray 7)
  rw [lg_entry_eq]
  generalize (lg_sl ([.ref a0, .int a1, .int a2]) ++ List.replicate (7 - (lg_sl ([.ref a0, .int a1, .int a2])).length) Slot.unset).toArray = ls at hl ⊢
  have hl : lv_has ls 7 [(0, .ref a0), (1, .int a1), (2, .int a2)] := hl
  refine lv_aload_n hx hb dX8_toThing_0 rfl (lv_at hl 0 rfl) (hp_n (n := 1) rfl ?_)
  refine q_cv (pc' := 4) B (hp_runV (As := []) (rest := []) C B (t_X8_clear Γ l α B.2.2.1 a0 (cw_k B.2.2 k0)) lb_X8_clear lv_X8_clear lk_X8_30 (cw_k B.2.2 k0) rfl (by decide) rfl hl.1 rfl (Nat.le_of_ble_eq_true rfl) dX8_toThing_1 ⟨Nat.le_refl _, Nat.le_refl _⟩) (fun _ h => cw_tr B.2.2 h (by decide)) rfl (fun αh_1 Hh_1 Lh_1 ph_1 Bh_1 => ?_)
  refine lv_iconst (v := 0) hx hb dX8_toThing_4 (by decide) (hp_n (n := 5) rfl ?_)
  refine lv_istore_n (lv' := [(3, .int 0), (0, .ref a0), (1, .int a1), (2, .int a2)]) hx hb dX8_toThing_5 rfl hl (by decide) rfl (fun ls hl => hp_n (n := 6) rfl ?_)
  refine lv_iload_n hx hb dX8_toThing_6 rfl (lv_at hl 3 rfl) (hp_n (n := 7) rfl ?_)
  refine lv_istore (lv' := [(4, .int a2), (3, .int 0), (0, .ref a0), (1, .int a1), (2, .int a2)]) hx hb dX8_toThing_7 hl (by decide) rfl (fun ls hl => hp_n (n := 9) rfl ?_)
  refine lv_iconst (v := 0) hx hb dX8_toThing_9 (by decide) (hp_n (n := 10) rfl ?_)
  have J12 : ∀ (nq : Nat) (αh_2 : hp_T) (Hh_2 : Heap) (Lh_2 : List Loc) (Bh_2 : hp_B Γ (cw w_X8_toThing) s α αh_2 Hh_2 Lh_2) (v3_h_2 : Int32) (v4_h_2 : Int32) (v5_h_2 : Int32) (ih_2_0 : 0 ≤ v5_h_2.toInt) (ls : Array Slot) (hl : lv_has ls 7 [(0, .ref a0), (1, .int a1), (3, .int v3_h_2), (4, .int v4_h_2), (5, .int v5_h_2)]) (hmu12 : (2147483647 - v5_h_2.toInt).toNat = nq), W p l e (hp_rm 3 0 0) s m ([.ref a0, .int a1, .int a2] : List Value).toArray below meth c Hh_2 Lh_2 0 0 (MQ below (hp_Qv Γ (fun β => cw w_X8_toThing α β)) ([.ref a0, .int a1, .int a2] : List Value).toArray s 0 0 (hp_A Γ)) (F0 m 12 ls []) := by
    intro nq
    induction nq using Nat.strongRecOn with
    | ind nq ih12 =>
    intro αh_2 Hh_2 Lh_2 Bh_2 v3_h_2 v4_h_2 v5_h_2 ih_2_0 ls hl hmu12
    have inv12_0 := ih_2_0
    refine lv_iload hx hb dX8_toThing_12 (lv_at hl 4 rfl) (hp_n (n := 14) rfl ?_)
    refine lv_bipush (v := 40) hx hb dX8_toThing_14 (by decide) (hp_n (n := 16) rfl ?_)
    have J87 : ∀ (Hh_3 : Heap) (Lh_3 : List Loc) (Bh_3 : hp_B Γ (cw w_X8_toThing) s α αh_2 Hh_3 Lh_3) (ls : Array Slot) (hl : lv_has ls 7 [(0, .ref a0)]), W p l e (hp_rm 3 0 0) s m ([.ref a0, .int a1, .int a2] : List Value).toArray below meth c Hh_3 Lh_3 0 0 (MQ below (hp_Qv Γ (fun β => cw w_X8_toThing α β)) ([.ref a0, .int a1, .int a2] : List Value).toArray s 0 0 (hp_A Γ)) (F0 m 87 ls []) := by
      intro Hh_3 Lh_3 Bh_3 ls hl
      refine lv_aload_n hx hb dX8_toThing_87 rfl (lv_at hl 0 rfl) (hp_n (n := 88) rfl ?_)
      refine q_cv (pc' := 91) Bh_3 (hp_runV (As := []) (rest := []) C Bh_3 (t_X8_turnRound Γ l αh_2 Bh_3.2.2.1 a0 (cw_k Bh_3.2.2 k0)) lb_X8_turnRound lv_X8_turnRound lk_X8_41 (cw_k Bh_3.2.2 k0) rfl (by decide) rfl hl.1 rfl (Nat.le_of_ble_eq_true rfl) dX8_toThing_88 ⟨Nat.le_refl _, Nat.le_refl _⟩) (fun _ h => cw_tr Bh_3.2.2 h (by decide)) rfl (fun αh_4 Hh_4 Lh_4 ph_4 Bh_4 => ?_)
      exact q_vret C Bh_4 hr hlk Bh_4.2.2 dX8_toThing_91
    refine lv_icmp_ge (tgt := 87) hx hb dX8_toThing_16 (by decide) (fun c_5 => ?_) (fun c_5 => hp_n (n := 19) rfl ?_)
    ·
      have jc_5 := il_le c_5
      exact J87 Hh_2 Lh_2 Bh_2 ls (lv_sub hl [0] rfl)
    ·
      have jc_5 := il_nle c_5
      refine lv_iload hx hb dX8_toThing_19 (lv_at hl 3 rfl) (hp_n (n := 21) rfl ?_)
      refine lv_iconst (v := 1) hx hb dX8_toThing_21 (by decide) (hp_n (n := 22) rfl ?_)
      refine lv_icmp_le (tgt := 87) hx hb dX8_toThing_22 (by decide) (fun c_6 => ?_) (fun c_6 => hp_n (n := 25) rfl ?_)
      ·
        have jc_6 := il_le c_6
        exact J87 Hh_2 Lh_2 Bh_2 ls (lv_sub hl [0] rfl)
      ·
        have jc_6 := il_nle c_6
        refine lv_iload hx hb dX8_toThing_25 (lv_at hl 3 rfl) (hp_n (n := 27) rfl ?_)
        refine q_ci (pc' := 30) Bh_2 (hp_runS (As := [.int v4_h_2]) (rest := []) C Bh_2 (t_X11_firstPartOf Γ l αh_2 Bh_2.2.2.1 v4_h_2) lb_X11_firstPartOf ls_X11_firstPartOf lk_X8_33 rfl (by decide) rfl hl.1 rfl (Nat.le_of_ble_eq_true rfl) dX8_toThing_27 ⟨Nat.le_refl _, Nat.le_refl _⟩) (fun _ _ h => by rw [h]; exact Bh_2.2.2) rfl (fun rh_7 αh_7 Hh_7 Lh_7 ph_7 Bh_7 => ?_)
        rw [ph_7] at Bh_7
        refine lv_istore (lv' := [(6, .int rh_7), (0, .ref a0), (1, .int a1), (3, .int v3_h_2), (4, .int v4_h_2), (5, .int v5_h_2)]) hx hb dX8_toThing_30 hl (by decide) rfl (fun ls hl => hp_n (n := 32) rfl ?_)
        refine lv_iload_n hx hb dX8_toThing_32 rfl (lv_at hl 2 rfl) (hp_n (n := 33) rfl ?_)
        refine lv_iload_n hx hb dX8_toThing_33 rfl (lv_at hl 3 rfl) (hp_n (n := 34) rfl ?_)
        refine lv_isub hx hb dX8_toThing_34 (hp_n (n := 35) rfl (lv_topi (fun x_8 ex_8 => ?_)))
        refine lv_iload hx hb dX8_toThing_35 (lv_at hl 0 rfl) (hp_n (n := 37) rfl ?_)
        refine lv_icmp_ge (tgt := 61) hx hb dX8_toThing_37 (by decide) (fun c_9 => ?_) (fun c_9 => hp_n (n := 40) rfl ?_)
        ·
          have jc_9 := il_le c_9
          refine lv_aload_n hx hb dX8_toThing_61 rfl (lv_at hl 1 rfl) (hp_n (n := 62) rfl ?_)
          refine lv_iload_n hx hb dX8_toThing_62 rfl (lv_at hl 3 rfl) (hp_n (n := 63) rfl ?_)
          refine lv_iload hx hb dX8_toThing_63 (lv_at hl 0 rfl) (hp_n (n := 65) rfl ?_)
          refine lv_iconst (v := 1) hx hb dX8_toThing_65 (by decide) (hp_n (n := 66) rfl ?_)
          refine q_cv (pc' := 69) Bh_7 (hp_runV (As := [.int v3_h_2, .int rh_7, .int 1]) (rest := []) C Bh_7 (t_X8_put Γ l αh_2 Bh_7.2.2.1 a0 (cw_k Bh_7.2.2 k0) v3_h_2 rh_7 1 (Or.inr rfl)) lb_X8_put lv_X8_put lk_X8_37 (cw_k Bh_7.2.2 k0) rfl (by decide) rfl hl.1 rfl (Nat.le_of_ble_eq_true rfl) dX8_toThing_66 ⟨Nat.le_refl _, Nat.le_refl _⟩) (fun _ h => cw_tr Bh_7.2.2 h (by decide)) rfl (fun αh_10 Hh_10 Lh_10 ph_10 Bh_10 => ?_)
          refine lv_iload_n hx hb dX8_toThing_69 rfl (lv_at hl 3 rfl) (hp_n (n := 70) rfl ?_)
          refine lv_iload hx hb dX8_toThing_70 (lv_at hl 0 rfl) (hp_n (n := 72) rfl ?_)
          refine lv_iadd hx hb dX8_toThing_72 (hp_n (n := 73) rfl (lv_topi (fun x_11 ex_11 => ?_)))
          refine lv_istore_n (lv' := [(3, .int x_11), (6, .int rh_7), (0, .ref a0), (1, .int a1), (4, .int v4_h_2), (5, .int v5_h_2)]) hx hb dX8_toThing_73 rfl hl (by decide) rfl (fun ls hl => hp_n (n := 74) rfl ?_)
          refine lv_iload hx hb dX8_toThing_74 (lv_at hl 4 rfl) (hp_n (n := 76) rfl ?_)
          refine lv_iload hx hb dX8_toThing_76 (lv_at hl 1 rfl) (hp_n (n := 78) rfl ?_)
          refine lv_isub hx hb dX8_toThing_78 (hp_n (n := 79) rfl (lv_topi (fun x_12 ex_12 => ?_)))
          refine lv_istore (lv' := [(4, .int x_12), (3, .int x_11), (6, .int rh_7), (0, .ref a0), (1, .int a1), (5, .int v5_h_2)]) hx hb dX8_toThing_79 hl (by decide) rfl (fun ls hl => hp_n (n := 81) rfl ?_)
          obtain ⟨x_13, ex_13⟩ : ∃ y : Int32, y = v5_h_2 + 1 := ⟨_, rfl⟩
          have qx_13 : x_13.toInt = v5_h_2.toInt + 1 := by have qa := ib_lo v5_h_2; rw [ex_13]; exact ii_add (by omega) (by omega)
          refine lv_iinc (v := x_13) (lv' := [(5, .int x_13), (4, .int x_12), (3, .int x_11), (6, .int rh_7), (0, .ref a0), (1, .int a1)]) hx hb dX8_toThing_81 hl (k := 5) rfl (by rw [ex_13]; rfl) (by decide) rfl (fun ls hl => hp_n (n := 84) rfl ?_)
          refine lv_goto (tgt := 12) hx hb dX8_toThing_84 (by decide) ?_
          exact ih12 _ (by have qa := ib_hi v5_h_2; have qb := ib_lo v5_h_2; have qc : (v5_h_2 + 1).toInt = v5_h_2.toInt + (1 : Int32).toInt := ii_add (by omega) (by omega); rw [ex_13]; omega) αh_10 Hh_10 Lh_10 Bh_10 x_11 x_12 x_13 (by omega) ls (lv_sub hl [4, 5, 2, 1, 0] rfl) rfl
        ·
          have jc_9 := il_nle c_9
          refine lv_aload_n hx hb dX8_toThing_40 rfl (lv_at hl 1 rfl) (hp_n (n := 41) rfl ?_)
          refine lv_iload_n hx hb dX8_toThing_41 rfl (lv_at hl 3 rfl) (hp_n (n := 42) rfl ?_)
          refine lv_iload hx hb dX8_toThing_42 (lv_at hl 0 rfl) (hp_n (n := 44) rfl ?_)
          refine lv_iadd hx hb dX8_toThing_44 (hp_n (n := 45) rfl (lv_topi (fun x_14 ex_14 => ?_)))
          refine lv_iload hx hb dX8_toThing_45 (lv_at hl 4 rfl) (hp_n (n := 47) rfl ?_)
          refine lv_iload hx hb dX8_toThing_47 (lv_at hl 0 rfl) (hp_n (n := 49) rfl ?_)
          refine lv_isub hx hb dX8_toThing_49 (hp_n (n := 50) rfl (lv_topi (fun x_15 ex_15 => ?_)))
          refine lv_iconst (v := 0) hx hb dX8_toThing_50 (by decide) (hp_n (n := 51) rfl ?_)
          refine q_cv (pc' := 54) Bh_7 (hp_runV (As := [.int x_14, .int x_15, .int 0]) (rest := []) C Bh_7 (t_X8_put Γ l αh_2 Bh_7.2.2.1 a0 (cw_k Bh_7.2.2 k0) x_14 x_15 0 (Or.inl rfl)) lb_X8_put lv_X8_put lk_X8_37 (cw_k Bh_7.2.2 k0) rfl (by decide) rfl hl.1 rfl (Nat.le_of_ble_eq_true rfl) dX8_toThing_51 ⟨Nat.le_refl _, Nat.le_refl _⟩) (fun _ h => cw_tr Bh_7.2.2 h (by decide)) rfl (fun αh_16 Hh_16 Lh_16 ph_16 Bh_16 => ?_)
          refine lv_iload hx hb dX8_toThing_54 (lv_at hl 0 rfl) (hp_n (n := 56) rfl ?_)
          refine lv_istore (lv' := [(4, .int rh_7), (6, .int rh_7), (0, .ref a0), (1, .int a1), (3, .int v3_h_2), (5, .int v5_h_2)]) hx hb dX8_toThing_56 hl (by decide) rfl (fun ls hl => hp_n (n := 58) rfl ?_)
          refine lv_goto (tgt := 81) hx hb dX8_toThing_58 (by decide) ?_
          obtain ⟨x_17, ex_17⟩ : ∃ y : Int32, y = v5_h_2 + 1 := ⟨_, rfl⟩
          have qx_17 : x_17.toInt = v5_h_2.toInt + 1 := by have qa := ib_lo v5_h_2; rw [ex_17]; exact ii_add (by omega) (by omega)
          refine lv_iinc (v := x_17) (lv' := [(5, .int x_17), (4, .int rh_7), (6, .int rh_7), (0, .ref a0), (1, .int a1), (3, .int v3_h_2)]) hx hb dX8_toThing_81 hl (k := 5) rfl (by rw [ex_17]; rfl) (by decide) rfl (fun ls hl => hp_n (n := 84) rfl ?_)
          refine lv_goto (tgt := 12) hx hb dX8_toThing_84 (by decide) ?_
          exact ih12 _ (by have qa := ib_hi v5_h_2; have qb := ib_lo v5_h_2; have qc : (v5_h_2 + 1).toInt = v5_h_2.toInt + (1 : Int32).toInt := ii_add (by omega) (by omega); rw [ex_17]; omega) αh_16 Hh_16 Lh_16 Bh_16 v3_h_2 rh_7 x_17 (by omega) ls (lv_sub hl [3, 4, 5, 1, 0] rfl) rfl
  refine lv_istore (lv' := [(5, .int 0), (4, .int a2), (3, .int 0), (0, .ref a0), (1, .int a1), (2, .int a2)]) hx hb dX8_toThing_10 hl (by decide) rfl (fun ls hl => hp_n (n := 12) rfl ?_)
  exact J12 _ αh_1 Hh_1 Lh_1 Bh_1 0 a2 0 (by omega) ls (lv_sub hl [3, 4, 2, 1, 0] rfl) rfl
abbrev w_X8_toGrowth : cw_W := ([453, 454], [], [21, 22, 23], [])
set_option maxRecDepth 100000 in
set_option maxHeartbeats 4000000 in
theorem t_X8_toGrowth (Γ : hp_G) (l : Launch) (α : hp_T) (g : GC α) (a0 : Nat) (k0 : hp_K α a0 = 9) (a1 : Int32) (a2 : Int32) : Met l yX8_toGrowth (hp_ws yX8_toGrowth cX8_toGrowth 8 none) (hp_rm 3 0 0) (hp_Pc Γ α [.ref a0, .int a1, .int a2]) (hp_Qv Γ (fun β => cw w_X8_toGrowth α β)) 0 0 (hp_A Γ) := by
  refine hp_start (by decide) ?_
  intro p e s m below meth c C hr hlk B0 hnm
  have C : hp_C Γ p m c cX8_toGrowth 8 s ([.ref a0, .int a1, .int a2] : List Value).toArray RX8 := C
  have hx := C.1.1
  have hb := C.1.2.1
  have hown := C.1.2.2.2.1
  have hts := C.1.2.2.2.2
  have B : hp_B Γ (cw w_X8_toGrowth) s α α s.heap [] := ⟨B0.1, B0.2.1, cw_rf g⟩
  have lit0 : (0 : Int32).toInt = 0 := by decide
  have lit1 : (1 : Int32).toInt = 1 := by decide
  have lit40 : (40 : Int32).toInt = 40 := by decide
  have hl := lv_entry ([.ref a0, .int a1, .int a2]) (n := 8) (Nat.le_of_ble_eq_true rfl)
  show W p l e (hp_rm 3 0 0) s m ([.ref a0, .int a1, .int a2] : List Value).toArray below meth c s.heap [] 0 0 (MQ below (hp_Qv Γ (fun β => cw w_X8_toGrowth α β)) ([.ref a0, .int a1, .int a2] : List Value).toArray s 0 0 (hp_A Γ)) (entryFrame m ([.ref a0, .int a1, .int a2] : List Value).toArray 8)
  rw [lg_entry_eq]
  generalize (lg_sl ([.ref a0, .int a1, .int a2]) ++ List.replicate (8 - (lg_sl ([.ref a0, .int a1, .int a2])).length) Slot.unset).toArray = ls at hl ⊢
  have hl : lv_has ls 8 [(0, .ref a0), (1, .int a1), (2, .int a2)] := hl
  refine lv_aload_n hx hb dX8_toGrowth_0 rfl (lv_at hl 0 rfl) (hp_n (n := 1) rfl ?_)
  refine q_cv (pc' := 4) B (hp_runV (As := []) (rest := []) C B (t_X8_clear Γ l α B.2.2.1 a0 (cw_k B.2.2 k0)) lb_X8_clear lv_X8_clear lk_X8_30 (cw_k B.2.2 k0) rfl (by decide) rfl hl.1 rfl (Nat.le_of_ble_eq_true rfl) dX8_toGrowth_1 ⟨Nat.le_refl _, Nat.le_refl _⟩) (fun _ h => cw_tr B.2.2 h (by decide)) rfl (fun αh_1 Hh_1 Lh_1 ph_1 Bh_1 => ?_)
  refine lv_iload_n hx hb dX8_toGrowth_4 rfl (lv_at hl 1 rfl) (hp_n (n := 5) rfl ?_)
  refine lv_if_ne (tgt := 9) hx hb dX8_toGrowth_5 (by decide) (fun c_2 => ?_) (fun c_2 => hp_n (n := 8) rfl ?_)
  ·
    have jc_2 := il_ne c_2
    refine lv_iconst (v := 0) hx hb dX8_toGrowth_9 (by decide) (hp_n (n := 10) rfl ?_)
    refine lv_istore_n (lv' := [(3, .int 0), (0, .ref a0), (1, .int a1), (2, .int a2)]) hx hb dX8_toGrowth_10 rfl hl (by decide) rfl (fun ls hl => hp_n (n := 11) rfl ?_)
    refine lv_iload_n hx hb dX8_toGrowth_11 rfl (lv_at hl 3 rfl) (hp_n (n := 12) rfl ?_)
    refine lv_istore (lv' := [(4, .int a2), (3, .int 0), (0, .ref a0), (1, .int a1), (2, .int a2)]) hx hb dX8_toGrowth_12 hl (by decide) rfl (fun ls hl => hp_n (n := 14) rfl ?_)
    refine lv_iconst (v := 1) hx hb dX8_toGrowth_14 (by decide) (hp_n (n := 15) rfl ?_)
    refine lv_istore (lv' := [(5, .int 1), (4, .int a2), (3, .int 0), (0, .ref a0), (1, .int a1), (2, .int a2)]) hx hb dX8_toGrowth_15 hl (by decide) rfl (fun ls hl => hp_n (n := 17) rfl ?_)
    refine lv_iconst (v := 0) hx hb dX8_toGrowth_17 (by decide) (hp_n (n := 18) rfl ?_)
    have J20 : ∀ (nq : Nat) (αh_3 : hp_T) (Hh_3 : Heap) (Lh_3 : List Loc) (Bh_3 : hp_B Γ (cw w_X8_toGrowth) s α αh_3 Hh_3 Lh_3) (v3_h_3 : Int32) (v4_h_3 : Int32) (v5_h_3 : Int32) (zv5_h_3 : v5_h_3 = 0 ∨ v5_h_3 = 1) (v6_h_3 : Int32) (ih_3_0 : 0 ≤ v6_h_3.toInt) (ls : Array Slot) (hl : lv_has ls 8 [(0, .ref a0), (1, .int a1), (3, .int v3_h_3), (4, .int v4_h_3), (5, .int v5_h_3), (6, .int v6_h_3)]) (hmu20 : (2147483647 - v6_h_3.toInt).toNat = nq), W p l e (hp_rm 3 0 0) s m ([.ref a0, .int a1, .int a2] : List Value).toArray below meth c Hh_3 Lh_3 0 0 (MQ below (hp_Qv Γ (fun β => cw w_X8_toGrowth α β)) ([.ref a0, .int a1, .int a2] : List Value).toArray s 0 0 (hp_A Γ)) (F0 m 20 ls []) := by
      intro nq
      induction nq using Nat.strongRecOn with
      | ind nq ih20 =>
      intro αh_3 Hh_3 Lh_3 Bh_3 v3_h_3 v4_h_3 v5_h_3 zv5_h_3 v6_h_3 ih_3_0 ls hl hmu20
      have inv20_0 := ih_3_0
      refine lv_iload hx hb dX8_toGrowth_20 (lv_at hl 5 rfl) (hp_n (n := 22) rfl ?_)
      refine lv_bipush (v := 40) hx hb dX8_toGrowth_22 (by decide) (hp_n (n := 24) rfl ?_)
      have J100 : ∀ (Hh_4 : Heap) (Lh_4 : List Loc) (Bh_4 : hp_B Γ (cw w_X8_toGrowth) s α αh_3 Hh_4 Lh_4) (ls : Array Slot) (hl : lv_has ls 8 [(0, .ref a0), (3, .int v3_h_3), (4, .int v4_h_3), (5, .int v5_h_3)]), W p l e (hp_rm 3 0 0) s m ([.ref a0, .int a1, .int a2] : List Value).toArray below meth c Hh_4 Lh_4 0 0 (MQ below (hp_Qv Γ (fun β => cw w_X8_toGrowth α β)) ([.ref a0, .int a1, .int a2] : List Value).toArray s 0 0 (hp_A Γ)) (F0 m 100 ls []) := by
        intro Hh_4 Lh_4 Bh_4 ls hl
        refine lv_iload hx hb dX8_toGrowth_100 (lv_at hl 3 rfl) (hp_n (n := 102) rfl ?_)
        have J118 : ∀ (αh_5 : hp_T) (Hh_5 : Heap) (Lh_5 : List Loc) (Bh_5 : hp_B Γ (cw w_X8_toGrowth) s α αh_5 Hh_5 Lh_5) (ls : Array Slot) (hl : lv_has ls 8 [(0, .ref a0)]), W p l e (hp_rm 3 0 0) s m ([.ref a0, .int a1, .int a2] : List Value).toArray below meth c Hh_5 Lh_5 0 0 (MQ below (hp_Qv Γ (fun β => cw w_X8_toGrowth α β)) ([.ref a0, .int a1, .int a2] : List Value).toArray s 0 0 (hp_A Γ)) (F0 m 118 ls []) := by
          intro αh_5 Hh_5 Lh_5 Bh_5 ls hl
          refine lv_aload_n hx hb dX8_toGrowth_118 rfl (lv_at hl 0 rfl) (hp_n (n := 119) rfl ?_)
          refine q_cv (pc' := 122) Bh_5 (hp_runV (As := []) (rest := []) C Bh_5 (t_X8_turnRound Γ l αh_5 Bh_5.2.2.1 a0 (cw_k Bh_5.2.2 k0)) lb_X8_turnRound lv_X8_turnRound lk_X8_41 (cw_k Bh_5.2.2 k0) rfl (by decide) rfl hl.1 rfl (Nat.le_of_ble_eq_true rfl) dX8_toGrowth_119 ⟨Nat.le_refl _, Nat.le_refl _⟩) (fun _ h => cw_tr Bh_5.2.2 h (by decide)) rfl (fun αh_6 Hh_6 Lh_6 ph_6 Bh_6 => ?_)
          exact q_vret C Bh_6 hr hlk Bh_6.2.2 dX8_toGrowth_122
        refine lv_if_ne (tgt := 118) hx hb dX8_toGrowth_102 (by decide) (fun c_7 => ?_) (fun c_7 => hp_n (n := 105) rfl ?_)
        ·
          have jc_7 := il_ne c_7
          exact J118 αh_3 Hh_4 Lh_4 Bh_4 ls (lv_sub hl [0] rfl)
        ·
          have jc_7 := il_eq c_7
          refine lv_aload_n hx hb dX8_toGrowth_105 rfl (lv_at hl 0 rfl) (hp_n (n := 106) rfl ?_)
          refine lv_iload_n hx hb dX8_toGrowth_106 rfl (lv_at hl 1 rfl) (hp_n (n := 107) rfl ?_)
          refine lv_iload hx hb dX8_toGrowth_107 (lv_at hl 2 rfl) (hp_n (n := 109) rfl ?_)
          refine lv_iconst (v := 0) hx hb dX8_toGrowth_109 (by decide) (hp_n (n := 110) rfl ?_)
          refine q_cv (pc' := 113) Bh_4 (hp_runV (As := [.int v3_h_3, .int v4_h_3, .int 0]) (rest := []) C Bh_4 (t_X8_put Γ l αh_3 Bh_4.2.2.1 a0 (cw_k Bh_4.2.2 k0) v3_h_3 v4_h_3 0 (Or.inl rfl)) lb_X8_put lv_X8_put lk_X8_37 (cw_k Bh_4.2.2 k0) rfl (by decide) rfl hl.1 rfl (Nat.le_of_ble_eq_true rfl) dX8_toGrowth_110 ⟨Nat.le_refl _, Nat.le_refl _⟩) (fun _ h => cw_tr Bh_4.2.2 h (by decide)) rfl (fun αh_8 Hh_8 Lh_8 ph_8 Bh_8 => ?_)
          refine lv_aload_n hx hb dX8_toGrowth_113 rfl (lv_at hl 0 rfl) (hp_n (n := 114) rfl ?_)
          refine lv_iconst (v := 1) hx hb dX8_toGrowth_114 (by decide) (hp_n (n := 115) rfl ?_)
          refine q_puti (κ := 9) (k := 4) (φ := 454) (pc' := 118) C Bh_8 (cw_k Bh_8.2.2 k0) fl_X8_26 rfl rfl rfl rfl rfl rfl (cw_sI Bh_8.2.2 (by decide) (fun h => absurd h (by decide))) dX8_toGrowth_115 rfl (fun αh_9 Hh_9 Lh_9 eh_9 Bh_9 => ?_)
          exact J118 αh_9 Hh_9 Lh_9 Bh_9 ls (lv_sub hl [0] rfl)
      refine lv_icmp_ge (tgt := 100) hx hb dX8_toGrowth_24 (by decide) (fun c_10 => ?_) (fun c_10 => hp_n (n := 27) rfl ?_)
      ·
        have jc_10 := il_le c_10
        exact J100 Hh_3 Lh_3 Bh_3 ls (lv_sub hl [0, 2, 3, 4] rfl)
      ·
        have jc_10 := il_nle c_10
        refine lv_iload_n hx hb dX8_toGrowth_27 rfl (lv_at hl 1 rfl) (hp_n (n := 28) rfl ?_)
        refine lv_iload_n hx hb dX8_toGrowth_28 rfl (lv_at hl 2 rfl) (hp_n (n := 29) rfl ?_)
        refine lv_isub hx hb dX8_toGrowth_29 (hp_n (n := 30) rfl (lv_topi (fun x_11 ex_11 => ?_)))
        refine lv_iload hx hb dX8_toGrowth_30 (lv_at hl 3 rfl) (hp_n (n := 32) rfl ?_)
        refine lv_icmp_eq (tgt := 100) hx hb dX8_toGrowth_32 (by decide) (fun c_12 => ?_) (fun c_12 => hp_n (n := 35) rfl ?_)
        ·
          have jc_12 := il_eq c_12
          exact J100 Hh_3 Lh_3 Bh_3 ls (lv_sub hl [0, 2, 3, 4] rfl)
        ·
          have jc_12 := il_ne c_12
          refine lv_iload hx hb dX8_toGrowth_35 (lv_at hl 3 rfl) (hp_n (n := 37) rfl ?_)
          refine q_ci (pc' := 40) Bh_3 (hp_runS (As := [.int v4_h_3]) (rest := []) C Bh_3 (t_X11_firstPartOf Γ l αh_3 Bh_3.2.2.1 v4_h_3) lb_X11_firstPartOf ls_X11_firstPartOf lk_X8_33 rfl (by decide) rfl hl.1 rfl (Nat.le_of_ble_eq_true rfl) dX8_toGrowth_37 ⟨Nat.le_refl _, Nat.le_refl _⟩) (fun _ _ h => by rw [h]; exact Bh_3.2.2) rfl (fun rh_13 αh_13 Hh_13 Lh_13 ph_13 Bh_13 => ?_)
          rw [ph_13] at Bh_13
          refine lv_istore (lv' := [(7, .int rh_13), (0, .ref a0), (1, .int a1), (3, .int v3_h_3), (4, .int v4_h_3), (5, .int v5_h_3), (6, .int v6_h_3)]) hx hb dX8_toGrowth_40 hl (by decide) rfl (fun ls hl => hp_n (n := 42) rfl ?_)
          refine lv_iload_n hx hb dX8_toGrowth_42 rfl (lv_at hl 2 rfl) (hp_n (n := 43) rfl ?_)
          refine lv_iload_n hx hb dX8_toGrowth_43 rfl (lv_at hl 3 rfl) (hp_n (n := 44) rfl ?_)
          refine lv_isub hx hb dX8_toGrowth_44 (hp_n (n := 45) rfl (lv_topi (fun x_14 ex_14 => ?_)))
          refine lv_iload hx hb dX8_toGrowth_45 (lv_at hl 0 rfl) (hp_n (n := 47) rfl ?_)
          refine lv_icmp_gt (tgt := 71) hx hb dX8_toGrowth_47 (by decide) (fun c_15 => ?_) (fun c_15 => hp_n (n := 50) rfl ?_)
          ·
            have jc_15 := il_lt c_15
            refine lv_aload_n hx hb dX8_toGrowth_71 rfl (lv_at hl 1 rfl) (hp_n (n := 72) rfl ?_)
            refine lv_iload_n hx hb dX8_toGrowth_72 rfl (lv_at hl 3 rfl) (hp_n (n := 73) rfl ?_)
            refine lv_iload hx hb dX8_toGrowth_73 (lv_at hl 0 rfl) (hp_n (n := 75) rfl ?_)
            refine lv_iconst (v := 1) hx hb dX8_toGrowth_75 (by decide) (hp_n (n := 76) rfl ?_)
            refine q_cv (pc' := 79) Bh_13 (hp_runV (As := [.int v3_h_3, .int rh_13, .int 1]) (rest := []) C Bh_13 (t_X8_put Γ l αh_3 Bh_13.2.2.1 a0 (cw_k Bh_13.2.2 k0) v3_h_3 rh_13 1 (Or.inr rfl)) lb_X8_put lv_X8_put lk_X8_37 (cw_k Bh_13.2.2 k0) rfl (by decide) rfl hl.1 rfl (Nat.le_of_ble_eq_true rfl) dX8_toGrowth_76 ⟨Nat.le_refl _, Nat.le_refl _⟩) (fun _ h => cw_tr Bh_13.2.2 h (by decide)) rfl (fun αh_16 Hh_16 Lh_16 ph_16 Bh_16 => ?_)
            refine lv_iload_n hx hb dX8_toGrowth_79 rfl (lv_at hl 3 rfl) (hp_n (n := 80) rfl ?_)
            refine lv_iload hx hb dX8_toGrowth_80 (lv_at hl 0 rfl) (hp_n (n := 82) rfl ?_)
            refine lv_iadd hx hb dX8_toGrowth_82 (hp_n (n := 83) rfl (lv_topi (fun x_17 ex_17 => ?_)))
            refine lv_istore_n (lv' := [(3, .int x_17), (7, .int rh_13), (0, .ref a0), (1, .int a1), (4, .int v4_h_3), (5, .int v5_h_3), (6, .int v6_h_3)]) hx hb dX8_toGrowth_83 rfl hl (by decide) rfl (fun ls hl => hp_n (n := 84) rfl ?_)
            refine lv_iload hx hb dX8_toGrowth_84 (lv_at hl 4 rfl) (hp_n (n := 86) rfl ?_)
            refine lv_iload hx hb dX8_toGrowth_86 (lv_at hl 1 rfl) (hp_n (n := 88) rfl ?_)
            refine lv_isub hx hb dX8_toGrowth_88 (hp_n (n := 89) rfl (lv_topi (fun x_18 ex_18 => ?_)))
            refine lv_istore (lv' := [(4, .int x_18), (3, .int x_17), (7, .int rh_13), (0, .ref a0), (1, .int a1), (5, .int v5_h_3), (6, .int v6_h_3)]) hx hb dX8_toGrowth_89 hl (by decide) rfl (fun ls hl => hp_n (n := 91) rfl ?_)
            refine lv_iconst (v := 0) hx hb dX8_toGrowth_91 (by decide) (hp_n (n := 92) rfl ?_)
            refine lv_istore (lv' := [(5, .int 0), (4, .int x_18), (3, .int x_17), (7, .int rh_13), (0, .ref a0), (1, .int a1), (6, .int v6_h_3)]) hx hb dX8_toGrowth_92 hl (by decide) rfl (fun ls hl => hp_n (n := 94) rfl ?_)
            obtain ⟨x_19, ex_19⟩ : ∃ y : Int32, y = v6_h_3 + 1 := ⟨_, rfl⟩
            have qx_19 : x_19.toInt = v6_h_3.toInt + 1 := by have qa := ib_lo v6_h_3; rw [ex_19]; exact ii_add (by omega) (by omega)
            refine lv_iinc (v := x_19) (lv' := [(6, .int x_19), (5, .int 0), (4, .int x_18), (3, .int x_17), (7, .int rh_13), (0, .ref a0), (1, .int a1)]) hx hb dX8_toGrowth_94 hl (k := 6) rfl (by rw [ex_19]; rfl) (by decide) rfl (fun ls hl => hp_n (n := 97) rfl ?_)
            refine lv_goto (tgt := 20) hx hb dX8_toGrowth_97 (by decide) ?_
            exact ih20 _ (by have qa := ib_hi v6_h_3; have qb := ib_lo v6_h_3; have qc : (v6_h_3 + 1).toInt = v6_h_3.toInt + (1 : Int32).toInt := ii_add (by omega) (by omega); rw [ex_19]; omega) αh_16 Hh_16 Lh_16 Bh_16 x_17 x_18 0 (Or.inl rfl) x_19 (by omega) ls (lv_sub hl [5, 6, 3, 2, 1, 0] rfl) rfl
          ·
            have jc_15 := il_nlt c_15
            refine lv_aload_n hx hb dX8_toGrowth_50 rfl (lv_at hl 1 rfl) (hp_n (n := 51) rfl ?_)
            refine lv_iload_n hx hb dX8_toGrowth_51 rfl (lv_at hl 3 rfl) (hp_n (n := 52) rfl ?_)
            refine lv_iload hx hb dX8_toGrowth_52 (lv_at hl 0 rfl) (hp_n (n := 54) rfl ?_)
            refine lv_iadd hx hb dX8_toGrowth_54 (hp_n (n := 55) rfl (lv_topi (fun x_20 ex_20 => ?_)))
            refine lv_iload hx hb dX8_toGrowth_55 (lv_at hl 4 rfl) (hp_n (n := 57) rfl ?_)
            refine lv_iload hx hb dX8_toGrowth_57 (lv_at hl 0 rfl) (hp_n (n := 59) rfl ?_)
            refine lv_isub hx hb dX8_toGrowth_59 (hp_n (n := 60) rfl (lv_topi (fun x_21 ex_21 => ?_)))
            refine lv_iconst (v := 0) hx hb dX8_toGrowth_60 (by decide) (hp_n (n := 61) rfl ?_)
            refine q_cv (pc' := 64) Bh_13 (hp_runV (As := [.int x_20, .int x_21, .int 0]) (rest := []) C Bh_13 (t_X8_put Γ l αh_3 Bh_13.2.2.1 a0 (cw_k Bh_13.2.2 k0) x_20 x_21 0 (Or.inl rfl)) lb_X8_put lv_X8_put lk_X8_37 (cw_k Bh_13.2.2 k0) rfl (by decide) rfl hl.1 rfl (Nat.le_of_ble_eq_true rfl) dX8_toGrowth_61 ⟨Nat.le_refl _, Nat.le_refl _⟩) (fun _ h => cw_tr Bh_13.2.2 h (by decide)) rfl (fun αh_22 Hh_22 Lh_22 ph_22 Bh_22 => ?_)
            refine lv_iload hx hb dX8_toGrowth_64 (lv_at hl 0 rfl) (hp_n (n := 66) rfl ?_)
            refine lv_istore (lv' := [(4, .int rh_13), (7, .int rh_13), (0, .ref a0), (1, .int a1), (3, .int v3_h_3), (5, .int v5_h_3), (6, .int v6_h_3)]) hx hb dX8_toGrowth_66 hl (by decide) rfl (fun ls hl => hp_n (n := 68) rfl ?_)
            refine lv_goto (tgt := 94) hx hb dX8_toGrowth_68 (by decide) ?_
            obtain ⟨x_23, ex_23⟩ : ∃ y : Int32, y = v6_h_3 + 1 := ⟨_, rfl⟩
            have qx_23 : x_23.toInt = v6_h_3.toInt + 1 := by have qa := ib_lo v6_h_3; rw [ex_23]; exact ii_add (by omega) (by omega)
            refine lv_iinc (v := x_23) (lv' := [(6, .int x_23), (4, .int rh_13), (7, .int rh_13), (0, .ref a0), (1, .int a1), (3, .int v3_h_3), (5, .int v5_h_3)]) hx hb dX8_toGrowth_94 hl (k := 6) rfl (by rw [ex_23]; rfl) (by decide) rfl (fun ls hl => hp_n (n := 97) rfl ?_)
            refine lv_goto (tgt := 20) hx hb dX8_toGrowth_97 (by decide) ?_
            exact ih20 _ (by have qa := ib_hi v6_h_3; have qb := ib_lo v6_h_3; have qc : (v6_h_3 + 1).toInt = v6_h_3.toInt + (1 : Int32).toInt := ii_add (by omega) (by omega); rw [ex_23]; omega) αh_22 Hh_22 Lh_22 Bh_22 v3_h_3 rh_13 v5_h_3 zv5_h_3 x_23 (by omega) ls (lv_sub hl [3, 4, 5, 1, 6, 0] rfl) rfl
    refine lv_istore (lv' := [(6, .int 0), (5, .int 1), (4, .int a2), (3, .int 0), (0, .ref a0), (1, .int a1), (2, .int a2)]) hx hb dX8_toGrowth_18 hl (by decide) rfl (fun ls hl => hp_n (n := 20) rfl ?_)
    exact J20 _ αh_1 Hh_1 Lh_1 Bh_1 0 a2 1 (Or.inr rfl) 0 (by omega) ls (lv_sub hl [4, 5, 3, 2, 1, 0] rfl) rfl
  ·
    have jc_2 := il_eq c_2
    exact q_vret C Bh_1 hr hlk Bh_1.2.2 dX8_toGrowth_8
abbrev w_X8_putGreatestWithout : cw_W := ([453], [], [21, 22, 23], [])
set_option maxRecDepth 100000 in
set_option maxHeartbeats 4000000 in
theorem t_X8_putGreatestWithout (Γ : hp_G) (l : Launch) (α : hp_T) (g : GC α) (a0 : Nat) (k0 : hp_K α a0 = 9) (a1 : Int32) (a2 : Int32) (a3 : Int32) : Met l yX8_putGreatestWithout (hp_ws yX8_putGreatestWithout cX8_putGreatestWithout 8 (some .int)) (hp_rm 3 0 0) (hp_Pc Γ α [.ref a0, .int a1, .int a2, .int a3]) (hp_Qi Γ (fun r β => cw w_X8_putGreatestWithout α β)) 0 0 (hp_A Γ) := by
  refine hp_start (by decide) ?_
  intro p e s m below meth c C hr hlk B0 hnm
  have C : hp_C Γ p m c cX8_putGreatestWithout 8 s ([.ref a0, .int a1, .int a2, .int a3] : List Value).toArray RX8 := C
  have hx := C.1.1
  have hb := C.1.2.1
  have hown := C.1.2.2.2.1
  have hts := C.1.2.2.2.2
  have B : hp_B Γ (cw w_X8_putGreatestWithout) s α α s.heap [] := ⟨B0.1, B0.2.1, cw_rf g⟩
  have lit0 : (0 : Int32).toInt = 0 := by decide
  have lit1 : (1 : Int32).toInt = 1 := by decide
  have lit40 : (40 : Int32).toInt = 40 := by decide
  have hl := lv_entry ([.ref a0, .int a1, .int a2, .int a3]) (n := 8) (Nat.le_of_ble_eq_true rfl)
  show W p l e (hp_rm 3 0 0) s m ([.ref a0, .int a1, .int a2, .int a3] : List Value).toArray below meth c s.heap [] 0 0 (MQ below (hp_Qi Γ (fun r β => cw w_X8_putGreatestWithout α β)) ([.ref a0, .int a1, .int a2, .int a3] : List Value).toArray s 0 0 (hp_A Γ)) (entryFrame m ([.ref a0, .int a1, .int a2, .int a3] : List Value).toArray 8)
  rw [lg_entry_eq]
  generalize (lg_sl ([.ref a0, .int a1, .int a2, .int a3]) ++ List.replicate (8 - (lg_sl ([.ref a0, .int a1, .int a2, .int a3])).length) Slot.unset).toArray = ls at hl ⊢
  have hl : lv_has ls 8 [(0, .ref a0), (1, .int a1), (2, .int a2), (3, .int a3)] := hl
  refine lv_iconst (v := 0) hx hb dX8_putGreatestWithout_0 (by decide) (hp_n (n := 1) rfl ?_)
  refine lv_istore (lv' := [(4, .int 0), (0, .ref a0), (1, .int a1), (2, .int a2), (3, .int a3)]) hx hb dX8_putGreatestWithout_1 hl (by decide) rfl (fun ls hl => hp_n (n := 3) rfl ?_)
  refine lv_iload_n hx hb dX8_putGreatestWithout_3 rfl (lv_at hl 4 rfl) (hp_n (n := 4) rfl ?_)
  refine lv_istore (lv' := [(5, .int a3), (4, .int 0), (0, .ref a0), (1, .int a1), (2, .int a2), (3, .int a3)]) hx hb dX8_putGreatestWithout_4 hl (by decide) rfl (fun ls hl => hp_n (n := 6) rfl ?_)
  refine lv_iconst (v := 0) hx hb dX8_putGreatestWithout_6 (by decide) (hp_n (n := 7) rfl ?_)
  have J9 : ∀ (nq : Nat) (Hh_1 : Heap) (Lh_1 : List Loc) (Bh_1 : hp_B Γ (cw w_X8_putGreatestWithout) s α α Hh_1 Lh_1) (v4_h_1 : Int32) (v5_h_1 : Int32) (v6_h_1 : Int32) (ih_1_0 : 0 ≤ v6_h_1.toInt) (ls : Array Slot) (hl : lv_has ls 8 [(0, .ref a0), (1, .int a1), (2, .int a2), (4, .int v4_h_1), (5, .int v5_h_1), (6, .int v6_h_1)]) (hmu9 : (2147483647 - v6_h_1.toInt).toNat = nq), W p l e (hp_rm 3 0 0) s m ([.ref a0, .int a1, .int a2, .int a3] : List Value).toArray below meth c Hh_1 Lh_1 0 0 (MQ below (hp_Qi Γ (fun r β => cw w_X8_putGreatestWithout α β)) ([.ref a0, .int a1, .int a2, .int a3] : List Value).toArray s 0 0 (hp_A Γ)) (F0 m 9 ls []) := by
    intro nq
    induction nq using Nat.strongRecOn with
    | ind nq ih9 =>
    intro Hh_1 Lh_1 Bh_1 v4_h_1 v5_h_1 v6_h_1 ih_1_0 ls hl hmu9
    have inv9_0 := ih_1_0
    refine lv_iload hx hb dX8_putGreatestWithout_9 (lv_at hl 5 rfl) (hp_n (n := 11) rfl ?_)
    refine lv_bipush (v := 40) hx hb dX8_putGreatestWithout_11 (by decide) (hp_n (n := 13) rfl ?_)
    have J76 : ∀ (Hh_2 : Heap) (Lh_2 : List Loc) (Bh_2 : hp_B Γ (cw w_X8_putGreatestWithout) s α α Hh_2 Lh_2) (ls : Array Slot) (hl : lv_has ls 8 [(0, .ref a0), (4, .int v4_h_1), (5, .int v5_h_1)]), W p l e (hp_rm 3 0 0) s m ([.ref a0, .int a1, .int a2, .int a3] : List Value).toArray below meth c Hh_2 Lh_2 0 0 (MQ below (hp_Qi Γ (fun r β => cw w_X8_putGreatestWithout α β)) ([.ref a0, .int a1, .int a2, .int a3] : List Value).toArray s 0 0 (hp_A Γ)) (F0 m 76 ls []) := by
      intro Hh_2 Lh_2 Bh_2 ls hl
      refine lv_aload_n hx hb dX8_putGreatestWithout_76 rfl (lv_at hl 0 rfl) (hp_n (n := 77) rfl ?_)
      refine lv_iload hx hb dX8_putGreatestWithout_77 (lv_at hl 1 rfl) (hp_n (n := 79) rfl ?_)
      refine lv_iload hx hb dX8_putGreatestWithout_79 (lv_at hl 2 rfl) (hp_n (n := 81) rfl ?_)
      refine lv_iconst (v := 0) hx hb dX8_putGreatestWithout_81 (by decide) (hp_n (n := 82) rfl ?_)
      refine q_cv (pc' := 85) Bh_2 (hp_runV (As := [.int v4_h_1, .int v5_h_1, .int 0]) (rest := []) C Bh_2 (t_X8_put Γ l α Bh_2.2.2.1 a0 (cw_k Bh_2.2.2 k0) v4_h_1 v5_h_1 0 (Or.inl rfl)) lb_X8_put lv_X8_put lk_X8_37 (cw_k Bh_2.2.2 k0) rfl (by decide) rfl hl.1 rfl (Nat.le_of_ble_eq_true rfl) dX8_putGreatestWithout_82 ⟨Nat.le_refl _, Nat.le_refl _⟩) (fun _ h => cw_tr Bh_2.2.2 h (by decide)) rfl (fun αh_3 Hh_3 Lh_3 ph_3 Bh_3 => ?_)
      refine lv_iload hx hb dX8_putGreatestWithout_85 (lv_at hl 2 rfl) (hp_n (n := 87) rfl ?_)
      exact q_iret C Bh_3 hr hlk Bh_3.2.2 dX8_putGreatestWithout_87
    refine lv_icmp_ge (tgt := 76) hx hb dX8_putGreatestWithout_13 (by decide) (fun c_4 => ?_) (fun c_4 => hp_n (n := 16) rfl ?_)
    ·
      have jc_4 := il_le c_4
      exact J76 Hh_1 Lh_1 Bh_1 ls (lv_sub hl [0, 3, 4] rfl)
    ·
      have jc_4 := il_nle c_4
      refine lv_iload hx hb dX8_putGreatestWithout_16 (lv_at hl 3 rfl) (hp_n (n := 18) rfl ?_)
      refine lv_iload_n hx hb dX8_putGreatestWithout_18 rfl (lv_at hl 2 rfl) (hp_n (n := 19) rfl ?_)
      have J33 : ∀ (Hh_5 : Heap) (Lh_5 : List Loc) (Bh_5 : hp_B Γ (cw w_X8_putGreatestWithout) s α α Hh_5 Lh_5) (ls : Array Slot) (hl : lv_has ls 8 [(0, .ref a0), (1, .int a1), (2, .int a2), (4, .int v4_h_1), (5, .int v5_h_1), (6, .int v6_h_1)]), W p l e (hp_rm 3 0 0) s m ([.ref a0, .int a1, .int a2, .int a3] : List Value).toArray below meth c Hh_5 Lh_5 0 0 (MQ below (hp_Qi Γ (fun r β => cw w_X8_putGreatestWithout α β)) ([.ref a0, .int a1, .int a2, .int a3] : List Value).toArray s 0 0 (hp_A Γ)) (F0 m 33 ls []) := by
        intro Hh_5 Lh_5 Bh_5 ls hl
        refine lv_iload hx hb dX8_putGreatestWithout_33 (lv_at hl 4 rfl) (hp_n (n := 35) rfl ?_)
        refine q_ci (pc' := 38) Bh_5 (hp_runS (As := [.int v5_h_1]) (rest := []) C Bh_5 (t_X11_firstPartOf Γ l α Bh_5.2.2.1 v5_h_1) lb_X11_firstPartOf ls_X11_firstPartOf lk_X8_33 rfl (by decide) rfl hl.1 rfl (Nat.le_of_ble_eq_true rfl) dX8_putGreatestWithout_35 ⟨Nat.le_refl _, Nat.le_refl _⟩) (fun _ _ h => by rw [h]; exact Bh_5.2.2) rfl (fun rh_6 αh_6 Hh_6 Lh_6 ph_6 Bh_6 => ?_)
        rw [ph_6] at Bh_6
        refine lv_istore (lv' := [(7, .int rh_6), (0, .ref a0), (1, .int a1), (2, .int a2), (4, .int v4_h_1), (5, .int v5_h_1), (6, .int v6_h_1)]) hx hb dX8_putGreatestWithout_38 hl (by decide) rfl (fun ls hl => hp_n (n := 40) rfl ?_)
        refine lv_iload_n hx hb dX8_putGreatestWithout_40 rfl (lv_at hl 3 rfl) (hp_n (n := 41) rfl ?_)
        refine lv_iload hx hb dX8_putGreatestWithout_41 (lv_at hl 4 rfl) (hp_n (n := 43) rfl ?_)
        refine lv_isub hx hb dX8_putGreatestWithout_43 (hp_n (n := 44) rfl (lv_topi (fun x_7 ex_7 => ?_)))
        refine lv_iload hx hb dX8_putGreatestWithout_44 (lv_at hl 0 rfl) (hp_n (n := 46) rfl ?_)
        refine lv_icmp_ge (tgt := 56) hx hb dX8_putGreatestWithout_46 (by decide) (fun c_8 => ?_) (fun c_8 => hp_n (n := 49) rfl ?_)
        ·
          have jc_8 := il_le c_8
          refine lv_iload hx hb dX8_putGreatestWithout_56 (lv_at hl 4 rfl) (hp_n (n := 58) rfl ?_)
          refine lv_iload hx hb dX8_putGreatestWithout_58 (lv_at hl 0 rfl) (hp_n (n := 60) rfl ?_)
          refine lv_iadd hx hb dX8_putGreatestWithout_60 (hp_n (n := 61) rfl (lv_topi (fun x_9 ex_9 => ?_)))
          refine lv_istore (lv' := [(4, .int x_9), (7, .int rh_6), (0, .ref a0), (1, .int a1), (2, .int a2), (5, .int v5_h_1), (6, .int v6_h_1)]) hx hb dX8_putGreatestWithout_61 hl (by decide) rfl (fun ls hl => hp_n (n := 63) rfl ?_)
          refine lv_iload hx hb dX8_putGreatestWithout_63 (lv_at hl 5 rfl) (hp_n (n := 65) rfl ?_)
          refine lv_iload hx hb dX8_putGreatestWithout_65 (lv_at hl 1 rfl) (hp_n (n := 67) rfl ?_)
          refine lv_isub hx hb dX8_putGreatestWithout_67 (hp_n (n := 68) rfl (lv_topi (fun x_10 ex_10 => ?_)))
          refine lv_istore (lv' := [(5, .int x_10), (4, .int x_9), (7, .int rh_6), (0, .ref a0), (1, .int a1), (2, .int a2), (6, .int v6_h_1)]) hx hb dX8_putGreatestWithout_68 hl (by decide) rfl (fun ls hl => hp_n (n := 70) rfl ?_)
          obtain ⟨x_11, ex_11⟩ : ∃ y : Int32, y = v6_h_1 + 1 := ⟨_, rfl⟩
          have qx_11 : x_11.toInt = v6_h_1.toInt + 1 := by have qa := ib_lo v6_h_1; rw [ex_11]; exact ii_add (by omega) (by omega)
          refine lv_iinc (v := x_11) (lv' := [(6, .int x_11), (5, .int x_10), (4, .int x_9), (7, .int rh_6), (0, .ref a0), (1, .int a1), (2, .int a2)]) hx hb dX8_putGreatestWithout_70 hl (k := 6) rfl (by rw [ex_11]; rfl) (by decide) rfl (fun ls hl => hp_n (n := 73) rfl ?_)
          refine lv_goto (tgt := 9) hx hb dX8_putGreatestWithout_73 (by decide) ?_
          exact ih9 _ (by have qa := ib_hi v6_h_1; have qb := ib_lo v6_h_1; have qc : (v6_h_1 + 1).toInt = v6_h_1.toInt + (1 : Int32).toInt := ii_add (by omega) (by omega); rw [ex_11]; omega) Hh_6 Lh_6 Bh_6 x_9 x_10 x_11 (by omega) ls (lv_sub hl [4, 5, 6, 2, 1, 0] rfl) rfl
        ·
          have jc_8 := il_nle c_8
          refine lv_iload hx hb dX8_putGreatestWithout_49 (lv_at hl 0 rfl) (hp_n (n := 51) rfl ?_)
          refine lv_istore (lv' := [(5, .int rh_6), (7, .int rh_6), (0, .ref a0), (1, .int a1), (2, .int a2), (4, .int v4_h_1), (6, .int v6_h_1)]) hx hb dX8_putGreatestWithout_51 hl (by decide) rfl (fun ls hl => hp_n (n := 53) rfl ?_)
          refine lv_goto (tgt := 70) hx hb dX8_putGreatestWithout_53 (by decide) ?_
          obtain ⟨x_12, ex_12⟩ : ∃ y : Int32, y = v6_h_1 + 1 := ⟨_, rfl⟩
          have qx_12 : x_12.toInt = v6_h_1.toInt + 1 := by have qa := ib_lo v6_h_1; rw [ex_12]; exact ii_add (by omega) (by omega)
          refine lv_iinc (v := x_12) (lv' := [(6, .int x_12), (5, .int rh_6), (7, .int rh_6), (0, .ref a0), (1, .int a1), (2, .int a2), (4, .int v4_h_1)]) hx hb dX8_putGreatestWithout_70 hl (k := 6) rfl (by rw [ex_12]; rfl) (by decide) rfl (fun ls hl => hp_n (n := 73) rfl ?_)
          refine lv_goto (tgt := 9) hx hb dX8_putGreatestWithout_73 (by decide) ?_
          exact ih9 _ (by have qa := ib_hi v6_h_1; have qb := ib_lo v6_h_1; have qc : (v6_h_1 + 1).toInt = v6_h_1.toInt + (1 : Int32).toInt := ii_add (by omega) (by omega); rw [ex_12]; omega) Hh_6 Lh_6 Bh_6 v4_h_1 rh_6 x_12 (by omega) ls (lv_sub hl [3, 4, 5, 6, 1, 0] rfl) rfl
      refine lv_icmp_ne (tgt := 33) hx hb dX8_putGreatestWithout_19 (by decide) (fun c_13 => ?_) (fun c_13 => hp_n (n := 22) rfl ?_)
      ·
        have jc_13 := il_ne c_13
        exact J33 Hh_1 Lh_1 Bh_1 ls (lv_sub hl [0, 1, 2, 3, 4, 5] rfl)
      ·
        have jc_13 := il_eq c_13
        refine lv_iload_n hx hb dX8_putGreatestWithout_22 rfl (lv_at hl 1 rfl) (hp_n (n := 23) rfl ?_)
        refine lv_iload hx hb dX8_putGreatestWithout_23 (lv_at hl 3 rfl) (hp_n (n := 25) rfl ?_)
        refine lv_iload hx hb dX8_putGreatestWithout_25 (lv_at hl 4 rfl) (hp_n (n := 27) rfl ?_)
        refine q_ci (pc' := 30) Bh_1 (hp_runS (As := [.int a1, .int v4_h_1, .int v5_h_1]) (rest := []) C Bh_1 (t_X11_hasOneOf Γ l α Bh_1.2.2.1 a1 v4_h_1 v5_h_1) lb_X11_hasOneOf ls_X11_hasOneOf lk_X8_44 rfl (by decide) rfl hl.1 rfl (Nat.le_of_ble_eq_true rfl) dX8_putGreatestWithout_27 ⟨Nat.le_refl _, Nat.le_refl _⟩) (fun _ _ h => by rw [h.1]; exact Bh_1.2.2) rfl (fun rh_14 αh_14 Hh_14 Lh_14 ph_14 Bh_14 => ?_)
        rw [ph_14.1] at Bh_14
        have zh_14 := ph_14.2
        refine lv_if_eq (tgt := 76) hx hb dX8_putGreatestWithout_30 (by decide) (fun c_15 => ?_) (fun c_15 => hp_n (n := 33) rfl ?_)
        ·
          have jc_15 := il_eq c_15
          exact J76 Hh_14 Lh_14 Bh_14 ls (lv_sub hl [0, 3, 4] rfl)
        ·
          have jc_15 := il_ne c_15
          exact J33 Hh_14 Lh_14 Bh_14 ls (lv_sub hl [0, 1, 2, 3, 4, 5] rfl)
  refine lv_istore (lv' := [(6, .int 0), (5, .int a3), (4, .int 0), (0, .ref a0), (1, .int a1), (2, .int a2), (3, .int a3)]) hx hb dX8_putGreatestWithout_7 hl (by decide) rfl (fun ls hl => hp_n (n := 9) rfl ?_)
  exact J9 _ s.heap [] B 0 a3 0 (by omega) ls (lv_sub hl [3, 4, 5, 2, 1, 0] rfl) rfl
abbrev w_X8_toBundle : cw_W := ([453, 454], [], [21, 22, 23], [])
set_option maxRecDepth 100000 in
set_option maxHeartbeats 4000000 in
theorem t_X8_toBundle (Γ : hp_G) (l : Launch) (α : hp_T) (g : GC α) (a0 : Nat) (k0 : hp_K α a0 = 9) (a1 : Int32) (a2 : Int32) : Met l yX8_toBundle (hp_ws yX8_toBundle cX8_toBundle 5 none) (hp_rm 4 0 0) (hp_Pc Γ α [.ref a0, .int a1, .int a2]) (hp_Qv Γ (fun β => cw w_X8_toBundle α β)) 0 0 (hp_A Γ) := by
  refine hp_start (by decide) ?_
  intro p e s m below meth c C hr hlk B0 hnm
  have C : hp_C Γ p m c cX8_toBundle 5 s ([.ref a0, .int a1, .int a2] : List Value).toArray RX8 := C
  have hx := C.1.1
  have hb := C.1.2.1
  have hown := C.1.2.2.2.1
  have hts := C.1.2.2.2.2
  have B : hp_B Γ (cw w_X8_toBundle) s α α s.heap [] := ⟨B0.1, B0.2.1, cw_rf g⟩
  have lit0 : (0 : Int32).toInt = 0 := by decide
  have lit1 : (1 : Int32).toInt = 1 := by decide
  have lit128 : (128 : Int32).toInt = 128 := by decide
  have hl := lv_entry ([.ref a0, .int a1, .int a2]) (n := 5) (Nat.le_of_ble_eq_true rfl)
  show W p l e (hp_rm 4 0 0) s m ([.ref a0, .int a1, .int a2] : List Value).toArray below meth c s.heap [] 0 0 (MQ below (hp_Qv Γ (fun β => cw w_X8_toBundle α β)) ([.ref a0, .int a1, .int a2] : List Value).toArray s 0 0 (hp_A Γ)) (entryFrame m ([.ref a0, .int a1, .int a2] : List Value).toArray 5)
  rw [lg_entry_eq]
  generalize (lg_sl ([.ref a0, .int a1, .int a2]) ++ List.replicate (5 - (lg_sl ([.ref a0, .int a1, .int a2])).length) Slot.unset).toArray = ls at hl ⊢
  have hl : lv_has ls 5 [(0, .ref a0), (1, .int a1), (2, .int a2)] := hl
  refine lv_aload_n hx hb dX8_toBundle_0 rfl (lv_at hl 0 rfl) (hp_n (n := 1) rfl ?_)
  refine q_cv (pc' := 4) B (hp_runV (As := []) (rest := []) C B (t_X8_clear Γ l α B.2.2.1 a0 (cw_k B.2.2 k0)) lb_X8_clear lv_X8_clear lk_X8_30 (cw_k B.2.2 k0) rfl (by decide) rfl hl.1 rfl (Nat.le_of_ble_eq_true rfl) dX8_toBundle_1 ⟨Nat.le_refl _, Nat.le_refl _⟩) (fun _ h => cw_tr B.2.2 h (by decide)) rfl (fun αh_1 Hh_1 Lh_1 ph_1 Bh_1 => ?_)
  refine lv_iconst (v := 0) hx hb dX8_toBundle_4 (by decide) (hp_n (n := 5) rfl ?_)
  refine lv_istore_n (lv' := [(3, .int 0), (0, .ref a0), (1, .int a1), (2, .int a2)]) hx hb dX8_toBundle_5 rfl hl (by decide) rfl (fun ls hl => hp_n (n := 6) rfl ?_)
  refine lv_iconst (v := 0) hx hb dX8_toBundle_6 (by decide) (hp_n (n := 7) rfl ?_)
  have J9 : ∀ (nq : Nat) (αh_2 : hp_T) (Hh_2 : Heap) (Lh_2 : List Loc) (Bh_2 : hp_B Γ (cw w_X8_toBundle) s α αh_2 Hh_2 Lh_2) (v3_h_2 : Int32) (v4_h_2 : Int32) (ih_2_0 : 0 ≤ v4_h_2.toInt) (ls : Array Slot) (hl : lv_has ls 5 [(0, .ref a0), (1, .int a1), (2, .int a2), (3, .int v3_h_2), (4, .int v4_h_2)]) (hmu9 : (2147483647 - v4_h_2.toInt).toNat = nq), W p l e (hp_rm 4 0 0) s m ([.ref a0, .int a1, .int a2] : List Value).toArray below meth c Hh_2 Lh_2 0 0 (MQ below (hp_Qv Γ (fun β => cw w_X8_toBundle α β)) ([.ref a0, .int a1, .int a2] : List Value).toArray s 0 0 (hp_A Γ)) (F0 m 9 ls []) := by
    intro nq
    induction nq using Nat.strongRecOn with
    | ind nq ih9 =>
    intro αh_2 Hh_2 Lh_2 Bh_2 v3_h_2 v4_h_2 ih_2_0 ls hl hmu9
    have inv9_0 := ih_2_0
    refine lv_iload hx hb dX8_toBundle_9 (lv_at hl 4 rfl) (hp_n (n := 11) rfl ?_)
    refine lv_sipush (v := 128) hx hb dX8_toBundle_11 (by decide) (hp_n (n := 14) rfl ?_)
    refine lv_icmp_ge (tgt := 53) hx hb dX8_toBundle_14 (by decide) (fun c_3 => ?_) (fun c_3 => hp_n (n := 17) rfl ?_)
    ·
      have jc_3 := il_le c_3
      exact q_vret C Bh_2 hr hlk Bh_2.2.2 dX8_toBundle_53
    ·
      have jc_3 := il_nle c_3
      refine lv_iload_n hx hb dX8_toBundle_17 rfl (lv_at hl 3 rfl) (hp_n (n := 18) rfl ?_)
      refine lv_iload_n hx hb dX8_toBundle_18 rfl (lv_at hl 2 rfl) (hp_n (n := 19) rfl ?_)
      refine lv_icmp_ge (tgt := 53) hx hb dX8_toBundle_19 (by decide) (fun c_4 => ?_) (fun c_4 => hp_n (n := 22) rfl ?_)
      ·
        have jc_4 := il_le c_4
        exact q_vret C Bh_2 hr hlk Bh_2.2.2 dX8_toBundle_53
      ·
        have jc_4 := il_nle c_4
        refine lv_iload_n hx hb dX8_toBundle_22 rfl (lv_at hl 1 rfl) (hp_n (n := 23) rfl ?_)
        refine lv_iload_n hx hb dX8_toBundle_23 rfl (lv_at hl 3 rfl) (hp_n (n := 24) rfl ?_)
        refine lv_iconst (v := 1) hx hb dX8_toBundle_24 (by decide) (hp_n (n := 25) rfl ?_)
        refine q_ci (pc' := 28) Bh_2 (hp_runS (As := [.int a1, .int v3_h_2, .int 1]) (rest := []) C Bh_2 (t_X11_hasOneOf Γ l αh_2 Bh_2.2.2.1 a1 v3_h_2 1) lb_X11_hasOneOf ls_X11_hasOneOf lk_X8_44 rfl (by decide) rfl hl.1 rfl (Nat.le_of_ble_eq_true rfl) dX8_toBundle_25 ⟨Nat.le_refl _, Nat.le_refl _⟩) (fun _ _ h => by rw [h.1]; exact Bh_2.2.2) rfl (fun rh_5 αh_5 Hh_5 Lh_5 ph_5 Bh_5 => ?_)
        rw [ph_5.1] at Bh_5
        have zh_5 := ph_5.2
        refine lv_if_eq (tgt := 37) hx hb dX8_toBundle_28 (by decide) (fun c_6 => ?_) (fun c_6 => hp_n (n := 31) rfl ?_)
        ·
          have jc_6 := il_eq c_6
          refine lv_iload_n hx hb dX8_toBundle_37 rfl (lv_at hl 3 rfl) (hp_n (n := 38) rfl ?_)
          refine lv_aload_n hx hb dX8_toBundle_38 rfl (lv_at hl 0 rfl) (hp_n (n := 39) rfl ?_)
          refine lv_iload_n hx hb dX8_toBundle_39 rfl (lv_at hl 1 rfl) (hp_n (n := 40) rfl ?_)
          refine lv_iload_n hx hb dX8_toBundle_40 rfl (lv_at hl 3 rfl) (hp_n (n := 41) rfl ?_)
          refine lv_iload_n hx hb dX8_toBundle_41 rfl (lv_at hl 2 rfl) (hp_n (n := 42) rfl ?_)
          refine q_ci (pc' := 45) Bh_5 (hp_runV (As := [.int a1, .int v3_h_2, .int a2]) (rest := [.int v3_h_2]) C Bh_5 (t_X8_putGreatestWithout Γ l αh_2 Bh_5.2.2.1 a0 (cw_k Bh_5.2.2 k0) a1 v3_h_2 a2) lb_X8_putGreatestWithout lv_X8_putGreatestWithout lk_X8_48 (cw_k Bh_5.2.2 k0) rfl (by decide) rfl hl.1 rfl (Nat.le_of_ble_eq_true rfl) dX8_toBundle_42 ⟨Nat.le_refl _, Nat.le_refl _⟩) (fun _ _ h => cw_tr Bh_5.2.2 h (by decide)) rfl (fun rh_7 αh_7 Hh_7 Lh_7 ph_7 Bh_7 => ?_)
          refine lv_iadd hx hb dX8_toBundle_45 (hp_n (n := 46) rfl (lv_topi (fun x_8 ex_8 => ?_)))
          refine lv_istore_n (lv' := [(3, .int x_8), (0, .ref a0), (1, .int a1), (2, .int a2), (4, .int v4_h_2)]) hx hb dX8_toBundle_46 rfl hl (by decide) rfl (fun ls hl => hp_n (n := 47) rfl ?_)
          obtain ⟨x_9, ex_9⟩ : ∃ y : Int32, y = v4_h_2 + 1 := ⟨_, rfl⟩
          have qx_9 : x_9.toInt = v4_h_2.toInt + 1 := by have qa := ib_lo v4_h_2; rw [ex_9]; exact ii_add (by omega) (by omega)
          refine lv_iinc (v := x_9) (lv' := [(4, .int x_9), (3, .int x_8), (0, .ref a0), (1, .int a1), (2, .int a2)]) hx hb dX8_toBundle_47 hl (k := 4) rfl (by rw [ex_9]; rfl) (by decide) rfl (fun ls hl => hp_n (n := 50) rfl ?_)
          refine lv_goto (tgt := 9) hx hb dX8_toBundle_50 (by decide) ?_
          exact ih9 _ (by have qa := ib_hi v4_h_2; have qb := ib_lo v4_h_2; have qc : (v4_h_2 + 1).toInt = v4_h_2.toInt + (1 : Int32).toInt := ii_add (by omega) (by omega); rw [ex_9]; omega) αh_7 Hh_7 Lh_7 Bh_7 x_8 x_9 (by omega) ls (lv_sub hl [2, 3, 4, 1, 0] rfl) rfl
        ·
          have jc_6 := il_ne c_6
          obtain ⟨x_10, ex_10⟩ : ∃ y : Int32, y = v3_h_2 + 1 := ⟨_, rfl⟩
          have qx_10 : x_10.toInt = v3_h_2.toInt + 1 := by have q0 := ib_hi a2; have qa := ib_lo v3_h_2; rw [ex_10]; exact ii_add (by omega) (by omega)
          refine lv_iinc (v := x_10) (lv' := [(3, .int x_10), (0, .ref a0), (1, .int a1), (2, .int a2), (4, .int v4_h_2)]) hx hb dX8_toBundle_31 hl (k := 3) rfl (by rw [ex_10]; rfl) (by decide) rfl (fun ls hl => hp_n (n := 34) rfl ?_)
          refine lv_goto (tgt := 47) hx hb dX8_toBundle_34 (by decide) ?_
          obtain ⟨x_11, ex_11⟩ : ∃ y : Int32, y = v4_h_2 + 1 := ⟨_, rfl⟩
          have qx_11 : x_11.toInt = v4_h_2.toInt + 1 := by have qa := ib_lo v4_h_2; rw [ex_11]; exact ii_add (by omega) (by omega)
          refine lv_iinc (v := x_11) (lv' := [(4, .int x_11), (3, .int x_10), (0, .ref a0), (1, .int a1), (2, .int a2)]) hx hb dX8_toBundle_47 hl (k := 4) rfl (by rw [ex_11]; rfl) (by decide) rfl (fun ls hl => hp_n (n := 50) rfl ?_)
          refine lv_goto (tgt := 9) hx hb dX8_toBundle_50 (by decide) ?_
          exact ih9 _ (by have qa := ib_hi v4_h_2; have qb := ib_lo v4_h_2; have qc : (v4_h_2 + 1).toInt = v4_h_2.toInt + (1 : Int32).toInt := ii_add (by omega) (by omega); rw [ex_11]; omega) αh_2 Hh_5 Lh_5 Bh_5 x_10 x_11 (by omega) ls (lv_sub hl [2, 3, 4, 1, 0] rfl) rfl
  refine lv_istore (lv' := [(4, .int 0), (3, .int 0), (0, .ref a0), (1, .int a1), (2, .int a2)]) hx hb dX8_toBundle_7 hl (by decide) rfl (fun ls hl => hp_n (n := 9) rfl ?_)
  exact J9 _ αh_1 Hh_1 Lh_1 Bh_1 0 0 (by omega) ls (lv_sub hl [2, 3, 4, 1, 0] rfl) rfl
abbrev w_X8_toTree : cw_W := ([453, 454], [], [21, 22, 23], [])
set_option maxRecDepth 100000 in
set_option maxHeartbeats 4000000 in
theorem t_X8_toTree (Γ : hp_G) (l : Launch) (α : hp_T) (g : GC α) (a0 : Nat) (k0 : hp_K α a0 = 9) (a1 : Int32) (a2 : Int32) : Met l yX8_toTree (hp_ws yX8_toTree cX8_toTree 8 none) (hp_rm 3 0 0) (hp_Pc Γ α [.ref a0, .int a1, .int a2]) (hp_Qv Γ (fun β => cw w_X8_toTree α β)) 0 0 (hp_A Γ) := by
  refine hp_start (by decide) ?_
  intro p e s m below meth c C hr hlk B0 hnm
  have C : hp_C Γ p m c cX8_toTree 8 s ([.ref a0, .int a1, .int a2] : List Value).toArray RX8 := C
  have hx := C.1.1
  have hb := C.1.2.1
  have hown := C.1.2.2.2.1
  have hts := C.1.2.2.2.2
  have B : hp_B Γ (cw w_X8_toTree) s α α s.heap [] := ⟨B0.1, B0.2.1, cw_rf g⟩
  have litm1 : ((-1) : Int32).toInt = (-1) := by decide
  have lit0 : (0 : Int32).toInt = 0 := by decide
  have lit1 : (1 : Int32).toInt = 1 := by decide
  have lit2 : (2 : Int32).toInt = 2 := by decide
  have lit40 : (40 : Int32).toInt = 40 := by decide
  have hl := lv_entry ([.ref a0, .int a1, .int a2]) (n := 8) (Nat.le_of_ble_eq_true rfl)
  show W p l e (hp_rm 3 0 0) s m ([.ref a0, .int a1, .int a2] : List Value).toArray below meth c s.heap [] 0 0 (MQ below (hp_Qv Γ (fun β => cw w_X8_toTree α β)) ([.ref a0, .int a1, .int a2] : List Value).toArray s 0 0 (hp_A Γ)) (entryFrame m ([.ref a0, .int a1, .int a2] : List Value).toArray 8)
  rw [lg_entry_eq]
  generalize (lg_sl ([.ref a0, .int a1, .int a2]) ++ List.replicate (8 - (lg_sl ([.ref a0, .int a1, .int a2])).length) Slot.unset).toArray = ls at hl ⊢
  have hl : lv_has ls 8 [(0, .ref a0), (1, .int a1), (2, .int a2)] := hl
  refine lv_aload_n hx hb dX8_toTree_0 rfl (lv_at hl 0 rfl) (hp_n (n := 1) rfl ?_)
  refine q_cv (pc' := 4) B (hp_runV (As := []) (rest := []) C B (t_X8_clear Γ l α B.2.2.1 a0 (cw_k B.2.2 k0)) lb_X8_clear lv_X8_clear lk_X8_30 (cw_k B.2.2 k0) rfl (by decide) rfl hl.1 rfl (Nat.le_of_ble_eq_true rfl) dX8_toTree_1 ⟨Nat.le_refl _, Nat.le_refl _⟩) (fun _ h => cw_tr B.2.2 h (by decide)) rfl (fun αh_1 Hh_1 Lh_1 ph_1 Bh_1 => ?_)
  refine lv_iconst (v := 0) hx hb dX8_toTree_4 (by decide) (hp_n (n := 5) rfl ?_)
  refine lv_istore_n (lv' := [(3, .int 0), (0, .ref a0), (1, .int a1), (2, .int a2)]) hx hb dX8_toTree_5 rfl hl (by decide) rfl (fun ls hl => hp_n (n := 6) rfl ?_)
  refine lv_iload_n hx hb dX8_toTree_6 rfl (lv_at hl 3 rfl) (hp_n (n := 7) rfl ?_)
  refine lv_istore (lv' := [(4, .int a2), (3, .int 0), (0, .ref a0), (1, .int a1), (2, .int a2)]) hx hb dX8_toTree_7 hl (by decide) rfl (fun ls hl => hp_n (n := 9) rfl ?_)
  refine lv_iload_n hx hb dX8_toTree_9 rfl (lv_at hl 3 rfl) (hp_n (n := 10) rfl ?_)
  refine lv_istore (lv' := [(5, .int a1), (4, .int a2), (3, .int 0), (0, .ref a0), (1, .int a1), (2, .int a2)]) hx hb dX8_toTree_10 hl (by decide) rfl (fun ls hl => hp_n (n := 12) rfl ?_)
  refine lv_iconst (v := 0) hx hb dX8_toTree_12 (by decide) (hp_n (n := 13) rfl ?_)
  have J15 : ∀ (nq : Nat) (Hh_2 : Heap) (Lh_2 : List Loc) (Bh_2 : hp_B Γ (cw w_X8_toTree) s α αh_1 Hh_2 Lh_2) (v3_h_2 : Int32) (v4_h_2 : Int32) (v5_h_2 : Int32) (v6_h_2 : Int32) (ih_2_0 : 0 ≤ v6_h_2.toInt) (ls : Array Slot) (hl : lv_has ls 8 [(0, .ref a0), (3, .int v3_h_2), (4, .int v4_h_2), (5, .int v5_h_2), (6, .int v6_h_2)]) (hmu15 : (2147483647 - v6_h_2.toInt).toNat = nq), W p l e (hp_rm 3 0 0) s m ([.ref a0, .int a1, .int a2] : List Value).toArray below meth c Hh_2 Lh_2 0 0 (MQ below (hp_Qv Γ (fun β => cw w_X8_toTree α β)) ([.ref a0, .int a1, .int a2] : List Value).toArray s 0 0 (hp_A Γ)) (F0 m 15 ls []) := by
    intro nq
    induction nq using Nat.strongRecOn with
    | ind nq ih15 =>
    intro Hh_2 Lh_2 Bh_2 v3_h_2 v4_h_2 v5_h_2 v6_h_2 ih_2_0 ls hl hmu15
    have inv15_0 := ih_2_0
    refine lv_iload hx hb dX8_toTree_15 (lv_at hl 4 rfl) (hp_n (n := 17) rfl ?_)
    refine lv_bipush (v := 40) hx hb dX8_toTree_17 (by decide) (hp_n (n := 19) rfl ?_)
    have J82 : ∀ (Hh_3 : Heap) (Lh_3 : List Loc) (Bh_3 : hp_B Γ (cw w_X8_toTree) s α αh_1 Hh_3 Lh_3) (ls : Array Slot) (hl : lv_has ls 8 [(0, .ref a0), (3, .int v3_h_2), (4, .int v4_h_2)]), W p l e (hp_rm 3 0 0) s m ([.ref a0, .int a1, .int a2] : List Value).toArray below meth c Hh_3 Lh_3 0 0 (MQ below (hp_Qv Γ (fun β => cw w_X8_toTree α β)) ([.ref a0, .int a1, .int a2] : List Value).toArray s 0 0 (hp_A Γ)) (F0 m 82 ls []) := by
      intro Hh_3 Lh_3 Bh_3 ls hl
      refine lv_aload_n hx hb dX8_toTree_82 rfl (lv_at hl 0 rfl) (hp_n (n := 83) rfl ?_)
      refine lv_iload_n hx hb dX8_toTree_83 rfl (lv_at hl 1 rfl) (hp_n (n := 84) rfl ?_)
      refine lv_iload hx hb dX8_toTree_84 (lv_at hl 2 rfl) (hp_n (n := 86) rfl ?_)
      refine lv_iconst (v := 0) hx hb dX8_toTree_86 (by decide) (hp_n (n := 87) rfl ?_)
      refine q_cv (pc' := 90) Bh_3 (hp_runV (As := [.int v3_h_2, .int v4_h_2, .int 0]) (rest := []) C Bh_3 (t_X8_put Γ l αh_1 Bh_3.2.2.1 a0 (cw_k Bh_3.2.2 k0) v3_h_2 v4_h_2 0 (Or.inl rfl)) lb_X8_put lv_X8_put lk_X8_37 (cw_k Bh_3.2.2 k0) rfl (by decide) rfl hl.1 rfl (Nat.le_of_ble_eq_true rfl) dX8_toTree_87 ⟨Nat.le_refl _, Nat.le_refl _⟩) (fun _ h => cw_tr Bh_3.2.2 h (by decide)) rfl (fun αh_4 Hh_4 Lh_4 ph_4 Bh_4 => ?_)
      exact q_vret C Bh_4 hr hlk Bh_4.2.2 dX8_toTree_90
    refine lv_icmp_ge (tgt := 82) hx hb dX8_toTree_19 (by decide) (fun c_5 => ?_) (fun c_5 => hp_n (n := 22) rfl ?_)
    ·
      have jc_5 := il_le c_5
      exact J82 Hh_2 Lh_2 Bh_2 ls (lv_sub hl [0, 1, 2] rfl)
    ·
      have jc_5 := il_nle c_5
      refine lv_iload hx hb dX8_toTree_22 (lv_at hl 3 rfl) (hp_n (n := 24) rfl ?_)
      refine lv_if_le (tgt := 82) hx hb dX8_toTree_24 (by decide) (fun c_6 => ?_) (fun c_6 => hp_n (n := 27) rfl ?_)
      ·
        have jc_6 := il_le c_6
        exact J82 Hh_2 Lh_2 Bh_2 ls (lv_sub hl [0, 1, 2] rfl)
      ·
        have jc_6 := il_nle c_6
        refine lv_iload hx hb dX8_toTree_27 (lv_at hl 2 rfl) (hp_n (n := 29) rfl ?_)
        refine q_ci (pc' := 32) Bh_2 (hp_runS (As := [.int v4_h_2]) (rest := []) C Bh_2 (t_X11_firstPartOf Γ l αh_1 Bh_2.2.2.1 v4_h_2) lb_X11_firstPartOf ls_X11_firstPartOf lk_X8_33 rfl (by decide) rfl hl.1 rfl (Nat.le_of_ble_eq_true rfl) dX8_toTree_29 ⟨Nat.le_refl _, Nat.le_refl _⟩) (fun _ _ h => by rw [h]; exact Bh_2.2.2) rfl (fun rh_7 αh_7 Hh_7 Lh_7 ph_7 Bh_7 => ?_)
        rw [ph_7] at Bh_7
        refine lv_istore (lv' := [(7, .int rh_7), (0, .ref a0), (3, .int v3_h_2), (4, .int v4_h_2), (5, .int v5_h_2), (6, .int v6_h_2)]) hx hb dX8_toTree_32 hl (by decide) rfl (fun ls hl => hp_n (n := 34) rfl ?_)
        refine lv_iload hx hb dX8_toTree_34 (lv_at hl 4 rfl) (hp_n (n := 36) rfl ?_)
        refine lv_iconst (v := 2) hx hb dX8_toTree_36 (by decide) (hp_n (n := 37) rfl ?_)
        refine lv_iload hx hb dX8_toTree_37 (lv_at hl 0 rfl) (hp_n (n := 39) rfl ?_)
        refine lv_imul hx hb dX8_toTree_39 (hp_n (n := 40) rfl (lv_topi (fun x_8 ex_8 => ?_)))
        refine lv_iconst (v := 1) hx hb dX8_toTree_40 (by decide) (hp_n (n := 41) rfl ?_)
        refine lv_isub hx hb dX8_toTree_41 (hp_n (n := 42) rfl (lv_topi (fun x_9 ex_9 => ?_)))
        refine lv_icmp_gt (tgt := 55) hx hb dX8_toTree_42 (by decide) (fun c_10 => ?_) (fun c_10 => hp_n (n := 45) rfl ?_)
        ·
          have jc_10 := il_lt c_10
          refine lv_iload hx hb dX8_toTree_55 (lv_at hl 4 rfl) (hp_n (n := 57) rfl ?_)
          refine lv_iconst (v := 2) hx hb dX8_toTree_57 (by decide) (hp_n (n := 58) rfl ?_)
          refine lv_iload hx hb dX8_toTree_58 (lv_at hl 0 rfl) (hp_n (n := 60) rfl ?_)
          refine lv_imul hx hb dX8_toTree_60 (hp_n (n := 61) rfl (lv_topi (fun x_11 ex_11 => ?_)))
          refine lv_isub hx hb dX8_toTree_61 (hp_n (n := 62) rfl (lv_topi (fun x_12 ex_12 => ?_)))
          refine lv_istore (lv' := [(5, .int x_12), (7, .int rh_7), (0, .ref a0), (3, .int v3_h_2), (4, .int v4_h_2), (6, .int v6_h_2)]) hx hb dX8_toTree_62 hl (by decide) rfl (fun ls hl => hp_n (n := 64) rfl ?_)
          refine lv_iload_n hx hb dX8_toTree_64 rfl (lv_at hl 3 rfl) (hp_n (n := 65) rfl ?_)
          refine lv_iload hx hb dX8_toTree_65 (lv_at hl 1 rfl) (hp_n (n := 67) rfl ?_)
          refine lv_iadd hx hb dX8_toTree_67 (hp_n (n := 68) rfl (lv_topi (fun x_13 ex_13 => ?_)))
          refine lv_istore_n (lv' := [(3, .int x_13), (5, .int x_12), (7, .int rh_7), (0, .ref a0), (4, .int v4_h_2), (6, .int v6_h_2)]) hx hb dX8_toTree_68 rfl hl (by decide) rfl (fun ls hl => hp_n (n := 69) rfl ?_)
          refine lv_iload hx hb dX8_toTree_69 (lv_at hl 4 rfl) (hp_n (n := 71) rfl ?_)
          refine lv_iload hx hb dX8_toTree_71 (lv_at hl 2 rfl) (hp_n (n := 73) rfl ?_)
          refine lv_isub hx hb dX8_toTree_73 (hp_n (n := 74) rfl (lv_topi (fun x_14 ex_14 => ?_)))
          refine lv_istore (lv' := [(4, .int x_14), (3, .int x_13), (5, .int x_12), (7, .int rh_7), (0, .ref a0), (6, .int v6_h_2)]) hx hb dX8_toTree_74 hl (by decide) rfl (fun ls hl => hp_n (n := 76) rfl ?_)
          obtain ⟨x_15, ex_15⟩ : ∃ y : Int32, y = v6_h_2 + 1 := ⟨_, rfl⟩
          have qx_15 : x_15.toInt = v6_h_2.toInt + 1 := by have qa := ib_lo v6_h_2; rw [ex_15]; exact ii_add (by omega) (by omega)
          refine lv_iinc (v := x_15) (lv' := [(6, .int x_15), (4, .int x_14), (3, .int x_13), (5, .int x_12), (7, .int rh_7), (0, .ref a0)]) hx hb dX8_toTree_76 hl (k := 5) rfl (by rw [ex_15]; rfl) (by decide) rfl (fun ls hl => hp_n (n := 79) rfl ?_)
          refine lv_goto (tgt := 15) hx hb dX8_toTree_79 (by decide) ?_
          exact ih15 _ (by have qa := ib_hi v6_h_2; have qb := ib_lo v6_h_2; have qc : (v6_h_2 + 1).toInt = v6_h_2.toInt + (1 : Int32).toInt := ii_add (by omega) (by omega); rw [ex_15]; omega) Hh_7 Lh_7 Bh_7 x_13 x_14 x_12 x_15 (by omega) ls (lv_sub hl [5, 2, 1, 3, 0] rfl) rfl
        ·
          have jc_10 := il_nlt c_10
          obtain ⟨x_16, ex_16⟩ : ∃ y : Int32, y = v5_h_2 + (-1) := ⟨_, rfl⟩
          refine lv_iinc (v := x_16) (lv' := [(5, .int x_16), (7, .int rh_7), (0, .ref a0), (3, .int v3_h_2), (4, .int v4_h_2), (6, .int v6_h_2)]) hx hb dX8_toTree_45 hl (k := 4) rfl (by rw [ex_16]; rfl) (by decide) rfl (fun ls hl => hp_n (n := 48) rfl ?_)
          refine lv_iload hx hb dX8_toTree_48 (lv_at hl 1 rfl) (hp_n (n := 50) rfl ?_)
          refine lv_istore (lv' := [(4, .int rh_7), (5, .int x_16), (7, .int rh_7), (0, .ref a0), (3, .int v3_h_2), (6, .int v6_h_2)]) hx hb dX8_toTree_50 hl (by decide) rfl (fun ls hl => hp_n (n := 52) rfl ?_)
          refine lv_goto (tgt := 76) hx hb dX8_toTree_52 (by decide) ?_
          obtain ⟨x_17, ex_17⟩ : ∃ y : Int32, y = v6_h_2 + 1 := ⟨_, rfl⟩
          have qx_17 : x_17.toInt = v6_h_2.toInt + 1 := by have qa := ib_lo v6_h_2; rw [ex_17]; exact ii_add (by omega) (by omega)
          refine lv_iinc (v := x_17) (lv' := [(6, .int x_17), (4, .int rh_7), (5, .int x_16), (7, .int rh_7), (0, .ref a0), (3, .int v3_h_2)]) hx hb dX8_toTree_76 hl (k := 5) rfl (by rw [ex_17]; rfl) (by decide) rfl (fun ls hl => hp_n (n := 79) rfl ?_)
          refine lv_goto (tgt := 15) hx hb dX8_toTree_79 (by decide) ?_
          exact ih15 _ (by have qa := ib_hi v6_h_2; have qb := ib_lo v6_h_2; have qc : (v6_h_2 + 1).toInt = v6_h_2.toInt + (1 : Int32).toInt := ii_add (by omega) (by omega); rw [ex_17]; omega) Hh_7 Lh_7 Bh_7 v3_h_2 rh_7 x_16 x_17 (by omega) ls (lv_sub hl [4, 5, 1, 2, 0] rfl) rfl
  refine lv_istore (lv' := [(6, .int 0), (5, .int a1), (4, .int a2), (3, .int 0), (0, .ref a0), (1, .int a1), (2, .int a2)]) hx hb dX8_toTree_13 hl (by decide) rfl (fun ls hl => hp_n (n := 15) rfl ?_)
  exact J15 _ Hh_1 Lh_1 Bh_1 0 a2 a1 0 (by omega) ls (lv_sub hl [4, 3, 2, 1, 0] rfl) rfl
abbrev w_X8_countShared : cw_W := ([], [], [], [])
set_option maxRecDepth 100000 in
set_option maxHeartbeats 4000000 in
theorem t_X8_countShared (Γ : hp_G) (l : Launch) (α : hp_T) (g : GC α) (a0 : Nat) (k0 : hp_K α a0 = 9) (a1 : Nat) (k1 : hp_K α a1 = 9) : Met l yX8_countShared (hp_ws yX8_countShared cX8_countShared 5 (some .int)) (hp_rm 1 0 0) (hp_Pc Γ α [.ref a0, .ref a1]) (hp_Qi Γ (fun r β => β = α)) 0 0 (hp_A Γ) := by
  refine hp_start (by decide) ?_
  intro p e s m below meth c C hr hlk B0 hnm
  have C : hp_C Γ p m c cX8_countShared 5 s ([.ref a0, .ref a1] : List Value).toArray RX8 := C
  have hx := C.1.1
  have hb := C.1.2.1
  have hown := C.1.2.2.2.1
  have hts := C.1.2.2.2.2
  have B : hp_B Γ (cw w_X8_countShared) s α α s.heap [] := ⟨B0.1, B0.2.1, cw_rf g⟩
  have lit0 : (0 : Int32).toInt = 0 := by decide
  have lit1 : (1 : Int32).toInt = 1 := by decide
  have hl := lv_entry ([.ref a0, .ref a1]) (n := 5) (Nat.le_of_ble_eq_true rfl)
  show W p l e (hp_rm 1 0 0) s m ([.ref a0, .ref a1] : List Value).toArray below meth c s.heap [] 0 0 (MQ below (hp_Qi Γ (fun r β => β = α)) ([.ref a0, .ref a1] : List Value).toArray s 0 0 (hp_A Γ)) (entryFrame m ([.ref a0, .ref a1] : List Value).toArray 5)
  rw [lg_entry_eq]
  generalize (lg_sl ([.ref a0, .ref a1]) ++ List.replicate (5 - (lg_sl ([.ref a0, .ref a1])).length) Slot.unset).toArray = ls at hl ⊢
  have hl : lv_has ls 5 [(0, .ref a0), (1, .ref a1)] := hl
  refine lv_iconst (v := 0) hx hb dX8_countShared_0 (by decide) (hp_n (n := 1) rfl ?_)
  refine lv_istore_n (lv' := [(2, .int 0), (0, .ref a0), (1, .ref a1)]) hx hb dX8_countShared_1 rfl hl (by decide) rfl (fun ls hl => hp_n (n := 2) rfl ?_)
  refine lv_iconst (v := 0) hx hb dX8_countShared_2 (by decide) (hp_n (n := 3) rfl ?_)
  have J4 : ∀ (nq : Nat) (Hh_1 : Heap) (Lh_1 : List Loc) (Bh_1 : hp_B Γ (cw w_X8_countShared) s α α Hh_1 Lh_1) (v2_h_1 : Int32) (v3_h_1 : Int32) (ih_1_0 : 0 ≤ v3_h_1.toInt) (ls : Array Slot) (hl : lv_has ls 5 [(0, .ref a0), (1, .ref a1), (2, .int v2_h_1), (3, .int v3_h_1)]) (hmu4 : (2147483647 - v3_h_1.toInt).toNat = nq), W p l e (hp_rm 1 0 0) s m ([.ref a0, .ref a1] : List Value).toArray below meth c Hh_1 Lh_1 0 0 (MQ below (hp_Qi Γ (fun r β => β = α)) ([.ref a0, .ref a1] : List Value).toArray s 0 0 (hp_A Γ)) (F0 m 4 ls []) := by
    intro nq
    induction nq using Nat.strongRecOn with
    | ind nq ih4 =>
    intro Hh_1 Lh_1 Bh_1 v2_h_1 v3_h_1 ih_1_0 ls hl hmu4
    have inv4_0 := ih_1_0
    refine lv_iload_n hx hb dX8_countShared_4 rfl (lv_at hl 3 rfl) (hp_n (n := 5) rfl ?_)
    refine lv_aload_n hx hb dX8_countShared_5 rfl (lv_at hl 0 rfl) (hp_n (n := 6) rfl ?_)
    refine q_geti (κ := 9) (k := 3) (φ := 453) (pc' := 9) C Bh_1 (cw_k Bh_1.2.2 k0) fl_X8_22 rfl rfl rfl dX8_countShared_6 rfl (fun x_2 ex_2 => ?_)
    obtain ⟨gx_2a, gx_2b⟩ : 0 ≤ x_2.toInt ∧ x_2.toInt ≤ 64 := by rw [ex_2]; exact Bh_1.2.2.1.1 453 a0 rfl
    refine lv_icmp_ge (tgt := 67) hx hb dX8_countShared_9 (by decide) (fun c_3 => ?_) (fun c_3 => hp_n (n := 12) rfl ?_)
    ·
      have jc_3 := il_le c_3
      refine lv_iload_n hx hb dX8_countShared_67 rfl (lv_at hl 2 rfl) (hp_n (n := 68) rfl ?_)
      exact q_iret C Bh_1 hr hlk rfl dX8_countShared_68
    ·
      have jc_3 := il_nle c_3
      refine lv_iconst (v := 0) hx hb dX8_countShared_12 (by decide) (hp_n (n := 13) rfl ?_)
      have J15 : ∀ (nq : Nat) (Hh_4 : Heap) (Lh_4 : List Loc) (Bh_4 : hp_B Γ (cw w_X8_countShared) s α α Hh_4 Lh_4) (v2_h_4 : Int32) (v4_h_4 : Int32) (ih_4_0 : 0 ≤ v4_h_4.toInt) (ls : Array Slot) (hl : lv_has ls 5 [(0, .ref a0), (1, .ref a1), (2, .int v2_h_4), (3, .int v3_h_1), (4, .int v4_h_4)]) (hmu15 : (2147483647 - v4_h_4.toInt).toNat = nq), W p l e (hp_rm 1 0 0) s m ([.ref a0, .ref a1] : List Value).toArray below meth c Hh_4 Lh_4 0 0 (MQ below (hp_Qi Γ (fun r β => β = α)) ([.ref a0, .ref a1] : List Value).toArray s 0 0 (hp_A Γ)) (F0 m 15 ls []) := by
        intro nq
        induction nq using Nat.strongRecOn with
        | ind nq ih15 =>
        intro Hh_4 Lh_4 Bh_4 v2_h_4 v4_h_4 ih_4_0 ls hl hmu15
        have inv15_0 := ih_4_0
        refine lv_iload hx hb dX8_countShared_15 (lv_at hl 4 rfl) (hp_n (n := 17) rfl ?_)
        refine lv_aload_n hx hb dX8_countShared_17 rfl (lv_at hl 1 rfl) (hp_n (n := 18) rfl ?_)
        refine q_geti (κ := 9) (k := 3) (φ := 453) (pc' := 21) C Bh_4 (cw_k Bh_4.2.2 k1) fl_X8_22 rfl rfl rfl dX8_countShared_18 rfl (fun x_5 ex_5 => ?_)
        obtain ⟨gx_5a, gx_5b⟩ : 0 ≤ x_5.toInt ∧ x_5.toInt ≤ 64 := by rw [ex_5]; exact Bh_4.2.2.1.1 453 a1 rfl
        refine lv_icmp_ge (tgt := 61) hx hb dX8_countShared_21 (by decide) (fun c_6 => ?_) (fun c_6 => hp_n (n := 24) rfl ?_)
        ·
          have jc_6 := il_le c_6
          obtain ⟨x_7, ex_7⟩ : ∃ y : Int32, y = v3_h_1 + 1 := ⟨_, rfl⟩
          have qx_7 : x_7.toInt = v3_h_1.toInt + 1 := by have q0 := ib_hi x_2; have qa := ib_lo v3_h_1; rw [ex_7]; exact ii_add (by omega) (by omega)
          refine lv_iinc (v := x_7) (lv' := [(3, .int x_7), (0, .ref a0), (1, .ref a1), (2, .int v2_h_4), (4, .int v4_h_4)]) hx hb dX8_countShared_61 hl (k := 3) rfl (by rw [ex_7]; rfl) (by decide) rfl (fun ls hl => hp_n (n := 64) rfl ?_)
          refine lv_goto (tgt := 4) hx hb dX8_countShared_64 (by decide) ?_
          exact ih4 _ (by have q0 := ib_hi x_2; have q1 := ib_lo x_2; have qa := ib_hi v3_h_1; have qb := ib_lo v3_h_1; have qc : (v3_h_1 + 1).toInt = v3_h_1.toInt + (1 : Int32).toInt := ii_add (by omega) (by omega); rw [ex_7]; omega) Hh_4 Lh_4 Bh_4 v2_h_4 x_7 (by omega) ls (lv_sub hl [1, 2, 3, 0] rfl) rfl
        ·
          have jc_6 := il_nle c_6
          refine lv_aload_n hx hb dX8_countShared_24 rfl (lv_at hl 0 rfl) (hp_n (n := 25) rfl ?_)
          refine lv_iload_n hx hb dX8_countShared_25 rfl (lv_at hl 3 rfl) (hp_n (n := 26) rfl ?_)
          refine q_ci (pc' := 29) Bh_4 (hp_runV (As := [.int v3_h_1]) (rest := []) C Bh_4 (t_X8_firstAt Γ l α Bh_4.2.2.1 a0 (cw_k Bh_4.2.2 k0) v3_h_1) lb_X8_firstAt lv_X8_firstAt lk_X8_52 (cw_k Bh_4.2.2 k0) rfl (by decide) rfl hl.1 rfl (Nat.le_of_ble_eq_true rfl) dX8_countShared_26 ⟨Nat.le_refl _, Nat.le_refl _⟩) (fun _ _ h => by rw [h]; exact Bh_4.2.2) rfl (fun rh_8 αh_8 Hh_8 Lh_8 ph_8 Bh_8 => ?_)
          rw [ph_8] at Bh_8
          refine lv_aload_n hx hb dX8_countShared_29 rfl (lv_at hl 1 rfl) (hp_n (n := 30) rfl ?_)
          refine lv_iload hx hb dX8_countShared_30 (lv_at hl 4 rfl) (hp_n (n := 32) rfl ?_)
          refine q_ci (pc' := 35) Bh_8 (hp_runV (As := [.int v4_h_4]) (rest := [.int rh_8]) C Bh_8 (t_X8_firstAt Γ l α Bh_8.2.2.1 a1 (cw_k Bh_8.2.2 k1) v4_h_4) lb_X8_firstAt lv_X8_firstAt lk_X8_52 (cw_k Bh_8.2.2 k1) rfl (by decide) rfl hl.1 rfl (Nat.le_of_ble_eq_true rfl) dX8_countShared_32 ⟨Nat.le_refl _, Nat.le_refl _⟩) (fun _ _ h => by rw [h]; exact Bh_8.2.2) rfl (fun rh_9 αh_9 Hh_9 Lh_9 ph_9 Bh_9 => ?_)
          rw [ph_9] at Bh_9
          refine lv_icmp_ne (tgt := 55) hx hb dX8_countShared_35 (by decide) (fun c_10 => ?_) (fun c_10 => hp_n (n := 38) rfl ?_)
          ·
            have jc_10 := il_ne c_10
            obtain ⟨x_11, ex_11⟩ : ∃ y : Int32, y = v4_h_4 + 1 := ⟨_, rfl⟩
            have qx_11 : x_11.toInt = v4_h_4.toInt + 1 := by have q0 := ib_hi x_5; have qa := ib_lo v4_h_4; rw [ex_11]; exact ii_add (by omega) (by omega)
            refine lv_iinc (v := x_11) (lv' := [(4, .int x_11), (0, .ref a0), (1, .ref a1), (2, .int v2_h_4), (3, .int v3_h_1)]) hx hb dX8_countShared_55 hl (k := 4) rfl (by rw [ex_11]; rfl) (by decide) rfl (fun ls hl => hp_n (n := 58) rfl ?_)
            refine lv_goto (tgt := 15) hx hb dX8_countShared_58 (by decide) ?_
            exact ih15 _ (by have q0 := ib_hi x_5; have q1 := ib_lo x_5; have qa := ib_hi v4_h_4; have qb := ib_lo v4_h_4; have qc : (v4_h_4 + 1).toInt = v4_h_4.toInt + (1 : Int32).toInt := ii_add (by omega) (by omega); rw [ex_11]; omega) Hh_9 Lh_9 Bh_9 v2_h_4 x_11 (by omega) ls (lv_sub hl [1, 2, 3, 4, 0] rfl) rfl
          ·
            have jc_10 := il_eq c_10
            refine lv_aload_n hx hb dX8_countShared_38 rfl (lv_at hl 0 rfl) (hp_n (n := 39) rfl ?_)
            refine lv_iload_n hx hb dX8_countShared_39 rfl (lv_at hl 3 rfl) (hp_n (n := 40) rfl ?_)
            refine q_ci (pc' := 43) Bh_9 (hp_runV (As := [.int v3_h_1]) (rest := []) C Bh_9 (t_X8_manyAt Γ l α Bh_9.2.2.1 a0 (cw_k Bh_9.2.2 k0) v3_h_1) lb_X8_manyAt lv_X8_manyAt lk_X8_55 (cw_k Bh_9.2.2 k0) rfl (by decide) rfl hl.1 rfl (Nat.le_of_ble_eq_true rfl) dX8_countShared_40 ⟨Nat.le_refl _, Nat.le_refl _⟩) (fun _ _ h => by rw [h]; exact Bh_9.2.2) rfl (fun rh_12 αh_12 Hh_12 Lh_12 ph_12 Bh_12 => ?_)
            rw [ph_12] at Bh_12
            refine lv_aload_n hx hb dX8_countShared_43 rfl (lv_at hl 1 rfl) (hp_n (n := 44) rfl ?_)
            refine lv_iload hx hb dX8_countShared_44 (lv_at hl 4 rfl) (hp_n (n := 46) rfl ?_)
            refine q_ci (pc' := 49) Bh_12 (hp_runV (As := [.int v4_h_4]) (rest := [.int rh_12]) C Bh_12 (t_X8_manyAt Γ l α Bh_12.2.2.1 a1 (cw_k Bh_12.2.2 k1) v4_h_4) lb_X8_manyAt lv_X8_manyAt lk_X8_55 (cw_k Bh_12.2.2 k1) rfl (by decide) rfl hl.1 rfl (Nat.le_of_ble_eq_true rfl) dX8_countShared_46 ⟨Nat.le_refl _, Nat.le_refl _⟩) (fun _ _ h => by rw [h]; exact Bh_12.2.2) rfl (fun rh_13 αh_13 Hh_13 Lh_13 ph_13 Bh_13 => ?_)
            rw [ph_13] at Bh_13
            refine lv_icmp_ne (tgt := 55) hx hb dX8_countShared_49 (by decide) (fun c_14 => ?_) (fun c_14 => hp_n (n := 52) rfl ?_)
            ·
              have jc_14 := il_ne c_14
              obtain ⟨x_15, ex_15⟩ : ∃ y : Int32, y = v4_h_4 + 1 := ⟨_, rfl⟩
              have qx_15 : x_15.toInt = v4_h_4.toInt + 1 := by have q0 := ib_hi x_5; have qa := ib_lo v4_h_4; rw [ex_15]; exact ii_add (by omega) (by omega)
              refine lv_iinc (v := x_15) (lv' := [(4, .int x_15), (0, .ref a0), (1, .ref a1), (2, .int v2_h_4), (3, .int v3_h_1)]) hx hb dX8_countShared_55 hl (k := 4) rfl (by rw [ex_15]; rfl) (by decide) rfl (fun ls hl => hp_n (n := 58) rfl ?_)
              refine lv_goto (tgt := 15) hx hb dX8_countShared_58 (by decide) ?_
              exact ih15 _ (by have q0 := ib_hi x_5; have q1 := ib_lo x_5; have qa := ib_hi v4_h_4; have qb := ib_lo v4_h_4; have qc : (v4_h_4 + 1).toInt = v4_h_4.toInt + (1 : Int32).toInt := ii_add (by omega) (by omega); rw [ex_15]; omega) Hh_13 Lh_13 Bh_13 v2_h_4 x_15 (by omega) ls (lv_sub hl [1, 2, 3, 4, 0] rfl) rfl
            ·
              have jc_14 := il_eq c_14
              obtain ⟨x_16, ex_16⟩ : ∃ y : Int32, y = v2_h_4 + 1 := ⟨_, rfl⟩
              refine lv_iinc (v := x_16) (lv' := [(2, .int x_16), (0, .ref a0), (1, .ref a1), (3, .int v3_h_1), (4, .int v4_h_4)]) hx hb dX8_countShared_52 hl (k := 2) rfl (by rw [ex_16]; rfl) (by decide) rfl (fun ls hl => hp_n (n := 55) rfl ?_)
              obtain ⟨x_17, ex_17⟩ : ∃ y : Int32, y = v4_h_4 + 1 := ⟨_, rfl⟩
              have qx_17 : x_17.toInt = v4_h_4.toInt + 1 := by have q0 := ib_hi x_5; have qa := ib_lo v4_h_4; rw [ex_17]; exact ii_add (by omega) (by omega)
              refine lv_iinc (v := x_17) (lv' := [(4, .int x_17), (2, .int x_16), (0, .ref a0), (1, .ref a1), (3, .int v3_h_1)]) hx hb dX8_countShared_55 hl (k := 4) rfl (by rw [ex_17]; rfl) (by decide) rfl (fun ls hl => hp_n (n := 58) rfl ?_)
              refine lv_goto (tgt := 15) hx hb dX8_countShared_58 (by decide) ?_
              exact ih15 _ (by have q0 := ib_hi x_5; have q1 := ib_lo x_5; have qa := ib_hi v4_h_4; have qb := ib_lo v4_h_4; have qc : (v4_h_4 + 1).toInt = v4_h_4.toInt + (1 : Int32).toInt := ii_add (by omega) (by omega); rw [ex_17]; omega) Hh_13 Lh_13 Bh_13 x_16 x_17 (by omega) ls (lv_sub hl [2, 3, 1, 4, 0] rfl) rfl
      refine lv_istore (lv' := [(4, .int 0), (0, .ref a0), (1, .ref a1), (2, .int v2_h_1), (3, .int v3_h_1)]) hx hb dX8_countShared_13 hl (by decide) rfl (fun ls hl => hp_n (n := 15) rfl ?_)
      exact J15 _ Hh_1 Lh_1 Bh_1 v2_h_1 0 (by omega) ls (lv_sub hl [1, 2, 3, 4, 0] rfl) rfl
  refine lv_istore_n (lv' := [(3, .int 0), (2, .int 0), (0, .ref a0), (1, .ref a1)]) hx hb dX8_countShared_3 rfl hl (by decide) rfl (fun ls hl => hp_n (n := 4) rfl ?_)
  exact J4 _ s.heap [] B 0 0 (by omega) ls (lv_sub hl [2, 3, 1, 0] rfl) rfl
abbrev w_X8_joined : cw_W := ([], [], [], [])
set_option maxRecDepth 100000 in
set_option maxHeartbeats 4000000 in
theorem t_X8_joined (Γ : hp_G) (l : Launch) (α : hp_T) (g : GC α) (a0 : Nat) (k0 : hp_K α a0 = 9) (a1 : Int32) (a2 : Int32) (a3 : Int32) (a4 : Int32) : Met l yX8_joined (hp_ws yX8_joined cX8_joined 5 (some .int)) (hp_rm 1 0 0) (hp_Pc Γ α [.ref a0, .int a1, .int a2, .int a3, .int a4]) (hp_Qi Γ (fun r β => β = α)) 0 0 (hp_A Γ) := by
  refine hp_start (by decide) ?_
  intro p e s m below meth c C hr hlk B0 hnm
  have C : hp_C Γ p m c cX8_joined 5 s ([.ref a0, .int a1, .int a2, .int a3, .int a4] : List Value).toArray RX8 := C
  have hx := C.1.1
  have hb := C.1.2.1
  have hown := C.1.2.2.2.1
  have hts := C.1.2.2.2.2
  have B : hp_B Γ (cw w_X8_joined) s α α s.heap [] := ⟨B0.1, B0.2.1, cw_rf g⟩
  have lit0 : (0 : Int32).toInt = 0 := by decide
  have hl := lv_entry ([.ref a0, .int a1, .int a2, .int a3, .int a4]) (n := 5) (Nat.le_of_ble_eq_true rfl)
  show W p l e (hp_rm 1 0 0) s m ([.ref a0, .int a1, .int a2, .int a3, .int a4] : List Value).toArray below meth c s.heap [] 0 0 (MQ below (hp_Qi Γ (fun r β => β = α)) ([.ref a0, .int a1, .int a2, .int a3, .int a4] : List Value).toArray s 0 0 (hp_A Γ)) (entryFrame m ([.ref a0, .int a1, .int a2, .int a3, .int a4] : List Value).toArray 5)
  rw [lg_entry_eq]
  generalize (lg_sl ([.ref a0, .int a1, .int a2, .int a3, .int a4]) ++ List.replicate (5 - (lg_sl ([.ref a0, .int a1, .int a2, .int a3, .int a4])).length) Slot.unset).toArray = ls at hl ⊢
  have hl : lv_has ls 5 [(0, .ref a0), (1, .int a1), (2, .int a2), (3, .int a3), (4, .int a4)] := hl
  refine lv_aload_n hx hb dX8_joined_0 rfl (lv_at hl 0 rfl) (hp_n (n := 1) rfl ?_)
  refine lv_iload_n hx hb dX8_joined_1 rfl (lv_at hl 2 rfl) (hp_n (n := 2) rfl ?_)
  refine q_ci (pc' := 5) B (hp_runV (As := [.int a2]) (rest := []) C B (t_X8_isAhead Γ l α B.2.2.1 a0 (cw_k B.2.2 k0) a2) lb_X8_isAhead lv_X8_isAhead lk_X8_58 (cw_k B.2.2 k0) rfl (by decide) rfl hl.1 rfl (Nat.le_of_ble_eq_true rfl) dX8_joined_2 ⟨Nat.le_refl _, Nat.le_refl _⟩) (fun _ _ h => by rw [h.1]; exact B.2.2) rfl (fun rh_1 αh_1 Hh_1 Lh_1 ph_1 Bh_1 => ?_)
  rw [ph_1.1] at Bh_1
  have zh_1 := ph_1.2
  refine lv_if_eq (tgt := 18) hx hb dX8_joined_5 (by decide) (fun c_2 => ?_) (fun c_2 => hp_n (n := 8) rfl ?_)
  ·
    have jc_2 := il_eq c_2
    refine lv_iload_n hx hb dX8_joined_18 rfl (lv_at hl 1 rfl) (hp_n (n := 19) rfl ?_)
    refine lv_iload_n hx hb dX8_joined_19 rfl (lv_at hl 3 rfl) (hp_n (n := 20) rfl ?_)
    refine lv_iload hx hb dX8_joined_20 (lv_at hl 4 rfl) (hp_n (n := 22) rfl ?_)
    refine q_ci (pc' := 25) Bh_1 (hp_runS (As := [.int a1, .int a3, .int a4]) (rest := []) C Bh_1 (t_X11_markOfTwo Γ l α Bh_1.2.2.1 a1 a3 a4) lb_X11_markOfTwo ls_X11_markOfTwo lk_X8_62 rfl (by decide) rfl hl.1 rfl (Nat.le_of_ble_eq_true rfl) dX8_joined_22 ⟨Nat.le_refl _, Nat.le_refl _⟩) (fun _ _ h => by rw [h]; exact Bh_1.2.2) rfl (fun rh_3 αh_3 Hh_3 Lh_3 ph_3 Bh_3 => ?_)
    rw [ph_3] at Bh_3
    exact q_iret C Bh_3 hr hlk rfl dX8_joined_25
  ·
    have jc_2 := il_ne c_2
    refine lv_iload_n hx hb dX8_joined_8 rfl (lv_at hl 1 rfl) (hp_n (n := 9) rfl ?_)
    refine lv_iload hx hb dX8_joined_9 (lv_at hl 4 rfl) (hp_n (n := 11) rfl ?_)
    refine lv_iload_n hx hb dX8_joined_11 rfl (lv_at hl 3 rfl) (hp_n (n := 12) rfl ?_)
    refine q_ci (pc' := 15) Bh_1 (hp_runS (As := [.int a1, .int a4, .int a3]) (rest := []) C Bh_1 (t_X11_markOfTwo Γ l α Bh_1.2.2.1 a1 a4 a3) lb_X11_markOfTwo ls_X11_markOfTwo lk_X8_62 rfl (by decide) rfl hl.1 rfl (Nat.le_of_ble_eq_true rfl) dX8_joined_12 ⟨Nat.le_refl _, Nat.le_refl _⟩) (fun _ _ h => by rw [h]; exact Bh_1.2.2) rfl (fun rh_4 αh_4 Hh_4 Lh_4 ph_4 Bh_4 => ?_)
    rw [ph_4] at Bh_4
    refine lv_goto (tgt := 25) hx hb dX8_joined_15 (by decide) ?_
    exact q_iret C Bh_4 hr hlk rfl dX8_joined_25
abbrev w_X8_folded : cw_W := ([], [], [], [])
set_option maxRecDepth 100000 in
set_option maxHeartbeats 4000000 in
theorem t_X8_folded (Γ : hp_G) (l : Launch) (α : hp_T) (g : GC α) (a0 : Nat) (k0 : hp_K α a0 = 9) (a1 : Int32) (a2 : Nat) (k2 : hp_K α a2 = 6) (a3 : Int32) (a4 : Int32) : Met l yX8_folded (hp_ws yX8_folded cX8_folded 7 (some .int)) (hp_rm 2 0 0) (hp_Pc Γ α [.ref a0, .int a1, .ref a2, .int a3, .int a4]) (hp_Qi Γ (fun r β => β = α)) 0 0 (hp_A Γ) := by
  refine hp_start (by decide) ?_
  intro p e s m below meth c C hr hlk B0 hnm
  have C : hp_C Γ p m c cX8_folded 7 s ([.ref a0, .int a1, .ref a2, .int a3, .int a4] : List Value).toArray RX8 := C
  have hx := C.1.1
  have hb := C.1.2.1
  have hown := C.1.2.2.2.1
  have hts := C.1.2.2.2.2
  have B : hp_B Γ (cw w_X8_folded) s α α s.heap [] := ⟨B0.1, B0.2.1, cw_rf g⟩
  have lit0 : (0 : Int32).toInt = 0 := by decide
  have lit1 : (1 : Int32).toInt = 1 := by decide
  have hl := lv_entry ([.ref a0, .int a1, .ref a2, .int a3, .int a4]) (n := 7) (Nat.le_of_ble_eq_true rfl)
  show W p l e (hp_rm 2 0 0) s m ([.ref a0, .int a1, .ref a2, .int a3, .int a4] : List Value).toArray below meth c s.heap [] 0 0 (MQ below (hp_Qi Γ (fun r β => β = α)) ([.ref a0, .int a1, .ref a2, .int a3, .int a4] : List Value).toArray s 0 0 (hp_A Γ)) (entryFrame m ([.ref a0, .int a1, .ref a2, .int a3, .int a4] : List Value).toArray 7)
  rw [lg_entry_eq]
  generalize (lg_sl ([.ref a0, .int a1, .ref a2, .int a3, .int a4]) ++ List.replicate (7 - (lg_sl ([.ref a0, .int a1, .ref a2, .int a3, .int a4])).length) Slot.unset).toArray = ls at hl ⊢
  have hl : lv_has ls 7 [(0, .ref a0), (1, .int a1), (2, .ref a2), (3, .int a3), (4, .int a4)] := hl
  refine lv_iload_n hx hb dX8_folded_0 rfl (lv_at hl 3 rfl) (hp_n (n := 1) rfl ?_)
  refine lv_istore (lv' := [(5, .int a3), (0, .ref a0), (1, .int a1), (2, .ref a2), (3, .int a3), (4, .int a4)]) hx hb dX8_folded_1 hl (by decide) rfl (fun ls hl => hp_n (n := 3) rfl ?_)
  refine lv_iconst (v := 0) hx hb dX8_folded_3 (by decide) (hp_n (n := 4) rfl ?_)
  have J6 : ∀ (nq : Nat) (Hh_1 : Heap) (Lh_1 : List Loc) (Bh_1 : hp_B Γ (cw w_X8_folded) s α α Hh_1 Lh_1) (v5_h_1 : Int32) (v6_h_1 : Int32) (ih_1_0 : 0 ≤ v6_h_1.toInt) (ls : Array Slot) (hl : lv_has ls 7 [(0, .ref a0), (1, .int a1), (2, .ref a2), (4, .int a4), (5, .int v5_h_1), (6, .int v6_h_1)]) (hmu6 : (2147483647 - v6_h_1.toInt).toNat = nq), W p l e (hp_rm 2 0 0) s m ([.ref a0, .int a1, .ref a2, .int a3, .int a4] : List Value).toArray below meth c Hh_1 Lh_1 0 0 (MQ below (hp_Qi Γ (fun r β => β = α)) ([.ref a0, .int a1, .ref a2, .int a3, .int a4] : List Value).toArray s 0 0 (hp_A Γ)) (F0 m 6 ls []) := by
    intro nq
    induction nq using Nat.strongRecOn with
    | ind nq ih6 =>
    intro Hh_1 Lh_1 Bh_1 v5_h_1 v6_h_1 ih_1_0 ls hl hmu6
    have inv6_0 := ih_1_0
    refine lv_iload hx hb dX8_folded_6 (lv_at hl 5 rfl) (hp_n (n := 8) rfl ?_)
    refine lv_iload hx hb dX8_folded_8 (lv_at hl 3 rfl) (hp_n (n := 10) rfl ?_)
    refine lv_icmp_ge (tgt := 45) hx hb dX8_folded_10 (by decide) (fun c_2 => ?_) (fun c_2 => hp_n (n := 13) rfl ?_)
    ·
      have jc_2 := il_le c_2
      refine lv_iload hx hb dX8_folded_45 (lv_at hl 4 rfl) (hp_n (n := 47) rfl ?_)
      exact q_iret C Bh_1 hr hlk rfl dX8_folded_47
    ·
      have jc_2 := il_nle c_2
      refine lv_iload hx hb dX8_folded_13 (lv_at hl 5 rfl) (hp_n (n := 15) rfl ?_)
      refine lv_aload_n hx hb dX8_folded_15 rfl (lv_at hl 0 rfl) (hp_n (n := 16) rfl ?_)
      refine q_geti (κ := 9) (k := 3) (φ := 453) (pc' := 19) C Bh_1 (cw_k Bh_1.2.2 k0) fl_X8_22 rfl rfl rfl dX8_folded_16 rfl (fun x_3 ex_3 => ?_)
      obtain ⟨gx_3a, gx_3b⟩ : 0 ≤ x_3.toInt ∧ x_3.toInt ≤ 64 := by rw [ex_3]; exact Bh_1.2.2.1.1 453 a0 rfl
      refine lv_icmp_ge (tgt := 45) hx hb dX8_folded_19 (by decide) (fun c_4 => ?_) (fun c_4 => hp_n (n := 22) rfl ?_)
      ·
        have jc_4 := il_le c_4
        refine lv_iload hx hb dX8_folded_45 (lv_at hl 4 rfl) (hp_n (n := 47) rfl ?_)
        exact q_iret C Bh_1 hr hlk rfl dX8_folded_47
      ·
        have jc_4 := il_nle c_4
        refine lv_aload_n hx hb dX8_folded_22 rfl (lv_at hl 0 rfl) (hp_n (n := 23) rfl ?_)
        refine lv_iload_n hx hb dX8_folded_23 rfl (lv_at hl 1 rfl) (hp_n (n := 24) rfl ?_)
        refine lv_iload hx hb dX8_folded_24 (lv_at hl 5 rfl) (hp_n (n := 26) rfl ?_)
        refine lv_iload hx hb dX8_folded_26 (lv_at hl 4 rfl) (hp_n (n := 28) rfl ?_)
        refine lv_aload_n hx hb dX8_folded_28 rfl (lv_at hl 2 rfl) (hp_n (n := 29) rfl ?_)
        refine lv_iload hx hb dX8_folded_29 (lv_at hl 5 rfl) (hp_n (n := 31) rfl ?_)
        refine q_ci (pc' := 34) Bh_1 (hp_runV (As := [.int v6_h_1]) (rest := [.int v5_h_1, .int v6_h_1, .int a1, .ref a0]) C Bh_1 (t_X5_at Γ l α Bh_1.2.2.1 a2 (cw_k Bh_1.2.2 k2) v6_h_1) lb_X5_at lv_X5_at lk_X8_65 (cw_k Bh_1.2.2 k2) rfl (by decide) rfl hl.1 rfl (Nat.le_of_ble_eq_true rfl) dX8_folded_31 ⟨Nat.le_refl _, Nat.le_refl _⟩) (fun _ _ h => by rw [h]; exact Bh_1.2.2) rfl (fun rh_5 αh_5 Hh_5 Lh_5 ph_5 Bh_5 => ?_)
        rw [ph_5] at Bh_5
        refine q_ci (pc' := 37) Bh_5 (hp_runV (As := [.int a1, .int v6_h_1, .int v5_h_1, .int rh_5]) (rest := []) C Bh_5 (t_X8_joined Γ l α Bh_5.2.2.1 a0 (cw_k Bh_5.2.2 k0) a1 v6_h_1 v5_h_1 rh_5) lb_X8_joined lv_X8_joined lk_X8_70 (cw_k Bh_5.2.2 k0) rfl (by decide) rfl hl.1 rfl (Nat.le_of_ble_eq_true rfl) dX8_folded_34 ⟨Nat.le_refl _, Nat.le_refl _⟩) (fun _ _ h => by rw [h]; exact Bh_5.2.2) rfl (fun rh_6 αh_6 Hh_6 Lh_6 ph_6 Bh_6 => ?_)
        rw [ph_6] at Bh_6
        refine lv_istore (lv' := [(5, .int rh_6), (0, .ref a0), (1, .int a1), (2, .ref a2), (4, .int a4), (6, .int v6_h_1)]) hx hb dX8_folded_37 hl (by decide) rfl (fun ls hl => hp_n (n := 39) rfl ?_)
        obtain ⟨x_7, ex_7⟩ : ∃ y : Int32, y = v6_h_1 + 1 := ⟨_, rfl⟩
        have qx_7 : x_7.toInt = v6_h_1.toInt + 1 := by have q0 := ib_hi a4; have q1 := ib_hi x_3; have qa := ib_lo v6_h_1; rw [ex_7]; exact ii_add (by omega) (by omega)
        refine lv_iinc (v := x_7) (lv' := [(6, .int x_7), (5, .int rh_6), (0, .ref a0), (1, .int a1), (2, .ref a2), (4, .int a4)]) hx hb dX8_folded_39 hl (k := 5) rfl (by rw [ex_7]; rfl) (by decide) rfl (fun ls hl => hp_n (n := 42) rfl ?_)
        refine lv_goto (tgt := 6) hx hb dX8_folded_42 (by decide) ?_
        exact ih6 _ (by have q0 := ib_hi a4; have q1 := ib_lo a4; have q2 := ib_hi x_3; have q3 := ib_lo x_3; have qa := ib_hi v6_h_1; have qb := ib_lo v6_h_1; have qc : (v6_h_1 + 1).toInt = v6_h_1.toInt + (1 : Int32).toInt := ii_add (by omega) (by omega); rw [ex_7]; omega) Hh_6 Lh_6 Bh_6 rh_6 x_7 (by omega) ls (lv_sub hl [2, 3, 4, 5, 1, 0] rfl) rfl
  refine lv_istore (lv' := [(6, .int 0), (5, .int a3), (0, .ref a0), (1, .int a1), (2, .ref a2), (3, .int a3), (4, .int a4)]) hx hb dX8_folded_4 hl (by decide) rfl (fun ls hl => hp_n (n := 6) rfl ?_)
  exact J6 _ s.heap [] B a3 0 (by omega) ls (lv_sub hl [2, 3, 4, 6, 1, 0] rfl) rfl
abbrev w_X8_whyInclusion : cw_W := ([], [], [], [])
set_option maxRecDepth 100000 in
set_option maxHeartbeats 4000000 in
theorem t_X8_whyInclusion (Γ : hp_G) (l : Launch) (α : hp_T) (g : GC α) (a0 : Nat) (k0 : hp_K α a0 = 9) (a1 : Int32) (a2 : Nat) (k2 : hp_K α a2 = 6) (a3 : Int32) (a4 : Int32) : Met l yX8_whyInclusion (hp_ws yX8_whyInclusion cX8_whyInclusion 5 (some .int)) (hp_rm 3 0 0) (hp_Pc Γ α [.ref a0, .int a1, .ref a2, .int a3, .int a4]) (hp_Qi Γ (fun r β => β = α)) 0 0 (hp_A Γ) := by
  refine hp_start (by decide) ?_
  intro p e s m below meth c C hr hlk B0 hnm
  have C : hp_C Γ p m c cX8_whyInclusion 5 s ([.ref a0, .int a1, .ref a2, .int a3, .int a4] : List Value).toArray RX8 := C
  have hx := C.1.1
  have hb := C.1.2.1
  have hown := C.1.2.2.2.1
  have hts := C.1.2.2.2.2
  have B : hp_B Γ (cw w_X8_whyInclusion) s α α s.heap [] := ⟨B0.1, B0.2.1, cw_rf g⟩
  have lit0 : (0 : Int32).toInt = 0 := by decide
  have lit1 : (1 : Int32).toInt = 1 := by decide
  have lit2 : (2 : Int32).toInt = 2 := by decide
  have lit3 : (3 : Int32).toInt = 3 := by decide
  have hl := lv_entry ([.ref a0, .int a1, .ref a2, .int a3, .int a4]) (n := 5) (Nat.le_of_ble_eq_true rfl)
  show W p l e (hp_rm 3 0 0) s m ([.ref a0, .int a1, .ref a2, .int a3, .int a4] : List Value).toArray below meth c s.heap [] 0 0 (MQ below (hp_Qi Γ (fun r β => β = α)) ([.ref a0, .int a1, .ref a2, .int a3, .int a4] : List Value).toArray s 0 0 (hp_A Γ)) (entryFrame m ([.ref a0, .int a1, .ref a2, .int a3, .int a4] : List Value).toArray 5)
  rw [lg_entry_eq]
  generalize (lg_sl ([.ref a0, .int a1, .ref a2, .int a3, .int a4]) ++ List.replicate (5 - (lg_sl ([.ref a0, .int a1, .ref a2, .int a3, .int a4])).length) Slot.unset).toArray = ls at hl ⊢
  have hl : lv_has ls 5 [(0, .ref a0), (1, .int a1), (2, .ref a2), (3, .int a3), (4, .int a4)] := hl
  refine lv_aload_n hx hb dX8_whyInclusion_0 rfl (lv_at hl 2 rfl) (hp_n (n := 1) rfl ?_)
  refine q_geti (κ := 6) (k := 1) (φ := 301) (pc' := 4) C B (cw_k B.2.2 k2) fl_X8_74 rfl rfl rfl dX8_whyInclusion_1 rfl (fun x_1 ex_1 => ?_)
  refine lv_aload_n hx hb dX8_whyInclusion_4 rfl (lv_at hl 0 rfl) (hp_n (n := 5) rfl ?_)
  refine q_geti (κ := 9) (k := 3) (φ := 453) (pc' := 8) C B (cw_k B.2.2 k0) fl_X8_22 rfl rfl rfl dX8_whyInclusion_5 rfl (fun x_2 ex_2 => ?_)
  obtain ⟨gx_2a, gx_2b⟩ : 0 ≤ x_2.toInt ∧ x_2.toInt ≤ 64 := by rw [ex_2]; exact B.2.2.1.1 453 a0 rfl
  refine lv_icmp_eq (tgt := 28) hx hb dX8_whyInclusion_8 (by decide) (fun c_3 => ?_) (fun c_3 => hp_n (n := 11) rfl ?_)
  ·
    have jc_3 := il_eq c_3
    refine lv_aload_n hx hb dX8_whyInclusion_28 rfl (lv_at hl 0 rfl) (hp_n (n := 29) rfl ?_)
    refine lv_iload_n hx hb dX8_whyInclusion_29 rfl (lv_at hl 1 rfl) (hp_n (n := 30) rfl ?_)
    refine lv_aload_n hx hb dX8_whyInclusion_30 rfl (lv_at hl 2 rfl) (hp_n (n := 31) rfl ?_)
    refine lv_iload_n hx hb dX8_whyInclusion_31 rfl (lv_at hl 3 rfl) (hp_n (n := 32) rfl ?_)
    refine lv_aload_n hx hb dX8_whyInclusion_32 rfl (lv_at hl 0 rfl) (hp_n (n := 33) rfl ?_)
    refine q_getj (κ := 9) (k := 3) (φ := 453) (pc' := 36) C B (cw_k B.2.2 k0) fl_X8_22 rfl rfl rfl ex_2 dX8_whyInclusion_33 rfl ?_
    refine q_ci (pc' := 39) B (hp_runV (As := [.int a1, .ref a2, .int a3, .int x_2]) (rest := []) C B (t_X8_folded Γ l α B.2.2.1 a0 (cw_k B.2.2 k0) a1 a2 (cw_k B.2.2 k2) a3 x_2) lb_X8_folded lv_X8_folded lk_X8_75 (cw_k B.2.2 k0) rfl (by decide) rfl hl.1 rfl (Nat.le_of_ble_eq_true rfl) dX8_whyInclusion_36 ⟨Nat.le_refl _, Nat.le_refl _⟩) (fun _ _ h => by rw [h]; exact B.2.2) rfl (fun rh_4 αh_4 Hh_4 Lh_4 ph_4 Bh_4 => ?_)
    rw [ph_4] at Bh_4
    refine lv_iload hx hb dX8_whyInclusion_39 (lv_at hl 4 rfl) (hp_n (n := 41) rfl ?_)
    refine lv_icmp_ne (tgt := 48) hx hb dX8_whyInclusion_41 (by decide) (fun c_5 => ?_) (fun c_5 => hp_n (n := 44) rfl ?_)
    ·
      have jc_5 := il_ne c_5
      refine lv_iconst (v := 3) hx hb dX8_whyInclusion_48 (by decide) (hp_n (n := 49) rfl ?_)
      exact q_iret C Bh_4 hr hlk rfl dX8_whyInclusion_49
    ·
      have jc_5 := il_eq c_5
      refine lv_iconst (v := 0) hx hb dX8_whyInclusion_44 (by decide) (hp_n (n := 45) rfl ?_)
      refine lv_goto (tgt := 49) hx hb dX8_whyInclusion_45 (by decide) ?_
      exact q_iret C Bh_4 hr hlk rfl dX8_whyInclusion_49
  ·
    have jc_3 := il_ne c_3
    refine lv_aload_n hx hb dX8_whyInclusion_11 rfl (lv_at hl 2 rfl) (hp_n (n := 12) rfl ?_)
    refine q_getj (κ := 6) (k := 1) (φ := 301) (pc' := 15) C B (cw_k B.2.2 k2) fl_X8_74 rfl rfl rfl ex_1 dX8_whyInclusion_12 rfl ?_
    refine lv_aload_n hx hb dX8_whyInclusion_15 rfl (lv_at hl 0 rfl) (hp_n (n := 16) rfl ?_)
    refine q_getj (κ := 9) (k := 3) (φ := 453) (pc' := 19) C B (cw_k B.2.2 k0) fl_X8_22 rfl rfl rfl ex_2 dX8_whyInclusion_16 rfl ?_
    refine lv_icmp_ge (tgt := 26) hx hb dX8_whyInclusion_19 (by decide) (fun c_6 => ?_) (fun c_6 => hp_n (n := 22) rfl ?_)
    ·
      have jc_6 := il_le c_6
      refine lv_iconst (v := 2) hx hb dX8_whyInclusion_26 (by decide) (hp_n (n := 27) rfl ?_)
      exact q_iret C B hr hlk rfl dX8_whyInclusion_27
    ·
      have jc_6 := il_nle c_6
      refine lv_iconst (v := 1) hx hb dX8_whyInclusion_22 (by decide) (hp_n (n := 23) rfl ?_)
      refine lv_goto (tgt := 27) hx hb dX8_whyInclusion_23 (by decide) ?_
      exact q_iret C B hr hlk rfl dX8_whyInclusion_27
abbrev w_X8_whyGrowth : cw_W := ([453, 454], [], [21, 22, 23], [])
set_option maxRecDepth 100000 in
set_option maxHeartbeats 4000000 in
theorem t_X8_whyGrowth (Γ : hp_G) (l : Launch) (α : hp_T) (g : GC α) (a0 : Nat) (k0 : hp_K α a0 = 9) (a1 : Int32) (a2 : Nat) (k2 : hp_K α a2 = 6) (a3 : Int32) (a4 : Int32) (a5 : Int32) (a6 : Int32) : Met l yX8_whyGrowth (hp_ws yX8_whyGrowth cX8_whyGrowth 10 (some .int)) (hp_rm 4 0 0) (hp_Pc Γ α [.ref a0, .int a1, .ref a2, .int a3, .int a4, .int a5, .int a6]) (hp_Qi Γ (fun r β => cw w_X8_whyGrowth α β)) 0 0 (hp_A Γ) := by
  refine hp_start (by decide) ?_
  intro p e s m below meth c C hr hlk B0 hnm
  have C : hp_C Γ p m c cX8_whyGrowth 10 s ([.ref a0, .int a1, .ref a2, .int a3, .int a4, .int a5, .int a6] : List Value).toArray RX8 := C
  have hx := C.1.1
  have hb := C.1.2.1
  have hown := C.1.2.2.2.1
  have hts := C.1.2.2.2.2
  have B : hp_B Γ (cw w_X8_whyGrowth) s α α s.heap [] := ⟨B0.1, B0.2.1, cw_rf g⟩
  have lit0 : (0 : Int32).toInt = 0 := by decide
  have lit1 : (1 : Int32).toInt = 1 := by decide
  have lit2 : (2 : Int32).toInt = 2 := by decide
  have lit3 : (3 : Int32).toInt = 3 := by decide
  have lit4 : (4 : Int32).toInt = 4 := by decide
  have hl := lv_entry ([.ref a0, .int a1, .ref a2, .int a3, .int a4, .int a5, .int a6]) (n := 10) (Nat.le_of_ble_eq_true rfl)
  show W p l e (hp_rm 4 0 0) s m ([.ref a0, .int a1, .ref a2, .int a3, .int a4, .int a5, .int a6] : List Value).toArray below meth c s.heap [] 0 0 (MQ below (hp_Qi Γ (fun r β => cw w_X8_whyGrowth α β)) ([.ref a0, .int a1, .ref a2, .int a3, .int a4, .int a5, .int a6] : List Value).toArray s 0 0 (hp_A Γ)) (entryFrame m ([.ref a0, .int a1, .ref a2, .int a3, .int a4, .int a5, .int a6] : List Value).toArray 10)
  rw [lg_entry_eq]
  generalize (lg_sl ([.ref a0, .int a1, .ref a2, .int a3, .int a4, .int a5, .int a6]) ++ List.replicate (10 - (lg_sl ([.ref a0, .int a1, .ref a2, .int a3, .int a4, .int a5, .int a6])).length) Slot.unset).toArray = ls at hl ⊢
  have hl : lv_has ls 10 [(0, .ref a0), (1, .int a1), (2, .ref a2), (3, .int a3), (4, .int a4), (5, .int a5), (6, .int a6)] := hl
  refine lv_aload_n hx hb dX8_whyGrowth_0 rfl (lv_at hl 0 rfl) (hp_n (n := 1) rfl ?_)
  refine lv_iload_n hx hb dX8_whyGrowth_1 rfl (lv_at hl 3 rfl) (hp_n (n := 2) rfl ?_)
  refine lv_iload hx hb dX8_whyGrowth_2 (lv_at hl 5 rfl) (hp_n (n := 4) rfl ?_)
  refine q_cv (pc' := 7) B (hp_runV (As := [.int a3, .int a5]) (rest := []) C B (t_X8_toGrowth Γ l α B.2.2.1 a0 (cw_k B.2.2 k0) a3 a5) lb_X8_toGrowth lv_X8_toGrowth lk_X8_79 (cw_k B.2.2 k0) rfl (by decide) rfl hl.1 rfl (Nat.le_of_ble_eq_true rfl) dX8_whyGrowth_4 ⟨Nat.le_refl _, Nat.le_refl _⟩) (fun _ h => cw_tr B.2.2 h (by decide)) rfl (fun αh_1 Hh_1 Lh_1 ph_1 Bh_1 => ?_)
  refine lv_aload_n hx hb dX8_whyGrowth_7 rfl (lv_at hl 2 rfl) (hp_n (n := 8) rfl ?_)
  refine q_geti (κ := 6) (k := 1) (φ := 301) (pc' := 11) C Bh_1 (cw_k Bh_1.2.2 k2) fl_X8_74 rfl rfl rfl dX8_whyGrowth_8 rfl (fun x_2 ex_2 => ?_)
  refine lv_aload_n hx hb dX8_whyGrowth_11 rfl (lv_at hl 0 rfl) (hp_n (n := 12) rfl ?_)
  refine q_geti (κ := 9) (k := 3) (φ := 453) (pc' := 15) C Bh_1 (cw_k Bh_1.2.2 k0) fl_X8_22 rfl rfl rfl dX8_whyGrowth_12 rfl (fun x_3 ex_3 => ?_)
  obtain ⟨gx_3a, gx_3b⟩ : 0 ≤ x_3.toInt ∧ x_3.toInt ≤ 64 := by rw [ex_3]; exact Bh_1.2.2.1.1 453 a0 rfl
  refine lv_icmp_eq (tgt := 35) hx hb dX8_whyGrowth_15 (by decide) (fun c_4 => ?_) (fun c_4 => hp_n (n := 18) rfl ?_)
  ·
    have jc_4 := il_eq c_4
    refine lv_iload_n hx hb dX8_whyGrowth_35 rfl (lv_at hl 3 rfl) (hp_n (n := 36) rfl ?_)
    refine lv_iload hx hb dX8_whyGrowth_36 (lv_at hl 5 rfl) (hp_n (n := 38) rfl ?_)
    refine lv_icmp_ne (tgt := 63) hx hb dX8_whyGrowth_38 (by decide) (fun c_5 => ?_) (fun c_5 => hp_n (n := 41) rfl ?_)
    ·
      have jc_5 := il_ne c_5
      refine lv_iload_n hx hb dX8_whyGrowth_63 rfl (lv_at hl 3 rfl) (hp_n (n := 64) rfl ?_)
      refine lv_if_ne (tgt := 78) hx hb dX8_whyGrowth_64 (by decide) (fun c_6 => ?_) (fun c_6 => hp_n (n := 67) rfl ?_)
      ·
        have jc_6 := il_ne c_6
        refine lv_aload_n hx hb dX8_whyGrowth_78 rfl (lv_at hl 0 rfl) (hp_n (n := 79) rfl ?_)
        refine q_geti (κ := 9) (k := 4) (φ := 454) (pc' := 82) C Bh_1 (cw_k Bh_1.2.2 k0) fl_X8_26 rfl rfl rfl dX8_whyGrowth_79 rfl (fun x_7 ex_7 => ?_)
        refine lv_if_eq (tgt := 93) hx hb dX8_whyGrowth_82 (by decide) (fun c_8 => ?_) (fun c_8 => hp_n (n := 85) rfl ?_)
        ·
          have jc_8 := il_eq c_8
          refine lv_iload hx hb dX8_whyGrowth_93 (lv_at hl 4 rfl) (hp_n (n := 95) rfl ?_)
          refine lv_istore (lv' := [(7, .int a4), (0, .ref a0), (1, .int a1), (2, .ref a2), (3, .int a3), (4, .int a4), (5, .int a5), (6, .int a6)]) hx hb dX8_whyGrowth_95 hl (by decide) rfl (fun ls hl => hp_n (n := 97) rfl ?_)
          refine lv_iload hx hb dX8_whyGrowth_97 (lv_at hl 0 rfl) (hp_n (n := 99) rfl ?_)
          refine lv_istore (lv' := [(8, .int a4), (7, .int a4), (0, .ref a0), (1, .int a1), (2, .ref a2), (3, .int a3), (4, .int a4), (5, .int a5), (6, .int a6)]) hx hb dX8_whyGrowth_99 hl (by decide) rfl (fun ls hl => hp_n (n := 101) rfl ?_)
          refine lv_aload_n hx hb dX8_whyGrowth_101 rfl (lv_at hl 2 rfl) (hp_n (n := 102) rfl ?_)
          refine q_getj (κ := 9) (k := 4) (φ := 454) (pc' := 105) C Bh_1 (cw_k Bh_1.2.2 k0) fl_X8_26 rfl rfl rfl ex_7 dX8_whyGrowth_102 rfl ?_
          refine lv_if_eq (tgt := 112) hx hb dX8_whyGrowth_105 (by decide) (fun c_9 => ?_) (fun c_9 => hp_n (n := 108) rfl ?_)
          ·
            have jc_9 := il_eq c_9
            refine lv_iconst (v := 0) hx hb dX8_whyGrowth_112 (by decide) (hp_n (n := 113) rfl ?_)
            have J115 : ∀ (nq : Nat) (Hh_10 : Heap) (Lh_10 : List Loc) (Bh_10 : hp_B Γ (cw w_X8_whyGrowth) s α αh_1 Hh_10 Lh_10) (v7_h_10 : Int32) (v8_h_10 : Int32) (v9_h_10 : Int32) (ih_10_0 : 0 ≤ v9_h_10.toInt) (ls : Array Slot) (hl : lv_has ls 10 [(0, .ref a0), (1, .int a1), (2, .ref a2), (4, .int a4), (6, .int a6), (7, .int v7_h_10), (8, .int v8_h_10), (9, .int v9_h_10)]) (hmu115 : (2147483647 - v9_h_10.toInt).toNat = nq), W p l e (hp_rm 4 0 0) s m ([.ref a0, .int a1, .ref a2, .int a3, .int a4, .int a5, .int a6] : List Value).toArray below meth c Hh_10 Lh_10 0 0 (MQ below (hp_Qi Γ (fun r β => cw w_X8_whyGrowth α β)) ([.ref a0, .int a1, .ref a2, .int a3, .int a4, .int a5, .int a6] : List Value).toArray s 0 0 (hp_A Γ)) (F0 m 115 ls []) := by
              intro nq
              induction nq using Nat.strongRecOn with
              | ind nq ih115 =>
              intro Hh_10 Lh_10 Bh_10 v7_h_10 v8_h_10 v9_h_10 ih_10_0 ls hl hmu115
              have inv115_0 := ih_10_0
              refine lv_iload hx hb dX8_whyGrowth_115 (lv_at hl 7 rfl) (hp_n (n := 117) rfl ?_)
              refine lv_aload_n hx hb dX8_whyGrowth_117 rfl (lv_at hl 0 rfl) (hp_n (n := 118) rfl ?_)
              refine q_getj (κ := 9) (k := 3) (φ := 453) (pc' := 121) C Bh_10 (cw_k Bh_10.2.2 k0) fl_X8_22 rfl rfl rfl ex_3 dX8_whyGrowth_118 rfl ?_
              refine lv_icmp_ge (tgt := 178) hx hb dX8_whyGrowth_121 (by decide) (fun c_11 => ?_) (fun c_11 => hp_n (n := 124) rfl ?_)
              ·
                have jc_11 := il_le c_11
                refine lv_iload hx hb dX8_whyGrowth_178 (lv_at hl 5 rfl) (hp_n (n := 180) rfl ?_)
                refine lv_iload hx hb dX8_whyGrowth_180 (lv_at hl 3 rfl) (hp_n (n := 182) rfl ?_)
                refine lv_icmp_eq (tgt := 187) hx hb dX8_whyGrowth_182 (by decide) (fun c_12 => ?_) (fun c_12 => hp_n (n := 185) rfl ?_)
                ·
                  have jc_12 := il_eq c_12
                  refine lv_iload hx hb dX8_whyGrowth_187 (lv_at hl 6 rfl) (hp_n (n := 189) rfl ?_)
                  refine lv_iload hx hb dX8_whyGrowth_189 (lv_at hl 4 rfl) (hp_n (n := 191) rfl ?_)
                  refine lv_icmp_ne (tgt := 198) hx hb dX8_whyGrowth_191 (by decide) (fun c_13 => ?_) (fun c_13 => hp_n (n := 194) rfl ?_)
                  ·
                    have jc_13 := il_ne c_13
                    refine lv_iconst (v := 4) hx hb dX8_whyGrowth_198 (by decide) (hp_n (n := 199) rfl ?_)
                    exact q_iret C Bh_10 hr hlk Bh_10.2.2 dX8_whyGrowth_199
                  ·
                    have jc_13 := il_eq c_13
                    refine lv_iconst (v := 0) hx hb dX8_whyGrowth_194 (by decide) (hp_n (n := 195) rfl ?_)
                    refine lv_goto (tgt := 199) hx hb dX8_whyGrowth_195 (by decide) ?_
                    exact q_iret C Bh_10 hr hlk Bh_10.2.2 dX8_whyGrowth_199
                ·
                  have jc_12 := il_ne c_12
                  refine lv_iconst (v := 3) hx hb dX8_whyGrowth_185 (by decide) (hp_n (n := 186) rfl ?_)
                  exact q_iret C Bh_10 hr hlk Bh_10.2.2 dX8_whyGrowth_186
              ·
                have jc_11 := il_nle c_11
                refine lv_aload_n hx hb dX8_whyGrowth_124 rfl (lv_at hl 0 rfl) (hp_n (n := 125) rfl ?_)
                refine lv_iload_n hx hb dX8_whyGrowth_125 rfl (lv_at hl 1 rfl) (hp_n (n := 126) rfl ?_)
                refine lv_iload hx hb dX8_whyGrowth_126 (lv_at hl 7 rfl) (hp_n (n := 128) rfl ?_)
                refine lv_iload hx hb dX8_whyGrowth_128 (lv_at hl 6 rfl) (hp_n (n := 130) rfl ?_)
                refine lv_aload_n hx hb dX8_whyGrowth_130 rfl (lv_at hl 2 rfl) (hp_n (n := 131) rfl ?_)
                refine lv_iload hx hb dX8_whyGrowth_131 (lv_at hl 7 rfl) (hp_n (n := 133) rfl ?_)
                refine q_ci (pc' := 136) Bh_10 (hp_runV (As := [.int v9_h_10]) (rest := [.int v8_h_10, .int v9_h_10, .int a1, .ref a0]) C Bh_10 (t_X5_at Γ l αh_1 Bh_10.2.2.1 a2 (cw_k Bh_10.2.2 k2) v9_h_10) lb_X5_at lv_X5_at lk_X8_65 (cw_k Bh_10.2.2 k2) rfl (by decide) rfl hl.1 rfl (Nat.le_of_ble_eq_true rfl) dX8_whyGrowth_133 ⟨Nat.le_refl _, Nat.le_refl _⟩) (fun _ _ h => by rw [h]; exact Bh_10.2.2) rfl (fun rh_14 αh_14 Hh_14 Lh_14 ph_14 Bh_14 => ?_)
                rw [ph_14] at Bh_14
                refine q_ci (pc' := 139) Bh_14 (hp_runV (As := [.int a1, .int v9_h_10, .int v8_h_10, .int rh_14]) (rest := []) C Bh_14 (t_X8_joined Γ l αh_1 Bh_14.2.2.1 a0 (cw_k Bh_14.2.2 k0) a1 v9_h_10 v8_h_10 rh_14) lb_X8_joined lv_X8_joined lk_X8_70 (cw_k Bh_14.2.2 k0) rfl (by decide) rfl hl.1 rfl (Nat.le_of_ble_eq_true rfl) dX8_whyGrowth_136 ⟨Nat.le_refl _, Nat.le_refl _⟩) (fun _ _ h => by rw [h]; exact Bh_14.2.2) rfl (fun rh_15 αh_15 Hh_15 Lh_15 ph_15 Bh_15 => ?_)
                rw [ph_15] at Bh_15
                refine lv_istore (lv' := [(8, .int rh_15), (0, .ref a0), (1, .int a1), (2, .ref a2), (4, .int a4), (6, .int a6), (7, .int v7_h_10), (9, .int v9_h_10)]) hx hb dX8_whyGrowth_139 hl (by decide) rfl (fun ls hl => hp_n (n := 141) rfl ?_)
                refine lv_aload_n hx hb dX8_whyGrowth_141 rfl (lv_at hl 1 rfl) (hp_n (n := 142) rfl ?_)
                refine lv_iload hx hb dX8_whyGrowth_142 (lv_at hl 7 rfl) (hp_n (n := 144) rfl ?_)
                refine q_ci (pc' := 147) Bh_15 (hp_runV (As := [.int v9_h_10]) (rest := []) C Bh_15 (t_X8_isAhead Γ l αh_1 Bh_15.2.2.1 a0 (cw_k Bh_15.2.2 k0) v9_h_10) lb_X8_isAhead lv_X8_isAhead lk_X8_58 (cw_k Bh_15.2.2 k0) rfl (by decide) rfl hl.1 rfl (Nat.le_of_ble_eq_true rfl) dX8_whyGrowth_144 ⟨Nat.le_refl _, Nat.le_refl _⟩) (fun _ _ h => by rw [h.1]; exact Bh_15.2.2) rfl (fun rh_16 αh_16 Hh_16 Lh_16 ph_16 Bh_16 => ?_)
                rw [ph_16.1] at Bh_16
                have zh_16 := ph_16.2
                refine lv_if_eq (tgt := 168) hx hb dX8_whyGrowth_147 (by decide) (fun c_17 => ?_) (fun c_17 => hp_n (n := 150) rfl ?_)
                ·
                  have jc_17 := il_eq c_17
                  refine lv_iload hx hb dX8_whyGrowth_168 (lv_at hl 6 rfl) (hp_n (n := 170) rfl ?_)
                  refine lv_istore (lv' := [(7, .int v7_h_10), (8, .int rh_15), (0, .ref a0), (1, .int a1), (2, .ref a2), (4, .int a4), (6, .int a6), (9, .int v9_h_10)]) hx hb dX8_whyGrowth_170 hl (by decide) rfl (fun ls hl => hp_n (n := 172) rfl ?_)
                  obtain ⟨x_18, ex_18⟩ : ∃ y : Int32, y = v9_h_10 + 1 := ⟨_, rfl⟩
                  have qx_18 : x_18.toInt = v9_h_10.toInt + 1 := by have q0 := ib_hi x_3; have qa := ib_lo v9_h_10; rw [ex_18]; exact ii_add (by omega) (by omega)
                  refine lv_iinc (v := x_18) (lv' := [(9, .int x_18), (7, .int v7_h_10), (8, .int rh_15), (0, .ref a0), (1, .int a1), (2, .ref a2), (4, .int a4), (6, .int a6)]) hx hb dX8_whyGrowth_172 hl (k := 7) rfl (by rw [ex_18]; rfl) (by decide) rfl (fun ls hl => hp_n (n := 175) rfl ?_)
                  refine lv_goto (tgt := 115) hx hb dX8_whyGrowth_175 (by decide) ?_
                  exact ih115 _ (by have q0 := ib_hi x_3; have q1 := ib_lo x_3; have qa := ib_hi v9_h_10; have qb := ib_lo v9_h_10; have qc : (v9_h_10 + 1).toInt = v9_h_10.toInt + (1 : Int32).toInt := ii_add (by omega) (by omega); rw [ex_18]; omega) Hh_16 Lh_16 Bh_16 v7_h_10 rh_15 x_18 (by omega) ls (lv_sub hl [3, 4, 5, 6, 7, 1, 2, 0] rfl) rfl
                ·
                  have jc_17 := il_ne c_17
                  refine lv_aload_n hx hb dX8_whyGrowth_150 rfl (lv_at hl 1 rfl) (hp_n (n := 151) rfl ?_)
                  refine lv_iload_n hx hb dX8_whyGrowth_151 rfl (lv_at hl 2 rfl) (hp_n (n := 152) rfl ?_)
                  refine lv_iload hx hb dX8_whyGrowth_152 (lv_at hl 7 rfl) (hp_n (n := 154) rfl ?_)
                  refine lv_iload hx hb dX8_whyGrowth_154 (lv_at hl 6 rfl) (hp_n (n := 156) rfl ?_)
                  refine lv_aload_n hx hb dX8_whyGrowth_156 rfl (lv_at hl 3 rfl) (hp_n (n := 157) rfl ?_)
                  refine lv_iload hx hb dX8_whyGrowth_157 (lv_at hl 7 rfl) (hp_n (n := 159) rfl ?_)
                  refine q_ci (pc' := 162) Bh_16 (hp_runV (As := [.int v9_h_10]) (rest := [.int v7_h_10, .int v9_h_10, .int a1, .ref a0]) C Bh_16 (t_X5_at Γ l αh_1 Bh_16.2.2.1 a2 (cw_k Bh_16.2.2 k2) v9_h_10) lb_X5_at lv_X5_at lk_X8_65 (cw_k Bh_16.2.2 k2) rfl (by decide) rfl hl.1 rfl (Nat.le_of_ble_eq_true rfl) dX8_whyGrowth_159 ⟨Nat.le_refl _, Nat.le_refl _⟩) (fun _ _ h => by rw [h]; exact Bh_16.2.2) rfl (fun rh_19 αh_19 Hh_19 Lh_19 ph_19 Bh_19 => ?_)
                  rw [ph_19] at Bh_19
                  refine q_ci (pc' := 165) Bh_19 (hp_runV (As := [.int a1, .int v9_h_10, .int v7_h_10, .int rh_19]) (rest := []) C Bh_19 (t_X8_joined Γ l αh_1 Bh_19.2.2.1 a0 (cw_k Bh_19.2.2 k0) a1 v9_h_10 v7_h_10 rh_19) lb_X8_joined lv_X8_joined lk_X8_70 (cw_k Bh_19.2.2 k0) rfl (by decide) rfl hl.1 rfl (Nat.le_of_ble_eq_true rfl) dX8_whyGrowth_162 ⟨Nat.le_refl _, Nat.le_refl _⟩) (fun _ _ h => by rw [h]; exact Bh_19.2.2) rfl (fun rh_20 αh_20 Hh_20 Lh_20 ph_20 Bh_20 => ?_)
                  rw [ph_20] at Bh_20
                  refine lv_goto (tgt := 170) hx hb dX8_whyGrowth_165 (by decide) ?_
                  refine lv_istore (lv' := [(7, .int rh_20), (8, .int rh_15), (0, .ref a0), (1, .int a1), (2, .ref a2), (4, .int a4), (6, .int a6), (9, .int v9_h_10)]) hx hb dX8_whyGrowth_170 hl (by decide) rfl (fun ls hl => hp_n (n := 172) rfl ?_)
                  obtain ⟨x_21, ex_21⟩ : ∃ y : Int32, y = v9_h_10 + 1 := ⟨_, rfl⟩
                  have qx_21 : x_21.toInt = v9_h_10.toInt + 1 := by have q0 := ib_hi x_3; have qa := ib_lo v9_h_10; rw [ex_21]; exact ii_add (by omega) (by omega)
                  refine lv_iinc (v := x_21) (lv' := [(9, .int x_21), (7, .int rh_20), (8, .int rh_15), (0, .ref a0), (1, .int a1), (2, .ref a2), (4, .int a4), (6, .int a6)]) hx hb dX8_whyGrowth_172 hl (k := 7) rfl (by rw [ex_21]; rfl) (by decide) rfl (fun ls hl => hp_n (n := 175) rfl ?_)
                  refine lv_goto (tgt := 115) hx hb dX8_whyGrowth_175 (by decide) ?_
                  exact ih115 _ (by have q0 := ib_hi x_3; have q1 := ib_lo x_3; have qa := ib_hi v9_h_10; have qb := ib_lo v9_h_10; have qc : (v9_h_10 + 1).toInt = v9_h_10.toInt + (1 : Int32).toInt := ii_add (by omega) (by omega); rw [ex_21]; omega) Hh_20 Lh_20 Bh_20 rh_20 rh_15 x_21 (by omega) ls (lv_sub hl [3, 4, 5, 6, 7, 1, 2, 0] rfl) rfl
            refine lv_istore (lv' := [(9, .int 0), (8, .int a4), (7, .int a4), (0, .ref a0), (1, .int a1), (2, .ref a2), (3, .int a3), (4, .int a4), (5, .int a5), (6, .int a6)]) hx hb dX8_whyGrowth_113 hl (by decide) rfl (fun ls hl => hp_n (n := 115) rfl ?_)
            exact J115 _ Hh_1 Lh_1 Bh_1 a4 a4 0 (by omega) ls (lv_sub hl [3, 4, 5, 7, 9, 2, 1, 0] rfl) rfl
          ·
            have jc_9 := il_ne c_9
            refine lv_iconst (v := 1) hx hb dX8_whyGrowth_108 (by decide) (hp_n (n := 109) rfl ?_)
            refine lv_goto (tgt := 113) hx hb dX8_whyGrowth_109 (by decide) ?_
            have J115 : ∀ (nq : Nat) (Hh_22 : Heap) (Lh_22 : List Loc) (Bh_22 : hp_B Γ (cw w_X8_whyGrowth) s α αh_1 Hh_22 Lh_22) (v7_h_22 : Int32) (v8_h_22 : Int32) (v9_h_22 : Int32) (ih_22_0 : 0 ≤ v9_h_22.toInt) (ls : Array Slot) (hl : lv_has ls 10 [(0, .ref a0), (1, .int a1), (2, .ref a2), (4, .int a4), (6, .int a6), (7, .int v7_h_22), (8, .int v8_h_22), (9, .int v9_h_22)]) (hmu115 : (2147483647 - v9_h_22.toInt).toNat = nq), W p l e (hp_rm 4 0 0) s m ([.ref a0, .int a1, .ref a2, .int a3, .int a4, .int a5, .int a6] : List Value).toArray below meth c Hh_22 Lh_22 0 0 (MQ below (hp_Qi Γ (fun r β => cw w_X8_whyGrowth α β)) ([.ref a0, .int a1, .ref a2, .int a3, .int a4, .int a5, .int a6] : List Value).toArray s 0 0 (hp_A Γ)) (F0 m 115 ls []) := by
              intro nq
              induction nq using Nat.strongRecOn with
              | ind nq ih115 =>
              intro Hh_22 Lh_22 Bh_22 v7_h_22 v8_h_22 v9_h_22 ih_22_0 ls hl hmu115
              have inv115_0 := ih_22_0
              refine lv_iload hx hb dX8_whyGrowth_115 (lv_at hl 7 rfl) (hp_n (n := 117) rfl ?_)
              refine lv_aload_n hx hb dX8_whyGrowth_117 rfl (lv_at hl 0 rfl) (hp_n (n := 118) rfl ?_)
              refine q_getj (κ := 9) (k := 3) (φ := 453) (pc' := 121) C Bh_22 (cw_k Bh_22.2.2 k0) fl_X8_22 rfl rfl rfl ex_3 dX8_whyGrowth_118 rfl ?_
              refine lv_icmp_ge (tgt := 178) hx hb dX8_whyGrowth_121 (by decide) (fun c_23 => ?_) (fun c_23 => hp_n (n := 124) rfl ?_)
              ·
                have jc_23 := il_le c_23
                refine lv_iload hx hb dX8_whyGrowth_178 (lv_at hl 5 rfl) (hp_n (n := 180) rfl ?_)
                refine lv_iload hx hb dX8_whyGrowth_180 (lv_at hl 3 rfl) (hp_n (n := 182) rfl ?_)
                refine lv_icmp_eq (tgt := 187) hx hb dX8_whyGrowth_182 (by decide) (fun c_24 => ?_) (fun c_24 => hp_n (n := 185) rfl ?_)
                ·
                  have jc_24 := il_eq c_24
                  refine lv_iload hx hb dX8_whyGrowth_187 (lv_at hl 6 rfl) (hp_n (n := 189) rfl ?_)
                  refine lv_iload hx hb dX8_whyGrowth_189 (lv_at hl 4 rfl) (hp_n (n := 191) rfl ?_)
                  refine lv_icmp_ne (tgt := 198) hx hb dX8_whyGrowth_191 (by decide) (fun c_25 => ?_) (fun c_25 => hp_n (n := 194) rfl ?_)
                  ·
                    have jc_25 := il_ne c_25
                    refine lv_iconst (v := 4) hx hb dX8_whyGrowth_198 (by decide) (hp_n (n := 199) rfl ?_)
                    exact q_iret C Bh_22 hr hlk Bh_22.2.2 dX8_whyGrowth_199
                  ·
                    have jc_25 := il_eq c_25
                    refine lv_iconst (v := 0) hx hb dX8_whyGrowth_194 (by decide) (hp_n (n := 195) rfl ?_)
                    refine lv_goto (tgt := 199) hx hb dX8_whyGrowth_195 (by decide) ?_
                    exact q_iret C Bh_22 hr hlk Bh_22.2.2 dX8_whyGrowth_199
                ·
                  have jc_24 := il_ne c_24
                  refine lv_iconst (v := 3) hx hb dX8_whyGrowth_185 (by decide) (hp_n (n := 186) rfl ?_)
                  exact q_iret C Bh_22 hr hlk Bh_22.2.2 dX8_whyGrowth_186
              ·
                have jc_23 := il_nle c_23
                refine lv_aload_n hx hb dX8_whyGrowth_124 rfl (lv_at hl 0 rfl) (hp_n (n := 125) rfl ?_)
                refine lv_iload_n hx hb dX8_whyGrowth_125 rfl (lv_at hl 1 rfl) (hp_n (n := 126) rfl ?_)
                refine lv_iload hx hb dX8_whyGrowth_126 (lv_at hl 7 rfl) (hp_n (n := 128) rfl ?_)
                refine lv_iload hx hb dX8_whyGrowth_128 (lv_at hl 6 rfl) (hp_n (n := 130) rfl ?_)
                refine lv_aload_n hx hb dX8_whyGrowth_130 rfl (lv_at hl 2 rfl) (hp_n (n := 131) rfl ?_)
                refine lv_iload hx hb dX8_whyGrowth_131 (lv_at hl 7 rfl) (hp_n (n := 133) rfl ?_)
                refine q_ci (pc' := 136) Bh_22 (hp_runV (As := [.int v9_h_22]) (rest := [.int v8_h_22, .int v9_h_22, .int a1, .ref a0]) C Bh_22 (t_X5_at Γ l αh_1 Bh_22.2.2.1 a2 (cw_k Bh_22.2.2 k2) v9_h_22) lb_X5_at lv_X5_at lk_X8_65 (cw_k Bh_22.2.2 k2) rfl (by decide) rfl hl.1 rfl (Nat.le_of_ble_eq_true rfl) dX8_whyGrowth_133 ⟨Nat.le_refl _, Nat.le_refl _⟩) (fun _ _ h => by rw [h]; exact Bh_22.2.2) rfl (fun rh_26 αh_26 Hh_26 Lh_26 ph_26 Bh_26 => ?_)
                rw [ph_26] at Bh_26
                refine q_ci (pc' := 139) Bh_26 (hp_runV (As := [.int a1, .int v9_h_22, .int v8_h_22, .int rh_26]) (rest := []) C Bh_26 (t_X8_joined Γ l αh_1 Bh_26.2.2.1 a0 (cw_k Bh_26.2.2 k0) a1 v9_h_22 v8_h_22 rh_26) lb_X8_joined lv_X8_joined lk_X8_70 (cw_k Bh_26.2.2 k0) rfl (by decide) rfl hl.1 rfl (Nat.le_of_ble_eq_true rfl) dX8_whyGrowth_136 ⟨Nat.le_refl _, Nat.le_refl _⟩) (fun _ _ h => by rw [h]; exact Bh_26.2.2) rfl (fun rh_27 αh_27 Hh_27 Lh_27 ph_27 Bh_27 => ?_)
                rw [ph_27] at Bh_27
                refine lv_istore (lv' := [(8, .int rh_27), (0, .ref a0), (1, .int a1), (2, .ref a2), (4, .int a4), (6, .int a6), (7, .int v7_h_22), (9, .int v9_h_22)]) hx hb dX8_whyGrowth_139 hl (by decide) rfl (fun ls hl => hp_n (n := 141) rfl ?_)
                refine lv_aload_n hx hb dX8_whyGrowth_141 rfl (lv_at hl 1 rfl) (hp_n (n := 142) rfl ?_)
                refine lv_iload hx hb dX8_whyGrowth_142 (lv_at hl 7 rfl) (hp_n (n := 144) rfl ?_)
                refine q_ci (pc' := 147) Bh_27 (hp_runV (As := [.int v9_h_22]) (rest := []) C Bh_27 (t_X8_isAhead Γ l αh_1 Bh_27.2.2.1 a0 (cw_k Bh_27.2.2 k0) v9_h_22) lb_X8_isAhead lv_X8_isAhead lk_X8_58 (cw_k Bh_27.2.2 k0) rfl (by decide) rfl hl.1 rfl (Nat.le_of_ble_eq_true rfl) dX8_whyGrowth_144 ⟨Nat.le_refl _, Nat.le_refl _⟩) (fun _ _ h => by rw [h.1]; exact Bh_27.2.2) rfl (fun rh_28 αh_28 Hh_28 Lh_28 ph_28 Bh_28 => ?_)
                rw [ph_28.1] at Bh_28
                have zh_28 := ph_28.2
                refine lv_if_eq (tgt := 168) hx hb dX8_whyGrowth_147 (by decide) (fun c_29 => ?_) (fun c_29 => hp_n (n := 150) rfl ?_)
                ·
                  have jc_29 := il_eq c_29
                  refine lv_iload hx hb dX8_whyGrowth_168 (lv_at hl 6 rfl) (hp_n (n := 170) rfl ?_)
                  refine lv_istore (lv' := [(7, .int v7_h_22), (8, .int rh_27), (0, .ref a0), (1, .int a1), (2, .ref a2), (4, .int a4), (6, .int a6), (9, .int v9_h_22)]) hx hb dX8_whyGrowth_170 hl (by decide) rfl (fun ls hl => hp_n (n := 172) rfl ?_)
                  obtain ⟨x_30, ex_30⟩ : ∃ y : Int32, y = v9_h_22 + 1 := ⟨_, rfl⟩
                  have qx_30 : x_30.toInt = v9_h_22.toInt + 1 := by have q0 := ib_hi x_3; have qa := ib_lo v9_h_22; rw [ex_30]; exact ii_add (by omega) (by omega)
                  refine lv_iinc (v := x_30) (lv' := [(9, .int x_30), (7, .int v7_h_22), (8, .int rh_27), (0, .ref a0), (1, .int a1), (2, .ref a2), (4, .int a4), (6, .int a6)]) hx hb dX8_whyGrowth_172 hl (k := 7) rfl (by rw [ex_30]; rfl) (by decide) rfl (fun ls hl => hp_n (n := 175) rfl ?_)
                  refine lv_goto (tgt := 115) hx hb dX8_whyGrowth_175 (by decide) ?_
                  exact ih115 _ (by have q0 := ib_hi x_3; have q1 := ib_lo x_3; have qa := ib_hi v9_h_22; have qb := ib_lo v9_h_22; have qc : (v9_h_22 + 1).toInt = v9_h_22.toInt + (1 : Int32).toInt := ii_add (by omega) (by omega); rw [ex_30]; omega) Hh_28 Lh_28 Bh_28 v7_h_22 rh_27 x_30 (by omega) ls (lv_sub hl [3, 4, 5, 6, 7, 1, 2, 0] rfl) rfl
                ·
                  have jc_29 := il_ne c_29
                  refine lv_aload_n hx hb dX8_whyGrowth_150 rfl (lv_at hl 1 rfl) (hp_n (n := 151) rfl ?_)
                  refine lv_iload_n hx hb dX8_whyGrowth_151 rfl (lv_at hl 2 rfl) (hp_n (n := 152) rfl ?_)
                  refine lv_iload hx hb dX8_whyGrowth_152 (lv_at hl 7 rfl) (hp_n (n := 154) rfl ?_)
                  refine lv_iload hx hb dX8_whyGrowth_154 (lv_at hl 6 rfl) (hp_n (n := 156) rfl ?_)
                  refine lv_aload_n hx hb dX8_whyGrowth_156 rfl (lv_at hl 3 rfl) (hp_n (n := 157) rfl ?_)
                  refine lv_iload hx hb dX8_whyGrowth_157 (lv_at hl 7 rfl) (hp_n (n := 159) rfl ?_)
                  refine q_ci (pc' := 162) Bh_28 (hp_runV (As := [.int v9_h_22]) (rest := [.int v7_h_22, .int v9_h_22, .int a1, .ref a0]) C Bh_28 (t_X5_at Γ l αh_1 Bh_28.2.2.1 a2 (cw_k Bh_28.2.2 k2) v9_h_22) lb_X5_at lv_X5_at lk_X8_65 (cw_k Bh_28.2.2 k2) rfl (by decide) rfl hl.1 rfl (Nat.le_of_ble_eq_true rfl) dX8_whyGrowth_159 ⟨Nat.le_refl _, Nat.le_refl _⟩) (fun _ _ h => by rw [h]; exact Bh_28.2.2) rfl (fun rh_31 αh_31 Hh_31 Lh_31 ph_31 Bh_31 => ?_)
                  rw [ph_31] at Bh_31
                  refine q_ci (pc' := 165) Bh_31 (hp_runV (As := [.int a1, .int v9_h_22, .int v7_h_22, .int rh_31]) (rest := []) C Bh_31 (t_X8_joined Γ l αh_1 Bh_31.2.2.1 a0 (cw_k Bh_31.2.2 k0) a1 v9_h_22 v7_h_22 rh_31) lb_X8_joined lv_X8_joined lk_X8_70 (cw_k Bh_31.2.2 k0) rfl (by decide) rfl hl.1 rfl (Nat.le_of_ble_eq_true rfl) dX8_whyGrowth_162 ⟨Nat.le_refl _, Nat.le_refl _⟩) (fun _ _ h => by rw [h]; exact Bh_31.2.2) rfl (fun rh_32 αh_32 Hh_32 Lh_32 ph_32 Bh_32 => ?_)
                  rw [ph_32] at Bh_32
                  refine lv_goto (tgt := 170) hx hb dX8_whyGrowth_165 (by decide) ?_
                  refine lv_istore (lv' := [(7, .int rh_32), (8, .int rh_27), (0, .ref a0), (1, .int a1), (2, .ref a2), (4, .int a4), (6, .int a6), (9, .int v9_h_22)]) hx hb dX8_whyGrowth_170 hl (by decide) rfl (fun ls hl => hp_n (n := 172) rfl ?_)
                  obtain ⟨x_33, ex_33⟩ : ∃ y : Int32, y = v9_h_22 + 1 := ⟨_, rfl⟩
                  have qx_33 : x_33.toInt = v9_h_22.toInt + 1 := by have q0 := ib_hi x_3; have qa := ib_lo v9_h_22; rw [ex_33]; exact ii_add (by omega) (by omega)
                  refine lv_iinc (v := x_33) (lv' := [(9, .int x_33), (7, .int rh_32), (8, .int rh_27), (0, .ref a0), (1, .int a1), (2, .ref a2), (4, .int a4), (6, .int a6)]) hx hb dX8_whyGrowth_172 hl (k := 7) rfl (by rw [ex_33]; rfl) (by decide) rfl (fun ls hl => hp_n (n := 175) rfl ?_)
                  refine lv_goto (tgt := 115) hx hb dX8_whyGrowth_175 (by decide) ?_
                  exact ih115 _ (by have q0 := ib_hi x_3; have q1 := ib_lo x_3; have qa := ib_hi v9_h_22; have qb := ib_lo v9_h_22; have qc : (v9_h_22 + 1).toInt = v9_h_22.toInt + (1 : Int32).toInt := ii_add (by omega) (by omega); rw [ex_33]; omega) Hh_32 Lh_32 Bh_32 rh_32 rh_27 x_33 (by omega) ls (lv_sub hl [3, 4, 5, 6, 7, 1, 2, 0] rfl) rfl
            refine lv_istore (lv' := [(9, .int 1), (8, .int a4), (7, .int a4), (0, .ref a0), (1, .int a1), (2, .ref a2), (3, .int a3), (4, .int a4), (5, .int a5), (6, .int a6)]) hx hb dX8_whyGrowth_113 hl (by decide) rfl (fun ls hl => hp_n (n := 115) rfl ?_)
            exact J115 _ Hh_1 Lh_1 Bh_1 a4 a4 1 (by omega) ls (lv_sub hl [3, 4, 5, 7, 9, 2, 1, 0] rfl) rfl
        ·
          have jc_8 := il_ne c_8
          refine lv_aload_n hx hb dX8_whyGrowth_85 rfl (lv_at hl 2 rfl) (hp_n (n := 86) rfl ?_)
          refine lv_iconst (v := 0) hx hb dX8_whyGrowth_86 (by decide) (hp_n (n := 87) rfl ?_)
          refine q_ci (pc' := 90) Bh_1 (hp_runV (As := [.int 0]) (rest := []) C Bh_1 (t_X5_at Γ l αh_1 Bh_1.2.2.1 a2 (cw_k Bh_1.2.2 k2) 0) lb_X5_at lv_X5_at lk_X8_65 (cw_k Bh_1.2.2 k2) rfl (by decide) rfl hl.1 rfl (Nat.le_of_ble_eq_true rfl) dX8_whyGrowth_87 ⟨Nat.le_refl _, Nat.le_refl _⟩) (fun _ _ h => by rw [h]; exact Bh_1.2.2) rfl (fun rh_34 αh_34 Hh_34 Lh_34 ph_34 Bh_34 => ?_)
          rw [ph_34] at Bh_34
          refine lv_goto (tgt := 95) hx hb dX8_whyGrowth_90 (by decide) ?_
          refine lv_istore (lv' := [(7, .int rh_34), (0, .ref a0), (1, .int a1), (2, .ref a2), (3, .int a3), (4, .int a4), (5, .int a5), (6, .int a6)]) hx hb dX8_whyGrowth_95 hl (by decide) rfl (fun ls hl => hp_n (n := 97) rfl ?_)
          refine lv_iload hx hb dX8_whyGrowth_97 (lv_at hl 0 rfl) (hp_n (n := 99) rfl ?_)
          refine lv_istore (lv' := [(8, .int rh_34), (7, .int rh_34), (0, .ref a0), (1, .int a1), (2, .ref a2), (3, .int a3), (4, .int a4), (5, .int a5), (6, .int a6)]) hx hb dX8_whyGrowth_99 hl (by decide) rfl (fun ls hl => hp_n (n := 101) rfl ?_)
          refine lv_aload_n hx hb dX8_whyGrowth_101 rfl (lv_at hl 2 rfl) (hp_n (n := 102) rfl ?_)
          refine q_getj (κ := 9) (k := 4) (φ := 454) (pc' := 105) C Bh_34 (cw_k Bh_34.2.2 k0) fl_X8_26 rfl rfl rfl ex_7 dX8_whyGrowth_102 rfl ?_
          refine lv_if_eq (tgt := 112) hx hb dX8_whyGrowth_105 (by decide) (fun c_35 => ?_) (fun c_35 => hp_n (n := 108) rfl ?_)
          ·
            have jc_35 := il_eq c_35
            refine lv_iconst (v := 0) hx hb dX8_whyGrowth_112 (by decide) (hp_n (n := 113) rfl ?_)
            have J115 : ∀ (nq : Nat) (Hh_36 : Heap) (Lh_36 : List Loc) (Bh_36 : hp_B Γ (cw w_X8_whyGrowth) s α αh_1 Hh_36 Lh_36) (v7_h_36 : Int32) (v8_h_36 : Int32) (v9_h_36 : Int32) (ih_36_0 : 0 ≤ v9_h_36.toInt) (ls : Array Slot) (hl : lv_has ls 10 [(0, .ref a0), (1, .int a1), (2, .ref a2), (4, .int a4), (6, .int a6), (7, .int v7_h_36), (8, .int v8_h_36), (9, .int v9_h_36)]) (hmu115 : (2147483647 - v9_h_36.toInt).toNat = nq), W p l e (hp_rm 4 0 0) s m ([.ref a0, .int a1, .ref a2, .int a3, .int a4, .int a5, .int a6] : List Value).toArray below meth c Hh_36 Lh_36 0 0 (MQ below (hp_Qi Γ (fun r β => cw w_X8_whyGrowth α β)) ([.ref a0, .int a1, .ref a2, .int a3, .int a4, .int a5, .int a6] : List Value).toArray s 0 0 (hp_A Γ)) (F0 m 115 ls []) := by
              intro nq
              induction nq using Nat.strongRecOn with
              | ind nq ih115 =>
              intro Hh_36 Lh_36 Bh_36 v7_h_36 v8_h_36 v9_h_36 ih_36_0 ls hl hmu115
              have inv115_0 := ih_36_0
              refine lv_iload hx hb dX8_whyGrowth_115 (lv_at hl 7 rfl) (hp_n (n := 117) rfl ?_)
              refine lv_aload_n hx hb dX8_whyGrowth_117 rfl (lv_at hl 0 rfl) (hp_n (n := 118) rfl ?_)
              refine q_getj (κ := 9) (k := 3) (φ := 453) (pc' := 121) C Bh_36 (cw_k Bh_36.2.2 k0) fl_X8_22 rfl rfl rfl ex_3 dX8_whyGrowth_118 rfl ?_
              refine lv_icmp_ge (tgt := 178) hx hb dX8_whyGrowth_121 (by decide) (fun c_37 => ?_) (fun c_37 => hp_n (n := 124) rfl ?_)
              ·
                have jc_37 := il_le c_37
                refine lv_iload hx hb dX8_whyGrowth_178 (lv_at hl 5 rfl) (hp_n (n := 180) rfl ?_)
                refine lv_iload hx hb dX8_whyGrowth_180 (lv_at hl 3 rfl) (hp_n (n := 182) rfl ?_)
                refine lv_icmp_eq (tgt := 187) hx hb dX8_whyGrowth_182 (by decide) (fun c_38 => ?_) (fun c_38 => hp_n (n := 185) rfl ?_)
                ·
                  have jc_38 := il_eq c_38
                  refine lv_iload hx hb dX8_whyGrowth_187 (lv_at hl 6 rfl) (hp_n (n := 189) rfl ?_)
                  refine lv_iload hx hb dX8_whyGrowth_189 (lv_at hl 4 rfl) (hp_n (n := 191) rfl ?_)
                  refine lv_icmp_ne (tgt := 198) hx hb dX8_whyGrowth_191 (by decide) (fun c_39 => ?_) (fun c_39 => hp_n (n := 194) rfl ?_)
                  ·
                    have jc_39 := il_ne c_39
                    refine lv_iconst (v := 4) hx hb dX8_whyGrowth_198 (by decide) (hp_n (n := 199) rfl ?_)
                    exact q_iret C Bh_36 hr hlk Bh_36.2.2 dX8_whyGrowth_199
                  ·
                    have jc_39 := il_eq c_39
                    refine lv_iconst (v := 0) hx hb dX8_whyGrowth_194 (by decide) (hp_n (n := 195) rfl ?_)
                    refine lv_goto (tgt := 199) hx hb dX8_whyGrowth_195 (by decide) ?_
                    exact q_iret C Bh_36 hr hlk Bh_36.2.2 dX8_whyGrowth_199
                ·
                  have jc_38 := il_ne c_38
                  refine lv_iconst (v := 3) hx hb dX8_whyGrowth_185 (by decide) (hp_n (n := 186) rfl ?_)
                  exact q_iret C Bh_36 hr hlk Bh_36.2.2 dX8_whyGrowth_186
              ·
                have jc_37 := il_nle c_37
                refine lv_aload_n hx hb dX8_whyGrowth_124 rfl (lv_at hl 0 rfl) (hp_n (n := 125) rfl ?_)
                refine lv_iload_n hx hb dX8_whyGrowth_125 rfl (lv_at hl 1 rfl) (hp_n (n := 126) rfl ?_)
                refine lv_iload hx hb dX8_whyGrowth_126 (lv_at hl 7 rfl) (hp_n (n := 128) rfl ?_)
                refine lv_iload hx hb dX8_whyGrowth_128 (lv_at hl 6 rfl) (hp_n (n := 130) rfl ?_)
                refine lv_aload_n hx hb dX8_whyGrowth_130 rfl (lv_at hl 2 rfl) (hp_n (n := 131) rfl ?_)
                refine lv_iload hx hb dX8_whyGrowth_131 (lv_at hl 7 rfl) (hp_n (n := 133) rfl ?_)
                refine q_ci (pc' := 136) Bh_36 (hp_runV (As := [.int v9_h_36]) (rest := [.int v8_h_36, .int v9_h_36, .int a1, .ref a0]) C Bh_36 (t_X5_at Γ l αh_1 Bh_36.2.2.1 a2 (cw_k Bh_36.2.2 k2) v9_h_36) lb_X5_at lv_X5_at lk_X8_65 (cw_k Bh_36.2.2 k2) rfl (by decide) rfl hl.1 rfl (Nat.le_of_ble_eq_true rfl) dX8_whyGrowth_133 ⟨Nat.le_refl _, Nat.le_refl _⟩) (fun _ _ h => by rw [h]; exact Bh_36.2.2) rfl (fun rh_40 αh_40 Hh_40 Lh_40 ph_40 Bh_40 => ?_)
                rw [ph_40] at Bh_40
                refine q_ci (pc' := 139) Bh_40 (hp_runV (As := [.int a1, .int v9_h_36, .int v8_h_36, .int rh_40]) (rest := []) C Bh_40 (t_X8_joined Γ l αh_1 Bh_40.2.2.1 a0 (cw_k Bh_40.2.2 k0) a1 v9_h_36 v8_h_36 rh_40) lb_X8_joined lv_X8_joined lk_X8_70 (cw_k Bh_40.2.2 k0) rfl (by decide) rfl hl.1 rfl (Nat.le_of_ble_eq_true rfl) dX8_whyGrowth_136 ⟨Nat.le_refl _, Nat.le_refl _⟩) (fun _ _ h => by rw [h]; exact Bh_40.2.2) rfl (fun rh_41 αh_41 Hh_41 Lh_41 ph_41 Bh_41 => ?_)
                rw [ph_41] at Bh_41
                refine lv_istore (lv' := [(8, .int rh_41), (0, .ref a0), (1, .int a1), (2, .ref a2), (4, .int a4), (6, .int a6), (7, .int v7_h_36), (9, .int v9_h_36)]) hx hb dX8_whyGrowth_139 hl (by decide) rfl (fun ls hl => hp_n (n := 141) rfl ?_)
                refine lv_aload_n hx hb dX8_whyGrowth_141 rfl (lv_at hl 1 rfl) (hp_n (n := 142) rfl ?_)
                refine lv_iload hx hb dX8_whyGrowth_142 (lv_at hl 7 rfl) (hp_n (n := 144) rfl ?_)
                refine q_ci (pc' := 147) Bh_41 (hp_runV (As := [.int v9_h_36]) (rest := []) C Bh_41 (t_X8_isAhead Γ l αh_1 Bh_41.2.2.1 a0 (cw_k Bh_41.2.2 k0) v9_h_36) lb_X8_isAhead lv_X8_isAhead lk_X8_58 (cw_k Bh_41.2.2 k0) rfl (by decide) rfl hl.1 rfl (Nat.le_of_ble_eq_true rfl) dX8_whyGrowth_144 ⟨Nat.le_refl _, Nat.le_refl _⟩) (fun _ _ h => by rw [h.1]; exact Bh_41.2.2) rfl (fun rh_42 αh_42 Hh_42 Lh_42 ph_42 Bh_42 => ?_)
                rw [ph_42.1] at Bh_42
                have zh_42 := ph_42.2
                refine lv_if_eq (tgt := 168) hx hb dX8_whyGrowth_147 (by decide) (fun c_43 => ?_) (fun c_43 => hp_n (n := 150) rfl ?_)
                ·
                  have jc_43 := il_eq c_43
                  refine lv_iload hx hb dX8_whyGrowth_168 (lv_at hl 6 rfl) (hp_n (n := 170) rfl ?_)
                  refine lv_istore (lv' := [(7, .int v7_h_36), (8, .int rh_41), (0, .ref a0), (1, .int a1), (2, .ref a2), (4, .int a4), (6, .int a6), (9, .int v9_h_36)]) hx hb dX8_whyGrowth_170 hl (by decide) rfl (fun ls hl => hp_n (n := 172) rfl ?_)
                  obtain ⟨x_44, ex_44⟩ : ∃ y : Int32, y = v9_h_36 + 1 := ⟨_, rfl⟩
                  have qx_44 : x_44.toInt = v9_h_36.toInt + 1 := by have q0 := ib_hi x_3; have qa := ib_lo v9_h_36; rw [ex_44]; exact ii_add (by omega) (by omega)
                  refine lv_iinc (v := x_44) (lv' := [(9, .int x_44), (7, .int v7_h_36), (8, .int rh_41), (0, .ref a0), (1, .int a1), (2, .ref a2), (4, .int a4), (6, .int a6)]) hx hb dX8_whyGrowth_172 hl (k := 7) rfl (by rw [ex_44]; rfl) (by decide) rfl (fun ls hl => hp_n (n := 175) rfl ?_)
                  refine lv_goto (tgt := 115) hx hb dX8_whyGrowth_175 (by decide) ?_
                  exact ih115 _ (by have q0 := ib_hi x_3; have q1 := ib_lo x_3; have qa := ib_hi v9_h_36; have qb := ib_lo v9_h_36; have qc : (v9_h_36 + 1).toInt = v9_h_36.toInt + (1 : Int32).toInt := ii_add (by omega) (by omega); rw [ex_44]; omega) Hh_42 Lh_42 Bh_42 v7_h_36 rh_41 x_44 (by omega) ls (lv_sub hl [3, 4, 5, 6, 7, 1, 2, 0] rfl) rfl
                ·
                  have jc_43 := il_ne c_43
                  refine lv_aload_n hx hb dX8_whyGrowth_150 rfl (lv_at hl 1 rfl) (hp_n (n := 151) rfl ?_)
                  refine lv_iload_n hx hb dX8_whyGrowth_151 rfl (lv_at hl 2 rfl) (hp_n (n := 152) rfl ?_)
                  refine lv_iload hx hb dX8_whyGrowth_152 (lv_at hl 7 rfl) (hp_n (n := 154) rfl ?_)
                  refine lv_iload hx hb dX8_whyGrowth_154 (lv_at hl 6 rfl) (hp_n (n := 156) rfl ?_)
                  refine lv_aload_n hx hb dX8_whyGrowth_156 rfl (lv_at hl 3 rfl) (hp_n (n := 157) rfl ?_)
                  refine lv_iload hx hb dX8_whyGrowth_157 (lv_at hl 7 rfl) (hp_n (n := 159) rfl ?_)
                  refine q_ci (pc' := 162) Bh_42 (hp_runV (As := [.int v9_h_36]) (rest := [.int v7_h_36, .int v9_h_36, .int a1, .ref a0]) C Bh_42 (t_X5_at Γ l αh_1 Bh_42.2.2.1 a2 (cw_k Bh_42.2.2 k2) v9_h_36) lb_X5_at lv_X5_at lk_X8_65 (cw_k Bh_42.2.2 k2) rfl (by decide) rfl hl.1 rfl (Nat.le_of_ble_eq_true rfl) dX8_whyGrowth_159 ⟨Nat.le_refl _, Nat.le_refl _⟩) (fun _ _ h => by rw [h]; exact Bh_42.2.2) rfl (fun rh_45 αh_45 Hh_45 Lh_45 ph_45 Bh_45 => ?_)
                  rw [ph_45] at Bh_45
                  refine q_ci (pc' := 165) Bh_45 (hp_runV (As := [.int a1, .int v9_h_36, .int v7_h_36, .int rh_45]) (rest := []) C Bh_45 (t_X8_joined Γ l αh_1 Bh_45.2.2.1 a0 (cw_k Bh_45.2.2 k0) a1 v9_h_36 v7_h_36 rh_45) lb_X8_joined lv_X8_joined lk_X8_70 (cw_k Bh_45.2.2 k0) rfl (by decide) rfl hl.1 rfl (Nat.le_of_ble_eq_true rfl) dX8_whyGrowth_162 ⟨Nat.le_refl _, Nat.le_refl _⟩) (fun _ _ h => by rw [h]; exact Bh_45.2.2) rfl (fun rh_46 αh_46 Hh_46 Lh_46 ph_46 Bh_46 => ?_)
                  rw [ph_46] at Bh_46
                  refine lv_goto (tgt := 170) hx hb dX8_whyGrowth_165 (by decide) ?_
                  refine lv_istore (lv' := [(7, .int rh_46), (8, .int rh_41), (0, .ref a0), (1, .int a1), (2, .ref a2), (4, .int a4), (6, .int a6), (9, .int v9_h_36)]) hx hb dX8_whyGrowth_170 hl (by decide) rfl (fun ls hl => hp_n (n := 172) rfl ?_)
                  obtain ⟨x_47, ex_47⟩ : ∃ y : Int32, y = v9_h_36 + 1 := ⟨_, rfl⟩
                  have qx_47 : x_47.toInt = v9_h_36.toInt + 1 := by have q0 := ib_hi x_3; have qa := ib_lo v9_h_36; rw [ex_47]; exact ii_add (by omega) (by omega)
                  refine lv_iinc (v := x_47) (lv' := [(9, .int x_47), (7, .int rh_46), (8, .int rh_41), (0, .ref a0), (1, .int a1), (2, .ref a2), (4, .int a4), (6, .int a6)]) hx hb dX8_whyGrowth_172 hl (k := 7) rfl (by rw [ex_47]; rfl) (by decide) rfl (fun ls hl => hp_n (n := 175) rfl ?_)
                  refine lv_goto (tgt := 115) hx hb dX8_whyGrowth_175 (by decide) ?_
                  exact ih115 _ (by have q0 := ib_hi x_3; have q1 := ib_lo x_3; have qa := ib_hi v9_h_36; have qb := ib_lo v9_h_36; have qc : (v9_h_36 + 1).toInt = v9_h_36.toInt + (1 : Int32).toInt := ii_add (by omega) (by omega); rw [ex_47]; omega) Hh_46 Lh_46 Bh_46 rh_46 rh_41 x_47 (by omega) ls (lv_sub hl [3, 4, 5, 6, 7, 1, 2, 0] rfl) rfl
            refine lv_istore (lv' := [(9, .int 0), (8, .int rh_34), (7, .int rh_34), (0, .ref a0), (1, .int a1), (2, .ref a2), (3, .int a3), (4, .int a4), (5, .int a5), (6, .int a6)]) hx hb dX8_whyGrowth_113 hl (by decide) rfl (fun ls hl => hp_n (n := 115) rfl ?_)
            exact J115 _ Hh_34 Lh_34 Bh_34 rh_34 rh_34 0 (by omega) ls (lv_sub hl [3, 4, 5, 7, 9, 2, 1, 0] rfl) rfl
          ·
            have jc_35 := il_ne c_35
            refine lv_iconst (v := 1) hx hb dX8_whyGrowth_108 (by decide) (hp_n (n := 109) rfl ?_)
            refine lv_goto (tgt := 113) hx hb dX8_whyGrowth_109 (by decide) ?_
            have J115 : ∀ (nq : Nat) (Hh_48 : Heap) (Lh_48 : List Loc) (Bh_48 : hp_B Γ (cw w_X8_whyGrowth) s α αh_1 Hh_48 Lh_48) (v7_h_48 : Int32) (v8_h_48 : Int32) (v9_h_48 : Int32) (ih_48_0 : 0 ≤ v9_h_48.toInt) (ls : Array Slot) (hl : lv_has ls 10 [(0, .ref a0), (1, .int a1), (2, .ref a2), (4, .int a4), (6, .int a6), (7, .int v7_h_48), (8, .int v8_h_48), (9, .int v9_h_48)]) (hmu115 : (2147483647 - v9_h_48.toInt).toNat = nq), W p l e (hp_rm 4 0 0) s m ([.ref a0, .int a1, .ref a2, .int a3, .int a4, .int a5, .int a6] : List Value).toArray below meth c Hh_48 Lh_48 0 0 (MQ below (hp_Qi Γ (fun r β => cw w_X8_whyGrowth α β)) ([.ref a0, .int a1, .ref a2, .int a3, .int a4, .int a5, .int a6] : List Value).toArray s 0 0 (hp_A Γ)) (F0 m 115 ls []) := by
              intro nq
              induction nq using Nat.strongRecOn with
              | ind nq ih115 =>
              intro Hh_48 Lh_48 Bh_48 v7_h_48 v8_h_48 v9_h_48 ih_48_0 ls hl hmu115
              have inv115_0 := ih_48_0
              refine lv_iload hx hb dX8_whyGrowth_115 (lv_at hl 7 rfl) (hp_n (n := 117) rfl ?_)
              refine lv_aload_n hx hb dX8_whyGrowth_117 rfl (lv_at hl 0 rfl) (hp_n (n := 118) rfl ?_)
              refine q_getj (κ := 9) (k := 3) (φ := 453) (pc' := 121) C Bh_48 (cw_k Bh_48.2.2 k0) fl_X8_22 rfl rfl rfl ex_3 dX8_whyGrowth_118 rfl ?_
              refine lv_icmp_ge (tgt := 178) hx hb dX8_whyGrowth_121 (by decide) (fun c_49 => ?_) (fun c_49 => hp_n (n := 124) rfl ?_)
              ·
                have jc_49 := il_le c_49
                refine lv_iload hx hb dX8_whyGrowth_178 (lv_at hl 5 rfl) (hp_n (n := 180) rfl ?_)
                refine lv_iload hx hb dX8_whyGrowth_180 (lv_at hl 3 rfl) (hp_n (n := 182) rfl ?_)
                refine lv_icmp_eq (tgt := 187) hx hb dX8_whyGrowth_182 (by decide) (fun c_50 => ?_) (fun c_50 => hp_n (n := 185) rfl ?_)
                ·
                  have jc_50 := il_eq c_50
                  refine lv_iload hx hb dX8_whyGrowth_187 (lv_at hl 6 rfl) (hp_n (n := 189) rfl ?_)
                  refine lv_iload hx hb dX8_whyGrowth_189 (lv_at hl 4 rfl) (hp_n (n := 191) rfl ?_)
                  refine lv_icmp_ne (tgt := 198) hx hb dX8_whyGrowth_191 (by decide) (fun c_51 => ?_) (fun c_51 => hp_n (n := 194) rfl ?_)
                  ·
                    have jc_51 := il_ne c_51
                    refine lv_iconst (v := 4) hx hb dX8_whyGrowth_198 (by decide) (hp_n (n := 199) rfl ?_)
                    exact q_iret C Bh_48 hr hlk Bh_48.2.2 dX8_whyGrowth_199
                  ·
                    have jc_51 := il_eq c_51
                    refine lv_iconst (v := 0) hx hb dX8_whyGrowth_194 (by decide) (hp_n (n := 195) rfl ?_)
                    refine lv_goto (tgt := 199) hx hb dX8_whyGrowth_195 (by decide) ?_
                    exact q_iret C Bh_48 hr hlk Bh_48.2.2 dX8_whyGrowth_199
                ·
                  have jc_50 := il_ne c_50
                  refine lv_iconst (v := 3) hx hb dX8_whyGrowth_185 (by decide) (hp_n (n := 186) rfl ?_)
                  exact q_iret C Bh_48 hr hlk Bh_48.2.2 dX8_whyGrowth_186
              ·
                have jc_49 := il_nle c_49
                refine lv_aload_n hx hb dX8_whyGrowth_124 rfl (lv_at hl 0 rfl) (hp_n (n := 125) rfl ?_)
                refine lv_iload_n hx hb dX8_whyGrowth_125 rfl (lv_at hl 1 rfl) (hp_n (n := 126) rfl ?_)
                refine lv_iload hx hb dX8_whyGrowth_126 (lv_at hl 7 rfl) (hp_n (n := 128) rfl ?_)
                refine lv_iload hx hb dX8_whyGrowth_128 (lv_at hl 6 rfl) (hp_n (n := 130) rfl ?_)
                refine lv_aload_n hx hb dX8_whyGrowth_130 rfl (lv_at hl 2 rfl) (hp_n (n := 131) rfl ?_)
                refine lv_iload hx hb dX8_whyGrowth_131 (lv_at hl 7 rfl) (hp_n (n := 133) rfl ?_)
                refine q_ci (pc' := 136) Bh_48 (hp_runV (As := [.int v9_h_48]) (rest := [.int v8_h_48, .int v9_h_48, .int a1, .ref a0]) C Bh_48 (t_X5_at Γ l αh_1 Bh_48.2.2.1 a2 (cw_k Bh_48.2.2 k2) v9_h_48) lb_X5_at lv_X5_at lk_X8_65 (cw_k Bh_48.2.2 k2) rfl (by decide) rfl hl.1 rfl (Nat.le_of_ble_eq_true rfl) dX8_whyGrowth_133 ⟨Nat.le_refl _, Nat.le_refl _⟩) (fun _ _ h => by rw [h]; exact Bh_48.2.2) rfl (fun rh_52 αh_52 Hh_52 Lh_52 ph_52 Bh_52 => ?_)
                rw [ph_52] at Bh_52
                refine q_ci (pc' := 139) Bh_52 (hp_runV (As := [.int a1, .int v9_h_48, .int v8_h_48, .int rh_52]) (rest := []) C Bh_52 (t_X8_joined Γ l αh_1 Bh_52.2.2.1 a0 (cw_k Bh_52.2.2 k0) a1 v9_h_48 v8_h_48 rh_52) lb_X8_joined lv_X8_joined lk_X8_70 (cw_k Bh_52.2.2 k0) rfl (by decide) rfl hl.1 rfl (Nat.le_of_ble_eq_true rfl) dX8_whyGrowth_136 ⟨Nat.le_refl _, Nat.le_refl _⟩) (fun _ _ h => by rw [h]; exact Bh_52.2.2) rfl (fun rh_53 αh_53 Hh_53 Lh_53 ph_53 Bh_53 => ?_)
                rw [ph_53] at Bh_53
                refine lv_istore (lv' := [(8, .int rh_53), (0, .ref a0), (1, .int a1), (2, .ref a2), (4, .int a4), (6, .int a6), (7, .int v7_h_48), (9, .int v9_h_48)]) hx hb dX8_whyGrowth_139 hl (by decide) rfl (fun ls hl => hp_n (n := 141) rfl ?_)
                refine lv_aload_n hx hb dX8_whyGrowth_141 rfl (lv_at hl 1 rfl) (hp_n (n := 142) rfl ?_)
                refine lv_iload hx hb dX8_whyGrowth_142 (lv_at hl 7 rfl) (hp_n (n := 144) rfl ?_)
                refine q_ci (pc' := 147) Bh_53 (hp_runV (As := [.int v9_h_48]) (rest := []) C Bh_53 (t_X8_isAhead Γ l αh_1 Bh_53.2.2.1 a0 (cw_k Bh_53.2.2 k0) v9_h_48) lb_X8_isAhead lv_X8_isAhead lk_X8_58 (cw_k Bh_53.2.2 k0) rfl (by decide) rfl hl.1 rfl (Nat.le_of_ble_eq_true rfl) dX8_whyGrowth_144 ⟨Nat.le_refl _, Nat.le_refl _⟩) (fun _ _ h => by rw [h.1]; exact Bh_53.2.2) rfl (fun rh_54 αh_54 Hh_54 Lh_54 ph_54 Bh_54 => ?_)
                rw [ph_54.1] at Bh_54
                have zh_54 := ph_54.2
                refine lv_if_eq (tgt := 168) hx hb dX8_whyGrowth_147 (by decide) (fun c_55 => ?_) (fun c_55 => hp_n (n := 150) rfl ?_)
                ·
                  have jc_55 := il_eq c_55
                  refine lv_iload hx hb dX8_whyGrowth_168 (lv_at hl 6 rfl) (hp_n (n := 170) rfl ?_)
                  refine lv_istore (lv' := [(7, .int v7_h_48), (8, .int rh_53), (0, .ref a0), (1, .int a1), (2, .ref a2), (4, .int a4), (6, .int a6), (9, .int v9_h_48)]) hx hb dX8_whyGrowth_170 hl (by decide) rfl (fun ls hl => hp_n (n := 172) rfl ?_)
                  obtain ⟨x_56, ex_56⟩ : ∃ y : Int32, y = v9_h_48 + 1 := ⟨_, rfl⟩
                  have qx_56 : x_56.toInt = v9_h_48.toInt + 1 := by have q0 := ib_hi x_3; have qa := ib_lo v9_h_48; rw [ex_56]; exact ii_add (by omega) (by omega)
                  refine lv_iinc (v := x_56) (lv' := [(9, .int x_56), (7, .int v7_h_48), (8, .int rh_53), (0, .ref a0), (1, .int a1), (2, .ref a2), (4, .int a4), (6, .int a6)]) hx hb dX8_whyGrowth_172 hl (k := 7) rfl (by rw [ex_56]; rfl) (by decide) rfl (fun ls hl => hp_n (n := 175) rfl ?_)
                  refine lv_goto (tgt := 115) hx hb dX8_whyGrowth_175 (by decide) ?_
                  exact ih115 _ (by have q0 := ib_hi x_3; have q1 := ib_lo x_3; have qa := ib_hi v9_h_48; have qb := ib_lo v9_h_48; have qc : (v9_h_48 + 1).toInt = v9_h_48.toInt + (1 : Int32).toInt := ii_add (by omega) (by omega); rw [ex_56]; omega) Hh_54 Lh_54 Bh_54 v7_h_48 rh_53 x_56 (by omega) ls (lv_sub hl [3, 4, 5, 6, 7, 1, 2, 0] rfl) rfl
                ·
                  have jc_55 := il_ne c_55
                  refine lv_aload_n hx hb dX8_whyGrowth_150 rfl (lv_at hl 1 rfl) (hp_n (n := 151) rfl ?_)
                  refine lv_iload_n hx hb dX8_whyGrowth_151 rfl (lv_at hl 2 rfl) (hp_n (n := 152) rfl ?_)
                  refine lv_iload hx hb dX8_whyGrowth_152 (lv_at hl 7 rfl) (hp_n (n := 154) rfl ?_)
                  refine lv_iload hx hb dX8_whyGrowth_154 (lv_at hl 6 rfl) (hp_n (n := 156) rfl ?_)
                  refine lv_aload_n hx hb dX8_whyGrowth_156 rfl (lv_at hl 3 rfl) (hp_n (n := 157) rfl ?_)
                  refine lv_iload hx hb dX8_whyGrowth_157 (lv_at hl 7 rfl) (hp_n (n := 159) rfl ?_)
                  refine q_ci (pc' := 162) Bh_54 (hp_runV (As := [.int v9_h_48]) (rest := [.int v7_h_48, .int v9_h_48, .int a1, .ref a0]) C Bh_54 (t_X5_at Γ l αh_1 Bh_54.2.2.1 a2 (cw_k Bh_54.2.2 k2) v9_h_48) lb_X5_at lv_X5_at lk_X8_65 (cw_k Bh_54.2.2 k2) rfl (by decide) rfl hl.1 rfl (Nat.le_of_ble_eq_true rfl) dX8_whyGrowth_159 ⟨Nat.le_refl _, Nat.le_refl _⟩) (fun _ _ h => by rw [h]; exact Bh_54.2.2) rfl (fun rh_57 αh_57 Hh_57 Lh_57 ph_57 Bh_57 => ?_)
                  rw [ph_57] at Bh_57
                  refine q_ci (pc' := 165) Bh_57 (hp_runV (As := [.int a1, .int v9_h_48, .int v7_h_48, .int rh_57]) (rest := []) C Bh_57 (t_X8_joined Γ l αh_1 Bh_57.2.2.1 a0 (cw_k Bh_57.2.2 k0) a1 v9_h_48 v7_h_48 rh_57) lb_X8_joined lv_X8_joined lk_X8_70 (cw_k Bh_57.2.2 k0) rfl (by decide) rfl hl.1 rfl (Nat.le_of_ble_eq_true rfl) dX8_whyGrowth_162 ⟨Nat.le_refl _, Nat.le_refl _⟩) (fun _ _ h => by rw [h]; exact Bh_57.2.2) rfl (fun rh_58 αh_58 Hh_58 Lh_58 ph_58 Bh_58 => ?_)
                  rw [ph_58] at Bh_58
                  refine lv_goto (tgt := 170) hx hb dX8_whyGrowth_165 (by decide) ?_
                  refine lv_istore (lv' := [(7, .int rh_58), (8, .int rh_53), (0, .ref a0), (1, .int a1), (2, .ref a2), (4, .int a4), (6, .int a6), (9, .int v9_h_48)]) hx hb dX8_whyGrowth_170 hl (by decide) rfl (fun ls hl => hp_n (n := 172) rfl ?_)
                  obtain ⟨x_59, ex_59⟩ : ∃ y : Int32, y = v9_h_48 + 1 := ⟨_, rfl⟩
                  have qx_59 : x_59.toInt = v9_h_48.toInt + 1 := by have q0 := ib_hi x_3; have qa := ib_lo v9_h_48; rw [ex_59]; exact ii_add (by omega) (by omega)
                  refine lv_iinc (v := x_59) (lv' := [(9, .int x_59), (7, .int rh_58), (8, .int rh_53), (0, .ref a0), (1, .int a1), (2, .ref a2), (4, .int a4), (6, .int a6)]) hx hb dX8_whyGrowth_172 hl (k := 7) rfl (by rw [ex_59]; rfl) (by decide) rfl (fun ls hl => hp_n (n := 175) rfl ?_)
                  refine lv_goto (tgt := 115) hx hb dX8_whyGrowth_175 (by decide) ?_
                  exact ih115 _ (by have q0 := ib_hi x_3; have q1 := ib_lo x_3; have qa := ib_hi v9_h_48; have qb := ib_lo v9_h_48; have qc : (v9_h_48 + 1).toInt = v9_h_48.toInt + (1 : Int32).toInt := ii_add (by omega) (by omega); rw [ex_59]; omega) Hh_58 Lh_58 Bh_58 rh_58 rh_53 x_59 (by omega) ls (lv_sub hl [3, 4, 5, 6, 7, 1, 2, 0] rfl) rfl
            refine lv_istore (lv' := [(9, .int 1), (8, .int rh_34), (7, .int rh_34), (0, .ref a0), (1, .int a1), (2, .ref a2), (3, .int a3), (4, .int a4), (5, .int a5), (6, .int a6)]) hx hb dX8_whyGrowth_113 hl (by decide) rfl (fun ls hl => hp_n (n := 115) rfl ?_)
            exact J115 _ Hh_34 Lh_34 Bh_34 rh_34 rh_34 1 (by omega) ls (lv_sub hl [3, 4, 5, 7, 9, 2, 1, 0] rfl) rfl
      ·
        have jc_6 := il_eq c_6
        refine lv_iload hx hb dX8_whyGrowth_67 (lv_at hl 4 rfl) (hp_n (n := 69) rfl ?_)
        refine lv_if_ne (tgt := 76) hx hb dX8_whyGrowth_69 (by decide) (fun c_60 => ?_) (fun c_60 => hp_n (n := 72) rfl ?_)
        ·
          have jc_60 := il_ne c_60
          refine lv_iconst (v := 3) hx hb dX8_whyGrowth_76 (by decide) (hp_n (n := 77) rfl ?_)
          exact q_iret C Bh_1 hr hlk Bh_1.2.2 dX8_whyGrowth_77
        ·
          have jc_60 := il_eq c_60
          refine lv_iconst (v := 0) hx hb dX8_whyGrowth_72 (by decide) (hp_n (n := 73) rfl ?_)
          refine lv_goto (tgt := 77) hx hb dX8_whyGrowth_73 (by decide) ?_
          exact q_iret C Bh_1 hr hlk Bh_1.2.2 dX8_whyGrowth_77
    ·
      have jc_5 := il_eq c_5
      refine lv_iload hx hb dX8_whyGrowth_41 (lv_at hl 4 rfl) (hp_n (n := 43) rfl ?_)
      refine lv_iload hx hb dX8_whyGrowth_43 (lv_at hl 6 rfl) (hp_n (n := 45) rfl ?_)
      refine lv_icmp_ne (tgt := 61) hx hb dX8_whyGrowth_45 (by decide) (fun c_61 => ?_) (fun c_61 => hp_n (n := 48) rfl ?_)
      ·
        have jc_61 := il_ne c_61
        refine lv_iconst (v := 3) hx hb dX8_whyGrowth_61 (by decide) (hp_n (n := 62) rfl ?_)
        exact q_iret C Bh_1 hr hlk Bh_1.2.2 dX8_whyGrowth_62
      ·
        have jc_61 := il_eq c_61
        refine lv_iload_n hx hb dX8_whyGrowth_48 rfl (lv_at hl 3 rfl) (hp_n (n := 49) rfl ?_)
        refine lv_if_ne (tgt := 57) hx hb dX8_whyGrowth_49 (by decide) (fun c_62 => ?_) (fun c_62 => hp_n (n := 52) rfl ?_)
        ·
          have jc_62 := il_ne c_62
          refine lv_iconst (v := 0) hx hb dX8_whyGrowth_57 (by decide) (hp_n (n := 58) rfl ?_)
          refine lv_goto (tgt := 62) hx hb dX8_whyGrowth_58 (by decide) ?_
          exact q_iret C Bh_1 hr hlk Bh_1.2.2 dX8_whyGrowth_62
        ·
          have jc_62 := il_eq c_62
          refine lv_iload hx hb dX8_whyGrowth_52 (lv_at hl 4 rfl) (hp_n (n := 54) rfl ?_)
          refine lv_if_ne (tgt := 61) hx hb dX8_whyGrowth_54 (by decide) (fun c_63 => ?_) (fun c_63 => hp_n (n := 57) rfl ?_)
          ·
            have jc_63 := il_ne c_63
            refine lv_iconst (v := 3) hx hb dX8_whyGrowth_61 (by decide) (hp_n (n := 62) rfl ?_)
            exact q_iret C Bh_1 hr hlk Bh_1.2.2 dX8_whyGrowth_62
          ·
            have jc_63 := il_eq c_63
            refine lv_iconst (v := 0) hx hb dX8_whyGrowth_57 (by decide) (hp_n (n := 58) rfl ?_)
            refine lv_goto (tgt := 62) hx hb dX8_whyGrowth_58 (by decide) ?_
            exact q_iret C Bh_1 hr hlk Bh_1.2.2 dX8_whyGrowth_62
  ·
    have jc_4 := il_ne c_4
    refine lv_aload_n hx hb dX8_whyGrowth_18 rfl (lv_at hl 2 rfl) (hp_n (n := 19) rfl ?_)
    refine q_getj (κ := 6) (k := 1) (φ := 301) (pc' := 22) C Bh_1 (cw_k Bh_1.2.2 k2) fl_X8_74 rfl rfl rfl ex_2 dX8_whyGrowth_19 rfl ?_
    refine lv_aload_n hx hb dX8_whyGrowth_22 rfl (lv_at hl 0 rfl) (hp_n (n := 23) rfl ?_)
    refine q_getj (κ := 9) (k := 3) (φ := 453) (pc' := 26) C Bh_1 (cw_k Bh_1.2.2 k0) fl_X8_22 rfl rfl rfl ex_3 dX8_whyGrowth_23 rfl ?_
    refine lv_icmp_ge (tgt := 33) hx hb dX8_whyGrowth_26 (by decide) (fun c_64 => ?_) (fun c_64 => hp_n (n := 29) rfl ?_)
    ·
      have jc_64 := il_le c_64
      refine lv_iconst (v := 2) hx hb dX8_whyGrowth_33 (by decide) (hp_n (n := 34) rfl ?_)
      exact q_iret C Bh_1 hr hlk Bh_1.2.2 dX8_whyGrowth_34
    ·
      have jc_64 := il_nle c_64
      refine lv_iconst (v := 1) hx hb dX8_whyGrowth_29 (by decide) (hp_n (n := 30) rfl ?_)
      refine lv_goto (tgt := 34) hx hb dX8_whyGrowth_30 (by decide) ?_
      exact q_iret C Bh_1 hr hlk Bh_1.2.2 dX8_whyGrowth_34
end JN2_9
section JN2_10
abbrev w_X2_wordAt : cw_W := ([], [], [], [])
set_option maxRecDepth 100000 in
set_option maxHeartbeats 4000000 in
theorem t_X2_wordAt (Γ : hp_G) (l : Launch) (α : hp_T) (g : GC α) (a0 : Nat) (k0 : hp_K α a0 = 3) (a1 : Int32) : Met l yX2_wordAt (hp_ws yX2_wordAt cX2_wordAt 2 (some (.object "ProvenRecord$Word"))) (hp_rm 0 0 0) (hp_Pc Γ α [.ref a0, .int a1]) (hp_Qq Γ (fun r β => β = α ∧ ∀ b, r = some b → hp_K α b = 10 ∧ 0 ≤ a1.toInt)) 0 0 (hp_A Γ) := by
  refine hp_start (by decide) ?_
  intro p e s m below meth c C hr hlk B0 hnm
  have C : hp_C Γ p m c cX2_wordAt 2 s ([.ref a0, .int a1] : List Value).toArray RX2 := C
  have hx := C.1.1
  have hb := C.1.2.1
  have hown := C.1.2.2.2.1
  have hts := C.1.2.2.2.2
  have B : hp_B Γ (cw w_X2_wordAt) s α α s.heap [] := ⟨B0.1, B0.2.1, cw_rf g⟩
  have lit0 : (0 : Int32).toInt = 0 := by decide
  have lit48 : (48 : Int32).toInt = 48 := by decide
  have hl := lv_entry ([.ref a0, .int a1]) (n := 2) (Nat.le_of_ble_eq_true rfl)
  show W p l e (hp_rm 0 0 0) s m ([.ref a0, .int a1] : List Value).toArray below meth c s.heap [] 0 0 (MQ below (hp_Qq Γ (fun r β => β = α ∧ ∀ b, r = some b → hp_K α b = 10 ∧ 0 ≤ a1.toInt)) ([.ref a0, .int a1] : List Value).toArray s 0 0 (hp_A Γ)) (entryFrame m ([.ref a0, .int a1] : List Value).toArray 2)
  rw [lg_entry_eq]
  generalize (lg_sl ([.ref a0, .int a1]) ++ List.replicate (2 - (lg_sl ([.ref a0, .int a1])).length) Slot.unset).toArray = ls at hl ⊢
  have hl : lv_has ls 2 [(0, .ref a0), (1, .int a1)] := hl
  refine lv_iload_n hx hb dX2_wordAt_0 rfl (lv_at hl 1 rfl) (hp_n (n := 1) rfl ?_)
  refine lv_if_lt (tgt := 30) hx hb dX2_wordAt_1 (by decide) (fun c_1 => ?_) (fun c_1 => hp_n (n := 4) rfl ?_)
  ·
    have jc_1 := il_lt c_1
    refine lv_null hx hb dX2_wordAt_30 (hp_n (n := 31) rfl ?_)
    exact q_aret (x := none) C B hr hlk ⟨rfl, fun b h => by cases h⟩ dX2_wordAt_31
  ·
    have jc_1 := il_nlt c_1
    refine lv_iload_n hx hb dX2_wordAt_4 rfl (lv_at hl 1 rfl) (hp_n (n := 5) rfl ?_)
    refine lv_aload_n hx hb dX2_wordAt_5 rfl (lv_at hl 0 rfl) (hp_n (n := 6) rfl ?_)
    refine q_geti (κ := 3) (k := 2) (φ := 152) (pc' := 9) C B (cw_k B.2.2 k0) fl_X2_21 rfl rfl rfl dX2_wordAt_6 rfl (fun x_2 ex_2 => ?_)
    refine lv_icmp_ge (tgt := 30) hx hb dX2_wordAt_9 (by decide) (fun c_3 => ?_) (fun c_3 => hp_n (n := 12) rfl ?_)
    ·
      have jc_3 := il_le c_3
      refine lv_null hx hb dX2_wordAt_30 (hp_n (n := 31) rfl ?_)
      exact q_aret (x := none) C B hr hlk ⟨rfl, fun b h => by cases h⟩ dX2_wordAt_31
    ·
      have jc_3 := il_nle c_3
      refine lv_iload_n hx hb dX2_wordAt_12 rfl (lv_at hl 1 rfl) (hp_n (n := 13) rfl ?_)
      refine lv_aload_n hx hb dX2_wordAt_13 rfl (lv_at hl 0 rfl) (hp_n (n := 14) rfl ?_)
      refine q_getr (κ := 3) (k := 0) (φ := 150) (pc' := 17) C B (cw_k B.2.2 k0) fl_X2_11 rfl rfl rfl (cw_r B.2.2 k0 rfl rfl (by decide) (by decide)) dX2_wordAt_14 rfl (fun b_4 eb_4 kb_4 => ?_)
      refine q_alen (κ := 28) (t := 7) (n := 48) (x := 48) (ty := .object "ProvenRecord$Word") (pc' := 18) C B (cw_k B.2.2 kb_4) (by decide) rfl rfl rfl dX2_wordAt_17 rfl ?_
      refine lv_icmp_ge (tgt := 30) hx hb dX2_wordAt_18 (by decide) (fun c_5 => ?_) (fun c_5 => hp_n (n := 21) rfl ?_)
      ·
        have jc_5 := il_le c_5
        refine lv_null hx hb dX2_wordAt_30 (hp_n (n := 31) rfl ?_)
        exact q_aret (x := none) C B hr hlk ⟨rfl, fun b h => by cases h⟩ dX2_wordAt_31
      ·
        have jc_5 := il_nle c_5
        refine lv_aload_n hx hb dX2_wordAt_21 rfl (lv_at hl 0 rfl) (hp_n (n := 22) rfl ?_)
        refine q_gets (κ := 3) (k := 0) (φ := 150) (pc' := 25) C B (cw_k B.2.2 k0) fl_X2_11 rfl rfl rfl eb_4 dX2_wordAt_22 rfl ?_
        refine lv_iload_n hx hb dX2_wordAt_25 rfl (lv_at hl 1 rfl) (hp_n (n := 26) rfl ?_)
        refine q_aal (κ := 28) (t := 7) (n := 48) (C0 := "ProvenRecord$Word") (pc' := 27) C B (cw_k B.2.2 kb_4) (by decide) rfl rfl (by decide) (vi_of (by omega) (by omega)) dX2_wordAt_26 rfl ?_
        rcases hqb_6 : hp_Q α 28 b_4 a1.toNatClampNeg with _ | b_6
        ·
          refine lv_goto (tgt := 31) hx hb dX2_wordAt_27 (by decide) ?_
          exact q_aret (x := none) C B hr hlk ⟨rfl, fun b h => by cases h⟩ dX2_wordAt_31
        ·
          have kb_6 := cw_q B.2.2 kb_4 rfl (by decide) hqb_6
          refine lv_goto (tgt := 31) hx hb dX2_wordAt_27 (by decide) ?_
          exact q_aret (x := (some b_6)) C B hr hlk ⟨rfl, fun b h => by cases h; exact ⟨kb_6, by omega⟩⟩ dX2_wordAt_31
abbrev w_X2_markAt : cw_W := ([], [], [], [])
set_option maxRecDepth 100000 in
set_option maxHeartbeats 4000000 in
theorem t_X2_markAt (Γ : hp_G) (l : Launch) (α : hp_T) (g : GC α) (a0 : Nat) (k0 : hp_K α a0 = 3) (a1 : Int32) : Met l yX2_markAt (hp_ws yX2_markAt cX2_markAt 2 (some .int)) (hp_rm 0 0 0) (hp_Pc Γ α [.ref a0, .int a1]) (hp_Qi Γ (fun r β => β = α)) 0 0 (hp_A Γ) := by
  refine hp_start (by decide) ?_
  intro p e s m below meth c C hr hlk B0 hnm
  have C : hp_C Γ p m c cX2_markAt 2 s ([.ref a0, .int a1] : List Value).toArray RX2 := C
  have hx := C.1.1
  have hb := C.1.2.1
  have hown := C.1.2.2.2.1
  have hts := C.1.2.2.2.2
  have B : hp_B Γ (cw w_X2_markAt) s α α s.heap [] := ⟨B0.1, B0.2.1, cw_rf g⟩
  have lit0 : (0 : Int32).toInt = 0 := by decide
  have lit48 : (48 : Int32).toInt = 48 := by decide
  have hl := lv_entry ([.ref a0, .int a1]) (n := 2) (Nat.le_of_ble_eq_true rfl)
  show W p l e (hp_rm 0 0 0) s m ([.ref a0, .int a1] : List Value).toArray below meth c s.heap [] 0 0 (MQ below (hp_Qi Γ (fun r β => β = α)) ([.ref a0, .int a1] : List Value).toArray s 0 0 (hp_A Γ)) (entryFrame m ([.ref a0, .int a1] : List Value).toArray 2)
  rw [lg_entry_eq]
  generalize (lg_sl ([.ref a0, .int a1]) ++ List.replicate (2 - (lg_sl ([.ref a0, .int a1])).length) Slot.unset).toArray = ls at hl ⊢
  have hl : lv_has ls 2 [(0, .ref a0), (1, .int a1)] := hl
  refine lv_iload_n hx hb dX2_markAt_0 rfl (lv_at hl 1 rfl) (hp_n (n := 1) rfl ?_)
  refine lv_if_lt (tgt := 30) hx hb dX2_markAt_1 (by decide) (fun c_1 => ?_) (fun c_1 => hp_n (n := 4) rfl ?_)
  ·
    have jc_1 := il_lt c_1
    refine lv_iconst (v := 0) hx hb dX2_markAt_30 (by decide) (hp_n (n := 31) rfl ?_)
    exact q_iret C B hr hlk rfl dX2_markAt_31
  ·
    have jc_1 := il_nlt c_1
    refine lv_iload_n hx hb dX2_markAt_4 rfl (lv_at hl 1 rfl) (hp_n (n := 5) rfl ?_)
    refine lv_aload_n hx hb dX2_markAt_5 rfl (lv_at hl 0 rfl) (hp_n (n := 6) rfl ?_)
    refine q_geti (κ := 3) (k := 2) (φ := 152) (pc' := 9) C B (cw_k B.2.2 k0) fl_X2_21 rfl rfl rfl dX2_markAt_6 rfl (fun x_2 ex_2 => ?_)
    refine lv_icmp_ge (tgt := 30) hx hb dX2_markAt_9 (by decide) (fun c_3 => ?_) (fun c_3 => hp_n (n := 12) rfl ?_)
    ·
      have jc_3 := il_le c_3
      refine lv_iconst (v := 0) hx hb dX2_markAt_30 (by decide) (hp_n (n := 31) rfl ?_)
      exact q_iret C B hr hlk rfl dX2_markAt_31
    ·
      have jc_3 := il_nle c_3
      refine lv_iload_n hx hb dX2_markAt_12 rfl (lv_at hl 1 rfl) (hp_n (n := 13) rfl ?_)
      refine lv_aload_n hx hb dX2_markAt_13 rfl (lv_at hl 0 rfl) (hp_n (n := 14) rfl ?_)
      refine q_getr (κ := 3) (k := 1) (φ := 151) (pc' := 17) C B (cw_k B.2.2 k0) fl_X2_17 rfl rfl rfl (cw_r B.2.2 k0 rfl rfl (by decide) (by decide)) dX2_markAt_14 rfl (fun b_4 eb_4 kb_4 => ?_)
      refine q_alen (κ := 29) (t := 0) (n := 48) (x := 48) (ty := .int) (pc' := 18) C B (cw_k B.2.2 kb_4) (by decide) rfl rfl rfl dX2_markAt_17 rfl ?_
      refine lv_icmp_ge (tgt := 30) hx hb dX2_markAt_18 (by decide) (fun c_5 => ?_) (fun c_5 => hp_n (n := 21) rfl ?_)
      ·
        have jc_5 := il_le c_5
        refine lv_iconst (v := 0) hx hb dX2_markAt_30 (by decide) (hp_n (n := 31) rfl ?_)
        exact q_iret C B hr hlk rfl dX2_markAt_31
      ·
        have jc_5 := il_nle c_5
        refine lv_aload_n hx hb dX2_markAt_21 rfl (lv_at hl 0 rfl) (hp_n (n := 22) rfl ?_)
        refine q_gets (κ := 3) (k := 1) (φ := 151) (pc' := 25) C B (cw_k B.2.2 k0) fl_X2_17 rfl rfl rfl eb_4 dX2_markAt_22 rfl ?_
        refine lv_iload_n hx hb dX2_markAt_25 rfl (lv_at hl 1 rfl) (hp_n (n := 26) rfl ?_)
        refine q_ial (κ := 29) (n := 48) (pc' := 27) C B (cw_k B.2.2 kb_4) (by decide) rfl (vi_of (by omega) (by omega)) dX2_markAt_26 rfl (lv_topi (fun x_6 ex_6 => ?_))
        refine lv_goto (tgt := 31) hx hb dX2_markAt_27 (by decide) ?_
        exact q_iret C B hr hlk rfl dX2_markAt_31
abbrev w_X2_putWord : cw_W := ([152, 501], [], [27, 29], [])
abbrev w_X2_changeLetter : cw_W := ([], [], [27, 29], [])
abbrev w_X2_firstLike : cw_W := ([], [], [], [])
set_option maxRecDepth 100000 in
set_option maxHeartbeats 4000000 in
theorem t_X2_firstLike (Γ : hp_G) (l : Launch) (α : hp_T) (g : GC α) (a0 : Nat) (k0 : hp_K α a0 = 3) (a1 : Nat) (k1 : hp_K α a1 = 10) : Met l yX2_firstLike (hp_ws yX2_firstLike cX2_firstLike 4 (some .int)) (hp_rm 2 0 0) (hp_Pc Γ α [.ref a0, .ref a1]) (hp_Qi Γ (fun r β => β = α)) 0 0 (hp_A Γ) := by
  refine hp_start (by decide) ?_
  intro p e s m below meth c C hr hlk B0 hnm
  have C : hp_C Γ p m c cX2_firstLike 4 s ([.ref a0, .ref a1] : List Value).toArray RX2 := C
  have hx := C.1.1
  have hb := C.1.2.1
  have hown := C.1.2.2.2.1
  have hts := C.1.2.2.2.2
  have B : hp_B Γ (cw w_X2_firstLike) s α α s.heap [] := ⟨B0.1, B0.2.1, cw_rf g⟩
  have litm1 : ((-1) : Int32).toInt = (-1) := by decide
  have lit0 : (0 : Int32).toInt = 0 := by decide
  have lit1 : (1 : Int32).toInt = 1 := by decide
  have hl := lv_entry ([.ref a0, .ref a1]) (n := 4) (Nat.le_of_ble_eq_true rfl)
  show W p l e (hp_rm 2 0 0) s m ([.ref a0, .ref a1] : List Value).toArray below meth c s.heap [] 0 0 (MQ below (hp_Qi Γ (fun r β => β = α)) ([.ref a0, .ref a1] : List Value).toArray s 0 0 (hp_A Γ)) (entryFrame m ([.ref a0, .ref a1] : List Value).toArray 4)
  rw [lg_entry_eq]
  generalize (lg_sl ([.ref a0, .ref a1]) ++ List.replicate (4 - (lg_sl ([.ref a0, .ref a1])).length) Slot.unset).toArray = ls at hl ⊢
  have hl : lv_has ls 4 [(0, .ref a0), (1, .ref a1)] := hl
  refine lv_iconst (v := 0) hx hb dX2_firstLike_0 (by decide) (hp_n (n := 1) rfl ?_)
  have J2 : ∀ (nq : Nat) (Hh_1 : Heap) (Lh_1 : List Loc) (Bh_1 : hp_B Γ (cw w_X2_firstLike) s α α Hh_1 Lh_1) (v2_h_1 : Int32) (ih_1_0 : 0 ≤ v2_h_1.toInt) (ls : Array Slot) (hl : lv_has ls 4 [(0, .ref a0), (1, .ref a1), (2, .int v2_h_1)]) (hmu2 : (2147483647 - v2_h_1.toInt).toNat = nq), W p l e (hp_rm 2 0 0) s m ([.ref a0, .ref a1] : List Value).toArray below meth c Hh_1 Lh_1 0 0 (MQ below (hp_Qi Γ (fun r β => β = α)) ([.ref a0, .ref a1] : List Value).toArray s 0 0 (hp_A Γ)) (F0 m 2 ls []) := by
    intro nq
    induction nq using Nat.strongRecOn with
    | ind nq ih2 =>
    intro Hh_1 Lh_1 Bh_1 v2_h_1 ih_1_0 ls hl hmu2
    have inv2_0 := ih_1_0
    refine lv_iload_n hx hb dX2_firstLike_2 rfl (lv_at hl 2 rfl) (hp_n (n := 3) rfl ?_)
    refine lv_aload_n hx hb dX2_firstLike_3 rfl (lv_at hl 0 rfl) (hp_n (n := 4) rfl ?_)
    refine q_geti (κ := 3) (k := 2) (φ := 152) (pc' := 7) C Bh_1 (cw_k Bh_1.2.2 k0) fl_X2_21 rfl rfl rfl dX2_firstLike_4 rfl (fun x_2 ex_2 => ?_)
    refine lv_icmp_ge (tgt := 36) hx hb dX2_firstLike_7 (by decide) (fun c_3 => ?_) (fun c_3 => hp_n (n := 10) rfl ?_)
    ·
      have jc_3 := il_le c_3
      refine lv_iconst (v := (-1)) hx hb dX2_firstLike_36 (by decide) (hp_n (n := 37) rfl ?_)
      exact q_iret C Bh_1 hr hlk rfl dX2_firstLike_37
    ·
      have jc_3 := il_nle c_3
      refine lv_aload_n hx hb dX2_firstLike_10 rfl (lv_at hl 0 rfl) (hp_n (n := 11) rfl ?_)
      refine lv_iload_n hx hb dX2_firstLike_11 rfl (lv_at hl 2 rfl) (hp_n (n := 12) rfl ?_)
      refine q_cq (pc' := 15) Bh_1 (hp_runV (As := [.int v2_h_1]) (rest := []) C Bh_1 (t_X2_wordAt Γ l α Bh_1.2.2.1 a0 (cw_k Bh_1.2.2 k0) v2_h_1) lb_X2_wordAt lv_X2_wordAt lk_X2_34 (cw_k Bh_1.2.2 k0) rfl (by decide) rfl hl.1 rfl (Nat.le_of_ble_eq_true rfl) dX2_firstLike_12 ⟨Nat.le_refl _, Nat.le_refl _⟩) (fun _ _ h => by rw [h.1]; exact Bh_1.2.2) rfl (fun rh_4 αh_4 Hh_4 Lh_4 ph_4 Bh_4 => ?_)
      rw [ph_4.1] at Bh_4
      rcases rh_4 with _ | bh_4
      ·
        refine lv_astore_nN (lv' := [(3, .null), (0, .ref a0), (1, .ref a1), (2, .int v2_h_1)]) hx hb dX2_firstLike_15 rfl hl (by decide) rfl (fun ls hl => hp_n (n := 16) rfl ?_)
        refine lv_aload_nN hx hb dX2_firstLike_16 rfl (lv_at hl 0 rfl) (hp_n (n := 17) rfl ?_)
        refine lv_ifnullN (tgt := 30) hx hb dX2_firstLike_17 (by decide) ?_
        obtain ⟨x_5, ex_5⟩ : ∃ y : Int32, y = v2_h_1 + 1 := ⟨_, rfl⟩
        have qx_5 : x_5.toInt = v2_h_1.toInt + 1 := by have q0 := ib_hi x_2; have qa := ib_lo v2_h_1; rw [ex_5]; exact ii_add (by omega) (by omega)
        refine lv_iinc (v := x_5) (lv' := [(2, .int x_5), (3, .null), (0, .ref a0), (1, .ref a1)]) hx hb dX2_firstLike_30 hl (k := 3) rfl (by rw [ex_5]; rfl) (by decide) rfl (fun ls hl => hp_n (n := 33) rfl ?_)
        refine lv_goto (tgt := 2) hx hb dX2_firstLike_33 (by decide) ?_
        exact ih2 _ (by have q0 := ib_hi x_2; have q1 := ib_lo x_2; have qa := ib_hi v2_h_1; have qb := ib_lo v2_h_1; have qc : (v2_h_1 + 1).toInt = v2_h_1.toInt + (1 : Int32).toInt := ii_add (by omega) (by omega); rw [ex_5]; omega) Hh_4 Lh_4 Bh_4 x_5 (by omega) ls (lv_sub hl [2, 3, 0] rfl) rfl
      ·
        have kbh_4 : hp_K α bh_4 = 10 := cw_k' Bh_4.2.2 (ph_4.2 bh_4 rfl).1
        have nxh_4 := (ph_4.2 bh_4 rfl).2
        refine lv_astore_n (lv' := [(3, .ref bh_4), (0, .ref a0), (1, .ref a1), (2, .int v2_h_1)]) hx hb dX2_firstLike_15 rfl hl (by decide) rfl (fun ls hl => hp_n (n := 16) rfl ?_)
        refine lv_aload_n hx hb dX2_firstLike_16 rfl (lv_at hl 0 rfl) (hp_n (n := 17) rfl ?_)
        refine lv_ifnull hx hb dX2_firstLike_17 (hp_n (n := 20) rfl ?_)
        refine lv_aload_n hx hb dX2_firstLike_20 rfl (lv_at hl 0 rfl) (hp_n (n := 21) rfl ?_)
        refine lv_aload_n hx hb dX2_firstLike_21 rfl (lv_at hl 2 rfl) (hp_n (n := 22) rfl ?_)
        refine q_ci (pc' := 25) Bh_4 (hp_runV (As := [.ref a1]) (rest := []) C Bh_4 (t_X9_isLike Γ l α Bh_4.2.2.1 bh_4 (cw_k Bh_4.2.2 kbh_4) a1 (cw_k Bh_4.2.2 k1)) lb_X9_isLike lv_X9_isLike lk_X2_42 (cw_k Bh_4.2.2 kbh_4) rfl (by decide) rfl hl.1 rfl (Nat.le_of_ble_eq_true rfl) dX2_firstLike_22 ⟨Nat.le_refl _, Nat.le_refl _⟩) (fun _ _ h => by rw [h.1]; exact Bh_4.2.2) rfl (fun rh_6 αh_6 Hh_6 Lh_6 ph_6 Bh_6 => ?_)
        rw [ph_6.1] at Bh_6
        have zh_6 := ph_6.2
        refine lv_if_eq (tgt := 30) hx hb dX2_firstLike_25 (by decide) (fun c_7 => ?_) (fun c_7 => hp_n (n := 28) rfl ?_)
        ·
          have jc_7 := il_eq c_7
          obtain ⟨x_8, ex_8⟩ : ∃ y : Int32, y = v2_h_1 + 1 := ⟨_, rfl⟩
          have qx_8 : x_8.toInt = v2_h_1.toInt + 1 := by have q0 := ib_hi x_2; have qa := ib_lo v2_h_1; rw [ex_8]; exact ii_add (by omega) (by omega)
          refine lv_iinc (v := x_8) (lv' := [(2, .int x_8), (3, .ref bh_4), (0, .ref a0), (1, .ref a1)]) hx hb dX2_firstLike_30 hl (k := 3) rfl (by rw [ex_8]; rfl) (by decide) rfl (fun ls hl => hp_n (n := 33) rfl ?_)
          refine lv_goto (tgt := 2) hx hb dX2_firstLike_33 (by decide) ?_
          exact ih2 _ (by have q0 := ib_hi x_2; have q1 := ib_lo x_2; have qa := ib_hi v2_h_1; have qb := ib_lo v2_h_1; have qc : (v2_h_1 + 1).toInt = v2_h_1.toInt + (1 : Int32).toInt := ii_add (by omega) (by omega); rw [ex_8]; omega) Hh_6 Lh_6 Bh_6 x_8 (by omega) ls (lv_sub hl [2, 3, 0] rfl) rfl
        ·
          have jc_7 := il_ne c_7
          refine lv_iload_n hx hb dX2_firstLike_28 rfl (lv_at hl 3 rfl) (hp_n (n := 29) rfl ?_)
          exact q_iret C Bh_6 hr hlk rfl dX2_firstLike_29
  refine lv_istore_n (lv' := [(2, .int 0), (0, .ref a0), (1, .ref a1)]) hx hb dX2_firstLike_1 rfl hl (by decide) rfl (fun ls hl => hp_n (n := 2) rfl ?_)
  exact J2 _ s.heap [] B 0 (by omega) ls (lv_sub hl [1, 2, 0] rfl) rfl
abbrev w_X2_countLike : cw_W := ([], [], [], [])
set_option maxRecDepth 100000 in
set_option maxHeartbeats 4000000 in
theorem t_X2_countLike (Γ : hp_G) (l : Launch) (α : hp_T) (g : GC α) (a0 : Nat) (k0 : hp_K α a0 = 3) (a1 : Nat) (k1 : hp_K α a1 = 10) : Met l yX2_countLike (hp_ws yX2_countLike cX2_countLike 5 (some .int)) (hp_rm 2 0 0) (hp_Pc Γ α [.ref a0, .ref a1]) (hp_Qi Γ (fun r β => β = α)) 0 0 (hp_A Γ) := by
  refine hp_start (by decide) ?_
  intro p e s m below meth c C hr hlk B0 hnm
  have C : hp_C Γ p m c cX2_countLike 5 s ([.ref a0, .ref a1] : List Value).toArray RX2 := C
  have hx := C.1.1
  have hb := C.1.2.1
  have hown := C.1.2.2.2.1
  have hts := C.1.2.2.2.2
  have B : hp_B Γ (cw w_X2_countLike) s α α s.heap [] := ⟨B0.1, B0.2.1, cw_rf g⟩
  have lit0 : (0 : Int32).toInt = 0 := by decide
  have lit1 : (1 : Int32).toInt = 1 := by decide
  have hl := lv_entry ([.ref a0, .ref a1]) (n := 5) (Nat.le_of_ble_eq_true rfl)
  show W p l e (hp_rm 2 0 0) s m ([.ref a0, .ref a1] : List Value).toArray below meth c s.heap [] 0 0 (MQ below (hp_Qi Γ (fun r β => β = α)) ([.ref a0, .ref a1] : List Value).toArray s 0 0 (hp_A Γ)) (entryFrame m ([.ref a0, .ref a1] : List Value).toArray 5)
  rw [lg_entry_eq]
  generalize (lg_sl ([.ref a0, .ref a1]) ++ List.replicate (5 - (lg_sl ([.ref a0, .ref a1])).length) Slot.unset).toArray = ls at hl ⊢
  have hl : lv_has ls 5 [(0, .ref a0), (1, .ref a1)] := hl
  refine lv_iconst (v := 0) hx hb dX2_countLike_0 (by decide) (hp_n (n := 1) rfl ?_)
  refine lv_istore_n (lv' := [(2, .int 0), (0, .ref a0), (1, .ref a1)]) hx hb dX2_countLike_1 rfl hl (by decide) rfl (fun ls hl => hp_n (n := 2) rfl ?_)
  refine lv_iconst (v := 0) hx hb dX2_countLike_2 (by decide) (hp_n (n := 3) rfl ?_)
  have J4 : ∀ (nq : Nat) (Hh_1 : Heap) (Lh_1 : List Loc) (Bh_1 : hp_B Γ (cw w_X2_countLike) s α α Hh_1 Lh_1) (v2_h_1 : Int32) (v3_h_1 : Int32) (ih_1_0 : 0 ≤ v3_h_1.toInt) (ls : Array Slot) (hl : lv_has ls 5 [(0, .ref a0), (1, .ref a1), (2, .int v2_h_1), (3, .int v3_h_1)]) (hmu4 : (2147483647 - v3_h_1.toInt).toNat = nq), W p l e (hp_rm 2 0 0) s m ([.ref a0, .ref a1] : List Value).toArray below meth c Hh_1 Lh_1 0 0 (MQ below (hp_Qi Γ (fun r β => β = α)) ([.ref a0, .ref a1] : List Value).toArray s 0 0 (hp_A Γ)) (F0 m 4 ls []) := by
    intro nq
    induction nq using Nat.strongRecOn with
    | ind nq ih4 =>
    intro Hh_1 Lh_1 Bh_1 v2_h_1 v3_h_1 ih_1_0 ls hl hmu4
    have inv4_0 := ih_1_0
    refine lv_iload_n hx hb dX2_countLike_4 rfl (lv_at hl 3 rfl) (hp_n (n := 5) rfl ?_)
    refine lv_aload_n hx hb dX2_countLike_5 rfl (lv_at hl 0 rfl) (hp_n (n := 6) rfl ?_)
    refine q_geti (κ := 3) (k := 2) (φ := 152) (pc' := 9) C Bh_1 (cw_k Bh_1.2.2 k0) fl_X2_21 rfl rfl rfl dX2_countLike_6 rfl (fun x_2 ex_2 => ?_)
    refine lv_icmp_ge (tgt := 42) hx hb dX2_countLike_9 (by decide) (fun c_3 => ?_) (fun c_3 => hp_n (n := 12) rfl ?_)
    ·
      have jc_3 := il_le c_3
      refine lv_iload_n hx hb dX2_countLike_42 rfl (lv_at hl 2 rfl) (hp_n (n := 43) rfl ?_)
      exact q_iret C Bh_1 hr hlk rfl dX2_countLike_43
    ·
      have jc_3 := il_nle c_3
      refine lv_aload_n hx hb dX2_countLike_12 rfl (lv_at hl 0 rfl) (hp_n (n := 13) rfl ?_)
      refine lv_iload_n hx hb dX2_countLike_13 rfl (lv_at hl 3 rfl) (hp_n (n := 14) rfl ?_)
      refine q_cq (pc' := 17) Bh_1 (hp_runV (As := [.int v3_h_1]) (rest := []) C Bh_1 (t_X2_wordAt Γ l α Bh_1.2.2.1 a0 (cw_k Bh_1.2.2 k0) v3_h_1) lb_X2_wordAt lv_X2_wordAt lk_X2_34 (cw_k Bh_1.2.2 k0) rfl (by decide) rfl hl.1 rfl (Nat.le_of_ble_eq_true rfl) dX2_countLike_14 ⟨Nat.le_refl _, Nat.le_refl _⟩) (fun _ _ h => by rw [h.1]; exact Bh_1.2.2) rfl (fun rh_4 αh_4 Hh_4 Lh_4 ph_4 Bh_4 => ?_)
      rw [ph_4.1] at Bh_4
      rcases rh_4 with _ | bh_4
      ·
        refine lv_astoreN (lv' := [(4, .null), (0, .ref a0), (1, .ref a1), (2, .int v2_h_1), (3, .int v3_h_1)]) hx hb dX2_countLike_17 hl (by decide) rfl (fun ls hl => hp_n (n := 19) rfl ?_)
        refine lv_aloadN hx hb dX2_countLike_19 (lv_at hl 0 rfl) (hp_n (n := 21) rfl ?_)
        refine lv_ifnullN (tgt := 36) hx hb dX2_countLike_21 (by decide) ?_
        obtain ⟨x_5, ex_5⟩ : ∃ y : Int32, y = v3_h_1 + 1 := ⟨_, rfl⟩
        have qx_5 : x_5.toInt = v3_h_1.toInt + 1 := by have q0 := ib_hi x_2; have qa := ib_lo v3_h_1; rw [ex_5]; exact ii_add (by omega) (by omega)
        refine lv_iinc (v := x_5) (lv' := [(3, .int x_5), (4, .null), (0, .ref a0), (1, .ref a1), (2, .int v2_h_1)]) hx hb dX2_countLike_36 hl (k := 4) rfl (by rw [ex_5]; rfl) (by decide) rfl (fun ls hl => hp_n (n := 39) rfl ?_)
        refine lv_goto (tgt := 4) hx hb dX2_countLike_39 (by decide) ?_
        exact ih4 _ (by have q0 := ib_hi x_2; have q1 := ib_lo x_2; have qa := ib_hi v3_h_1; have qb := ib_lo v3_h_1; have qc : (v3_h_1 + 1).toInt = v3_h_1.toInt + (1 : Int32).toInt := ii_add (by omega) (by omega); rw [ex_5]; omega) Hh_4 Lh_4 Bh_4 v2_h_1 x_5 (by omega) ls (lv_sub hl [2, 3, 4, 0] rfl) rfl
      ·
        have kbh_4 : hp_K α bh_4 = 10 := cw_k' Bh_4.2.2 (ph_4.2 bh_4 rfl).1
        have nxh_4 := (ph_4.2 bh_4 rfl).2
        refine lv_astore (lv' := [(4, .ref bh_4), (0, .ref a0), (1, .ref a1), (2, .int v2_h_1), (3, .int v3_h_1)]) hx hb dX2_countLike_17 hl (by decide) rfl (fun ls hl => hp_n (n := 19) rfl ?_)
        refine lv_aload hx hb dX2_countLike_19 (lv_at hl 0 rfl) (hp_n (n := 21) rfl ?_)
        refine lv_ifnull hx hb dX2_countLike_21 (hp_n (n := 24) rfl ?_)
        refine lv_aload hx hb dX2_countLike_24 (lv_at hl 0 rfl) (hp_n (n := 26) rfl ?_)
        refine lv_aload_n hx hb dX2_countLike_26 rfl (lv_at hl 2 rfl) (hp_n (n := 27) rfl ?_)
        refine q_ci (pc' := 30) Bh_4 (hp_runV (As := [.ref a1]) (rest := []) C Bh_4 (t_X9_isLike Γ l α Bh_4.2.2.1 bh_4 (cw_k Bh_4.2.2 kbh_4) a1 (cw_k Bh_4.2.2 k1)) lb_X9_isLike lv_X9_isLike lk_X2_42 (cw_k Bh_4.2.2 kbh_4) rfl (by decide) rfl hl.1 rfl (Nat.le_of_ble_eq_true rfl) dX2_countLike_27 ⟨Nat.le_refl _, Nat.le_refl _⟩) (fun _ _ h => by rw [h.1]; exact Bh_4.2.2) rfl (fun rh_6 αh_6 Hh_6 Lh_6 ph_6 Bh_6 => ?_)
        rw [ph_6.1] at Bh_6
        have zh_6 := ph_6.2
        refine lv_if_eq (tgt := 36) hx hb dX2_countLike_30 (by decide) (fun c_7 => ?_) (fun c_7 => hp_n (n := 33) rfl ?_)
        ·
          have jc_7 := il_eq c_7
          obtain ⟨x_8, ex_8⟩ : ∃ y : Int32, y = v3_h_1 + 1 := ⟨_, rfl⟩
          have qx_8 : x_8.toInt = v3_h_1.toInt + 1 := by have q0 := ib_hi x_2; have qa := ib_lo v3_h_1; rw [ex_8]; exact ii_add (by omega) (by omega)
          refine lv_iinc (v := x_8) (lv' := [(3, .int x_8), (4, .ref bh_4), (0, .ref a0), (1, .ref a1), (2, .int v2_h_1)]) hx hb dX2_countLike_36 hl (k := 4) rfl (by rw [ex_8]; rfl) (by decide) rfl (fun ls hl => hp_n (n := 39) rfl ?_)
          refine lv_goto (tgt := 4) hx hb dX2_countLike_39 (by decide) ?_
          exact ih4 _ (by have q0 := ib_hi x_2; have q1 := ib_lo x_2; have qa := ib_hi v3_h_1; have qb := ib_lo v3_h_1; have qc : (v3_h_1 + 1).toInt = v3_h_1.toInt + (1 : Int32).toInt := ii_add (by omega) (by omega); rw [ex_8]; omega) Hh_6 Lh_6 Bh_6 v2_h_1 x_8 (by omega) ls (lv_sub hl [2, 3, 4, 0] rfl) rfl
        ·
          have jc_7 := il_ne c_7
          obtain ⟨x_9, ex_9⟩ : ∃ y : Int32, y = v2_h_1 + 1 := ⟨_, rfl⟩
          refine lv_iinc (v := x_9) (lv' := [(2, .int x_9), (4, .ref bh_4), (0, .ref a0), (1, .ref a1), (3, .int v3_h_1)]) hx hb dX2_countLike_33 hl (k := 3) rfl (by rw [ex_9]; rfl) (by decide) rfl (fun ls hl => hp_n (n := 36) rfl ?_)
          obtain ⟨x_10, ex_10⟩ : ∃ y : Int32, y = v3_h_1 + 1 := ⟨_, rfl⟩
          have qx_10 : x_10.toInt = v3_h_1.toInt + 1 := by have q0 := ib_hi x_2; have qa := ib_lo v3_h_1; rw [ex_10]; exact ii_add (by omega) (by omega)
          refine lv_iinc (v := x_10) (lv' := [(3, .int x_10), (2, .int x_9), (4, .ref bh_4), (0, .ref a0), (1, .ref a1)]) hx hb dX2_countLike_36 hl (k := 4) rfl (by rw [ex_10]; rfl) (by decide) rfl (fun ls hl => hp_n (n := 39) rfl ?_)
          refine lv_goto (tgt := 4) hx hb dX2_countLike_39 (by decide) ?_
          exact ih4 _ (by have q0 := ib_hi x_2; have q1 := ib_lo x_2; have qa := ib_hi v3_h_1; have qb := ib_lo v3_h_1; have qc : (v3_h_1 + 1).toInt = v3_h_1.toInt + (1 : Int32).toInt := ii_add (by omega) (by omega); rw [ex_10]; omega) Hh_6 Lh_6 Bh_6 x_9 x_10 (by omega) ls (lv_sub hl [3, 4, 1, 0] rfl) rfl
  refine lv_istore_n (lv' := [(3, .int 0), (2, .int 0), (0, .ref a0), (1, .ref a1)]) hx hb dX2_countLike_3 rfl hl (by decide) rfl (fun ls hl => hp_n (n := 4) rfl ?_)
  exact J4 _ s.heap [] B 0 0 (by omega) ls (lv_sub hl [2, 3, 1, 0] rfl) rfl
end JN2_10
