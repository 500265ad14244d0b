/-! ===== the heap as a picture: kinds, int fields, long fields, references, references that may be null, rows of ints, of longs, of references ===== -/
abbrev hp_T : Type := (Nat → Nat) × (Nat → Nat → Int32) × (Nat → Nat → Int64) × (Nat → Nat → Nat) × (Nat → Nat → Option Nat) × (Nat → Nat → Nat → Int32) × (Nat → Nat → Nat → Int64) × (Nat → Nat → Nat → Option Nat)
def hp_K (α : hp_T) : Nat → Nat := α.1
def hp_I (α : hp_T) : Nat → Nat → Int32 := α.2.1
def hp_J (α : hp_T) : Nat → Nat → Int64 := α.2.2.1
def hp_R (α : hp_T) : Nat → Nat → Nat := α.2.2.2.1
def hp_N (α : hp_T) : Nat → Nat → Option Nat := α.2.2.2.2.1
def hp_E (α : hp_T) : Nat → Nat → Nat → Int32 := α.2.2.2.2.2.1
def hp_L (α : hp_T) : Nat → Nat → Nat → Int64 := α.2.2.2.2.2.2.1
def hp_Q (α : hp_T) : Nat → Nat → Nat → Option Nat := α.2.2.2.2.2.2.2
def hp_up {β : Type} (f : Nat → Nat → β) (φ a : Nat) (v : β) : Nat → Nat → β := fun ψ b => if ψ = φ ∧ b = a then v else f ψ b
def hp_uq {β : Type} (f : Nat → Nat → Nat → β) (κ a j : Nat) (v : β) : Nat → Nat → Nat → β := fun ψ b i => if ψ = κ ∧ b = a ∧ i = j then v else f ψ b i
def hp_sI (α : hp_T) (φ a : Nat) (v : Int32) : hp_T := (α.1, hp_up α.2.1 φ a v, α.2.2)
def hp_sJ (α : hp_T) (φ a : Nat) (v : Int64) : hp_T := (α.1, α.2.1, hp_up α.2.2.1 φ a v, α.2.2.2)
def hp_sR (α : hp_T) (φ a : Nat) (v : Nat) : hp_T := (α.1, α.2.1, α.2.2.1, hp_up α.2.2.2.1 φ a v, α.2.2.2.2)
def hp_sN (α : hp_T) (φ a : Nat) (v : Option Nat) : hp_T := (α.1, α.2.1, α.2.2.1, α.2.2.2.1, hp_up α.2.2.2.2.1 φ a v, α.2.2.2.2.2)
def hp_sE (α : hp_T) (κ a j : Nat) (v : Int32) : hp_T := (α.1, α.2.1, α.2.2.1, α.2.2.2.1, α.2.2.2.2.1, hp_uq α.2.2.2.2.2.1 κ a j v, α.2.2.2.2.2.2)
def hp_sL (α : hp_T) (κ a j : Nat) (v : Int64) : hp_T := (α.1, α.2.1, α.2.2.1, α.2.2.2.1, α.2.2.2.2.1, α.2.2.2.2.2.1, hp_uq α.2.2.2.2.2.2.1 κ a j v, α.2.2.2.2.2.2.2)
def hp_sQ (α : hp_T) (κ a j : Nat) (v : Option Nat) : hp_T := (α.1, α.2.1, α.2.2.1, α.2.2.2.1, α.2.2.2.2.1, α.2.2.2.2.2.1, α.2.2.2.2.2.2.1, hp_uq α.2.2.2.2.2.2.2 κ a j v)
def hp_tl : List (List Nat) := [[0,1,0,0,0], [0,0,0,0,1], [1,1,0], [1,1,1,0,0,0,0,1,0,0], [1,1,0,1,1,0,0,0,0,0,0], [1,0], [1,0,0,0,0,0,0], [0,0,0,0], [1,1,1,0,0], [1,0], [0,1,0,1,0,1,0,1,1,1], [0,1,1,1,1,0,1,1,1,1,1,0,1,1,1,1,1,1,3], [1,1,0,0,1,1,1,0,0,0,0,0,1,1,0,0,1,0,0,0,0,0,0,0,0,0,0,2,1,0,1,1,0,0,0,0,1,1,1,0,1,1,1,1,1,0,1,0]]
def hp_b (κ : Nat) : Nat := if κ < 100 then κ else κ - 100
def hp_rw (t : Nat) : Nat := if t = 1 then 3 else t
def hp_tg (κ : Nat) : List Nat := if κ < 100 then hp_tl.getD (κ - 1) [] else (hp_tl.getD (κ - 101) []).map hp_rw
def hp_v (α : hp_T) (a t φ : Nat) : Value := if t = 0 then .int (hp_I α φ a) else if t = 1 then .ref (hp_R α φ a) else if t = 2 then .long (hp_J α φ a) else va_rf (hp_N α φ a)
def hp_fv (α : hp_T) (a : Nat) : List Nat → Nat → List Value
  | [], _ => []
  | t :: ts, φ => hp_v α a t φ :: hp_fv α a ts (φ + 1)
def hp_al : List (Nat × Nat) := [(0, 64), (0, 64), (0, 64), (2, 64), (1, 900), (1, 256), (0, 256), (1, 8), (7, 48), (0, 48), (4, 4), (5, 16), (6, 4), (0, 48), (0, 65521), (0, 65521), (1, 0), (0, 0), (0, 0), (0, 0), (0, 1980), (0, 1980), (0, 128), (0, 128), (0, 128), (0, 8), (0, 8), (1, 900), (3, 12), (0, 20), (0, 20), (0, 64), (0, 64), (0, 64), (0, 64), (0, 64), (0, 64), (0, 256), (0, 256), (0, 900)]
def hp_ar (κ : Nat) : Nat × Nat := hp_al.getD (κ - 20) (0, 0)
def hp_cx (α : hp_T) (κ a : Nat) (t : Nat) : (Nat → Int32) ⊕ (Nat → Int64) ⊕ (Nat → UInt32) ⊕ (Nat → UInt64) ⊕ (Nat → Option Nat) := if t < 3 then .inl (hp_E α κ a) else if t = 3 then .inr (.inl (hp_L α κ a)) else .inr (.inr (.inr (.inr (hp_Q α κ a))))
def hp_ca (dA : Nat → ClassId) (α : hp_T) (κ a : Nat) : va_E := .inl (dA (hp_ar κ).1, (hp_ar κ).2, hp_cx α κ a (hp_ar κ).1)
def hp_ce (dA : Nat → ClassId) (α : hp_T) (κ a : Nat) : va_E := if 20 ≤ κ ∧ κ < 60 then hp_ca dA α κ a else .inr (hp_b κ - 1, hp_fv α a (hp_tg κ) (50 * hp_b κ))
def hp_tys (dA : Nat → ClassId) : List (ClassId × FieldType) := [(dA 0, .int), (dA 1, .byte), (dA 2, .boolean), (dA 3, .long), (dA 4, .object "ProvenRecord$Log"), (dA 5, .object "ProvenRecord$Frozen"), (dA 6, .object "ProvenRecord$Watcher"), (dA 7, .object "ProvenRecord$Word")]
/-- the heap at the law's start; class numbers, slots, row classes -/
abbrev hp_G : Type := Heap × (Nat → ClassId) × (Nat → Nat → Nat) × (Nat → ClassId) × (Nat → Nat) × (Nat → Nat)
def hp_A (Γ : hp_G) : Nat → Prop := fun q => Γ.1.size ≤ q
def hp_Rep (Γ : hp_G) (α : hp_T) (H : Heap) : Prop := Γ.1.size ≤ H.size ∧ (∀ q : Nat, q < Γ.1.size → H[q]? = Γ.1[q]?) ∧ ∀ a : Nat, hp_K α a ≠ 0 → Γ.1.size ≤ a ∧ va_at (Γ.2.1, Γ.2.2.1) vwCl (a, hp_ce Γ.2.2.2.1 α (hp_K α a) a) H
def hp_isN : Cond → Bool
  | .methodLinkNest _ _ _ _ => true
  | .arrayOver (.object _) => true
  | _ => false
/-- the texts: where they stand, which they are -/
def hp_sl : List (String × Nat × String × Nat) := [("ProvenRecord", 409, "in ", 15), ("ProvenRecord", 418, " of ", 4), ("ProvenRecord", 420, " mark ", 3), ("ProvenRecord", 422, " head ", 2), ("ProvenRecord", 427, "grow ", 12), ("ProvenRecord", 429, " to ", 5), ("ProvenRecord", 496, " by", 1), ("ProvenRecord", 498, " ", 0), ("ProvenRecord", 500, ";", 6), ("ProvenRecord$Reader", 107, "freeze", 10), ("ProvenRecord$Reader", 112, "show", 19), ("ProvenRecord$Reader", 127, "in", 14), ("ProvenRecord$Reader", 129, "grow", 11), ("ProvenRecord$Reader", 156, "of", 18), ("ProvenRecord$Reader", 161, "mark", 16), ("ProvenRecord$Reader", 166, "head", 13), ("ProvenRecord$Reader", 186, "by", 8), ("ProvenRecord$Reader", 69, "mod", 17), ("ProvenRecord$Reader", 86, "add", 7), ("ProvenRecord$Reader", 92, "to", 20), ("ProvenRecord$Reader", 97, "fork", 9), ("ProvenRecordModel", 447, "in", 14), ("ProvenRecordModel", 453, "of", 18), ("ProvenRecordModel", 455, "mark", 16), ("ProvenRecordModel", 457, "head", 13), ("ProvenRecordModel", 462, "grow", 11), ("ProvenRecordModel", 464, "to", 20)]
def hp_sn : List Nat := [1, 3, 6, 6, 4, 4, 1, 3, 2, 4, 6, 4, 5, 4, 2, 3, 4, 3, 2, 4, 2]
def hp_sb : List (List Int32) := [[32], [32, 98, 121], [32, 104, 101, 97, 100, 32], [32, 109, 97, 114, 107, 32], [32, 111, 102, 32], [32, 116, 111, 32], [59], [97, 100, 100], [98, 121], [102, 111, 114, 107], [102, 114, 101, 101, 122, 101], [103, 114, 111, 119], [103, 114, 111, 119, 32], [104, 101, 97, 100], [105, 110], [105, 110, 32], [109, 97, 114, 107], [109, 111, 100], [111, 102], [115, 104, 111, 119], [116, 111]]
def hp_nest : List Cond := lw_tbl.filter hp_isN
def lw_u : List Cond := lw_tbl.filter goodWord
/-- texts and statics of the JDK as they are at the law's start -/
def hp_TX (Γ : hp_G) (U : State) : Prop := (∀ q ∈ hp_sl, vk_R q.1 q.2.1 q.2.2.1 (Γ.2.2.2.2.1 q.2.2.2) U) ∧ vk_S 21 hp_sn hp_sb Γ.2.2.2.2.1 Γ.2.2.2.2.2 (hp_A Γ) U Γ.1 ∧ va_Z "java/lang/String" "COMPACT_STRINGS" "Z" (.int 1) (hp_A Γ) U Γ.1 ∧ va_Zq "jdk/internal/util/Preconditions" "SIOOBE_FORMATTER" "Ljava/util/function/BiFunction;" (hp_A Γ) U Γ.1
def hp_KK (Γ : hp_G) (U : State) : Prop := va_K (Γ.2.1, Γ.2.2.1) vwCl (hp_tys Γ.2.2.2.1) U ∧ (∀ w ∈ hp_nest, va_Nw w U) ∧ hp_TX Γ U
def hp_ws (y : MethodName) (cc : ByteArray) (n : Nat) (ret : Option FieldType) : List Cond := Cond.code y cc n ret :: lw_u
def hp_B (Γ : hp_G) (Iv : hp_T → hp_T → Prop) (s : State) (α0 α : hp_T) (H : Heap) (locs : List Loc) : Prop := hp_Rep Γ α H ∧ va_S (hp_A Γ) s.heap H locs ∧ Iv α0 α
def hp_C (Γ : hp_G) (p : Program) (m : MethodId) (c : Code) (cc : ByteArray) (nL : Nat) (s : State) (args : Array Value) (own : String) : Prop := CallFix p m c cc nL s args lw_u own ∧ hp_KK Γ s
def hp_q (κ : Nat) : vw_C := vwCl.getD (κ - 1) (RX0, TX0, 5)
def hp_ty (κ : Nat) : Nat → FieldType := ([tyX0, tyX1, tyX2, tyX3, tyX4, tyX5, tyX6, tyX7, tyX8, tyX9, tyX10, tyX11, tyX12] : List (Nat → FieldType)).getD (κ - 1) tyX0
theorem hp_mu {w : Cond} (h : w ∈ lw_tbl) (g : goodWord w = true) : w ∈ lw_u := List.mem_filter.mpr ⟨h, g⟩
theorem hp_gs {y : MethodName} {cc : ByteArray} {n : Nat} {ret : Option FieldType} (h : Cond.code y cc n ret ∈ lw_u) : GoodIn lw_u (hp_ws y cc n ret) := fun w hw => by
  have h2 : w ∈ lw_u := by
    rcases List.mem_cons.mp hw with e | h3
    · rw [e]; exact h
    · exact h3
  exact ⟨h2, good_of_word (List.mem_filter.mp h2).2⟩
/-- a field's link: of class kind κ the k-th -/
def hp_F (own : String) (index κ k : Nat) : Prop := vwCl[κ - 1]? = some (hp_q κ) ∧ k < (hp_q κ).2.2 ∧ (∀ w ∈ u_ws (hp_q κ).1 (hp_q κ).2.1 (hp_q κ).2.2, w ∈ lw_u) ∧ (∀ j, j < (hp_q κ).2.2 → parseFieldDescriptor ((hp_q κ).2.1 j).2.2.1 = some (hp_ty κ j)) ∧ (∀ a, a < (hp_q κ).2.2 → ∀ b, b < (hp_q κ).2.2 → a ≠ b → ((hp_q κ).2.1 a).2.1 ≠ ((hp_q κ).2.1 b).2.1) ∧ Cond.fieldLink own index ((hp_q κ).2.1 k).1 ((hp_q κ).2.1 k).2.1 ((hp_q κ).2.1 k).2.2.1 ∈ lw_u
theorem hp_fv_get {α : hp_T} {a t : Nat} : ∀ (ts : List Nat) (k ψ : Nat), ts[k]? = some t → (hp_fv α a ts ψ)[k]? = some (hp_v α a t (ψ + k)) := by
  intro ts
  induction ts with
  | nil => intro k ψ h; simp at h
  | cons t0 ts ih =>
    intro k ψ h
    cases k with
    | zero => simp only [List.getElem?_cons_zero, Option.some.injEq] at h; subst h; rfl
    | succ k =>
      simp only [List.getElem?_cons_succ] at h
      have := ih k (ψ + 1) h
      show (hp_fv α a ts (ψ + 1))[k]? = _
      rw [this, show ψ + 1 + k = ψ + (k + 1) by omega]
theorem hp_fv_len {α : hp_T} {a : Nat} : ∀ (ts : List Nat) (ψ : Nat), (hp_fv α a ts ψ).length = ts.length := by
  intro ts
  induction ts with
  | nil => intro ψ; rfl
  | cons t ts ih => intro ψ; show (hp_fv α a ts (ψ + 1)).length + 1 = _; rw [ih]; rfl
/-- two pictures with the same values at an address from a field on -/
theorem hp_fv_congr {α β : hp_T} {a : Nat} : ∀ (ts : List Nat) (ψ : Nat), (∀ t φ, ψ ≤ φ → hp_v α a t φ = hp_v β a t φ) → hp_fv α a ts ψ = hp_fv β a ts ψ := by
  intro ts
  induction ts with
  | nil => intro ψ _; rfl
  | cons t ts ih =>
    intro ψ h
    show _ :: _ = _ :: _
    rw [h t ψ (Nat.le_refl _), ih (ψ + 1) (fun t φ hφ => h t φ (by omega))]
/-- one field changed -/
theorem hp_fv_set {α β : hp_T} {a t0 : Nat} {v : Value} : ∀ (ts : List Nat) (k ψ : Nat), ts[k]? = some t0 → hp_v β a t0 (ψ + k) = v → (∀ t φ, φ ≠ ψ + k → hp_v β a t φ = hp_v α a t φ) → hp_fv β a ts ψ = (hp_fv α a ts ψ).set k v := by
  intro ts
  induction ts with
  | nil => intro k ψ h; simp at h
  | cons t ts ih =>
    intro k ψ h hv hn
    cases k with
    | zero =>
      simp only [List.getElem?_cons_zero, Option.some.injEq] at h
      subst h
      show _ :: _ = _ :: _
      rw [hp_fv_congr ts (ψ + 1) (fun t φ hφ => hn t φ (by omega))]
      rw [show ψ + 0 = ψ from rfl] at hv
      rw [hv]
    | succ k =>
      simp only [List.getElem?_cons_succ] at h
      show _ :: _ = _ :: _
      rw [hn t ψ (by omega), ih k (ψ + 1) h (by rw [show ψ + 1 + k = ψ + (k + 1) by omega]; exact hv) (fun t φ hφ => hn t φ (by omega))]
theorem hp_P1 {D : va_G} {cl : List vw_C} {q : Nat × va_E} {H : Heap} (h : va_at D cl q H) : va_P D cl [q] H := by
  intro k x hx
  have hz : k < 1 := (List.getElem?_eq_some_iff.mp hx).1
  rw [show k = 0 by omega] at hx
  cases hx
  exact h
theorem hp_Rep.upd {Γ : hp_G} {α α' : hp_T} {H H1 : Heap} (h : hp_Rep Γ α H) {a : Nat} (z : H1.size = H.size) (oq : ∀ q : Nat, q ≠ a → H1[q]? = H[q]?) (hka : hp_K α a ≠ 0) (he : va_at (Γ.2.1, Γ.2.2.1) vwCl (a, hp_ce Γ.2.2.2.1 α' (hp_K α a) a) H1) (hK : hp_K α' = hp_K α) (hb : ∀ b, b ≠ a → ∀ κ, hp_ce Γ.2.2.2.1 α' κ b = hp_ce Γ.2.2.2.1 α κ b) : hp_Rep Γ α' H1 := by
  refine ⟨by rw [z]; exact h.1, fun q hq => ?_, fun b hk => ?_⟩
  · have h1 := (h.2.2 a hka).1
    rw [oq q (by omega)]
    exact h.2.1 q hq
  · rw [hK] at hk ⊢
    refine ⟨(h.2.2 b hk).1, ?_⟩
    by_cases hba : b = a
    · subst hba; exact he
    · rw [hb b hba]
      exact (h.2.2 b hk).2.kept (oq b hba)
def hp_isC (κ : Nat) : Bool := decide (κ ≠ 0) && !(decide (20 ≤ κ) && decide (κ < 60))
theorem hp_ce_c {dA : Nat → ClassId} {α : hp_T} {κ a : Nat} (h : hp_isC κ = true) : hp_ce dA α κ a = .inr (hp_b κ - 1, hp_fv α a (hp_tg κ) (50 * hp_b κ)) := by
  unfold hp_ce
  rw [if_neg]
  intro hh
  simp [hp_isC, hh.1, hh.2] at h
theorem hp_ce_a {dA : Nat → ClassId} {α : hp_T} {κ a t n : Nat} (h : 20 ≤ κ ∧ κ < 60) (hn : hp_ar κ = (t, n)) : hp_ce dA α κ a = .inl (dA t, n, hp_cx α κ a t) := by
  unfold hp_ce
  rw [if_pos h]
  unfold hp_ca
  rw [hn]
section HPR
variable {p : Program} {l : Launch} {e : Env} {R : Room} {s : State} {m : MethodId} {args : Array Value} {below : List Frame} {meth : Method} {c : Code} {H : Heap} {locs : List Loc} {cells slots : Nat} {Q : State → Prop} {cc : ByteArray} {nL : Nat} {own : String} {Γ : hp_G} {α0 α α' : hp_T} {Iv : hp_T → hp_T → Prop} {pc pc' : Nat} {ls : Array Slot} {rest : List Value} {a κ k t index : Nat} {v : Value}
theorem hp_B.at (B : hp_B Γ Iv s α0 α H locs) (hk : hp_K α a = κ) (hc : hp_isC κ = true) : Γ.1.size ≤ a ∧ va_at (Γ.2.1, Γ.2.2.1) vwCl (a, .inr (hp_b κ - 1, hp_fv α a (hp_tg κ) (50 * hp_b κ))) H := by
  have h0 : hp_K α a ≠ 0 := by rw [hk]; intro h; rw [h] at hc; cases hc
  have h := B.1.2.2 a h0
  rw [hk, hp_ce_c hc] at h
  exact h
theorem hp_B.ar {n : Nat} (B : hp_B Γ Iv s α0 α H locs) (hk : hp_K α a = κ) (hc : 20 ≤ κ ∧ κ < 60) (hn : hp_ar κ = (t, n)) : Γ.1.size ≤ a ∧ va_at (Γ.2.1, Γ.2.2.1) vwCl (a, .inl (Γ.2.2.2.1 t, n, hp_cx α κ a t)) H := by
  have h0 : hp_K α a ≠ 0 := by rw [hk]; omega
  have h := B.1.2.2 a h0
  rw [hk, hp_ce_a hc hn] at h
  exact h
/-- getfield -/
theorem q_get (C : hp_C Γ p m c cc nL s args own) (B : hp_B Γ Iv s α0 α H locs) (hk : hp_K α a = κ) (hF : hp_F own index (hp_b κ) k) (hc : hp_isC κ = true) (ht : (hp_tg κ)[k]? = some t) (hv : hp_v α a t (50 * hp_b κ + k) = v) (hdg : decode cc pc = .ok (.getfield index, 3)) (hpc : pc + 3 = pc')
    (kk : W p l e R s m args below meth c H locs cells slots Q (F0 m pc' ls (v :: rest))) : W p l e R s m args below meth c H locs cells slots Q (F0 m pc ls (.ref a :: rest)) := by
  obtain ⟨⟨hx, hb, hml, hown, hts⟩, hK, -⟩ := C
  obtain ⟨hq, hkN, hin, -, -, hlk⟩ := hF
  have hat := (B.at hk hc).2
  subst hpc
  refine va_get hx hb (own := own) (C := (hp_q (hp_b κ)).1) (T := (hp_q (hp_b κ)).2.1) (N := (hp_q (hp_b κ)).2.2) hts hin hown hK (hp_P1 hat) 0 rfl hq k hkN (hts _ hlk) (fun _ h => h) (v := v) ?_ hdg kk
  rw [hp_fv_get _ _ _ ht, hv]
/-- putfield, not final -/
theorem q_put (C : hp_C Γ p m c cc nL s args own) (B : hp_B Γ Iv s α0 α H locs) (hk : hp_K α a = κ) (hF : hp_F own index (hp_b κ) k) (hc : hp_isC κ = true) (ht : (hp_tg κ)[k]? = some t) (hfin : ((hp_q (hp_b κ)).2.1 k).2.2.2 = false) (hn : narrow (hp_ty (hp_b κ) k) v = v) (hfit : fits (hp_ty (hp_b κ) k) v = true)
    (hK' : hp_K α' = hp_K α) (hv : hp_v α' a t (50 * hp_b κ + k) = v) (hv' : ∀ t φ, φ ≠ 50 * hp_b κ + k → hp_v α' a t φ = hp_v α a t φ) (hb' : ∀ b, b ≠ a → ∀ κ, hp_ce Γ.2.2.2.1 α' κ b = hp_ce Γ.2.2.2.1 α κ b) (hiv : Iv α0 α')
    (hdg : decode cc pc = .ok (.putfield index, 3)) (hpc : pc + 3 = pc')
    (kk : ∀ (H1 : Heap) (locs1 : List Loc), hp_B Γ Iv s α0 α' H1 locs1 → W p l e R s m args below meth c H1 locs1 cells slots Q (F0 m pc' ls rest)) : W p l e R s m args below meth c H locs cells slots Q (F0 m pc ls (v :: .ref a :: rest)) := by
  obtain ⟨⟨hx, hb, hml, hown, hts⟩, hK, -⟩ := C
  obtain ⟨hq, hkN, hin, hty, hnm, hlk⟩ := hF
  obtain ⟨hbase, hat⟩ := B.at hk hc
  subst hpc
  have h0 : hp_K α a ≠ 0 := by rw [hk]; intro h; rw [h] at hc; cases hc
  have hap := va_apart (own := own) hts hin (hp_ty (hp_b κ)) hty hnm hK hq
  obtain ⟨r, h1, cell, q1, q2, q3, q4⟩ := hat
  have hr : r = hp_q (hp_b κ) := Option.some.inj (h1.symm.trans hq)
  subst hr
  obtain ⟨hS, hfc, kC, hkC, hkind⟩ := hK.1 _ _ hq
  obtain ⟨cf, kf, fi, f, hi, hsl⟩ := hS k hkN
  have hlay := hts _ (hin _ (u_in_lay hkN))
  unfold u_lay at hlay
  rw [if_neg (by rw [hfin]; decide)] at hlay
  have hst := (u_facts hfc hkC (u_lays hts hin hkN) hi).1
  have h6 := u_store hfc hkC hkind hlay hi (hty k hkN) hn hfit
  refine W.putK hx hb (f := f) ⟨hown, hts _ hlk, ⟨_, _, _, hi⟩, hst⟩ (by rw [q2]; exact h6) q1 q3 (by rw [hsl]; exact k2_hasslot (q4 k hkN)) rfl rfl hdg fun H' e1 e2 e3 => ?_
  rw [hsl] at e1 ⊢
  refine kk H' _ ⟨B.1.upd e2 e3 h0 ?_ hK' hb', B.2.1.put e2 e3 hbase, hiv⟩
  rw [hk, hp_ce_c hc]
  have hl : k < (hp_fv α a (hp_tg κ) (50 * hp_b κ)).length := by rw [hp_fv_len]; exact (List.getElem?_eq_some_iff.mp ht).1
  refine ⟨_, hq, t_OB.to (V := updV (vp_V (hp_fv α a (hp_tg κ) (50 * hp_b κ))) k v) ⟨_, e1, q2, q3, t_set q4 hap hkN v⟩ (fun j _ => ?_)⟩
  rw [vp_updV_set hl v j, hp_fv_set (hp_tg κ) k (50 * hp_b κ) ht hv hv']
theorem hp_ce_ne {dA : Nat → ClassId} {β : hp_T} {b : Nat} (h1 : ∀ t φ, hp_v β b t φ = hp_v α b t φ) (h2 : hp_E β = hp_E α ∧ hp_L β = hp_L α ∧ hp_Q β = hp_Q α) : ∀ κ, hp_ce dA β κ b = hp_ce dA α κ b := by
  intro κ
  unfold hp_ce hp_ca hp_cx
  rw [h2.1, h2.2.1, h2.2.2, hp_fv_congr (hp_tg κ) (50 * hp_b κ) (fun t φ _ => h1 t φ)]
theorem q_puti {x : Int32} {φ : Nat} (C : hp_C Γ p m c cc nL s args own) (B : hp_B Γ Iv s α0 α H locs) (hk : hp_K α a = κ) (hF : hp_F own index (hp_b κ) k) (hc : hp_isC κ = true) (ht : (hp_tg κ)[k]? = some 0) (hfin : ((hp_q (hp_b κ)).2.1 k).2.2.2 = false) (hn : narrow (hp_ty (hp_b κ) k) (.int x) = .int x) (hfit : fits (hp_ty (hp_b κ) k) (.int x) = true) (hφ : 50 * hp_b κ + k = φ) (hiv : Iv α0 (hp_sI α φ a x))
    (hdg : decode cc pc = .ok (.putfield index, 3)) (hpc : pc + 3 = pc')
    (kk : ∀ (β : hp_T) (H1 : Heap) (locs1 : List Loc), β = hp_sI α φ a x → hp_B Γ Iv s α0 β H1 locs1 → W p l e R s m args below meth c H1 locs1 cells slots Q (F0 m pc' ls rest)) : W p l e R s m args below meth c H locs cells slots Q (F0 m pc ls (.int x :: .ref a :: rest)) := by
  subst hφ
  refine q_put C B hk hF hc ht hfin hn hfit (α' := hp_sI α (50 * hp_b κ + k) a x) rfl ?_ ?_ (fun b hb => hp_ce_ne (fun t φ => ?_) ⟨rfl, rfl, rfl⟩) hiv hdg hpc (fun H1 locs1 B1 => kk _ H1 locs1 rfl B1)
  · simp [hp_v, hp_I, hp_sI, hp_up]
  · intro t φ h; simp [hp_v, hp_I, hp_R, hp_J, hp_N, hp_sI, hp_up, h]
  · simp [hp_v, hp_I, hp_R, hp_J, hp_N, hp_sI, hp_up, hb]
theorem q_putl {x : Int64} {φ : Nat} (C : hp_C Γ p m c cc nL s args own) (B : hp_B Γ Iv s α0 α H locs) (hk : hp_K α a = κ) (hF : hp_F own index (hp_b κ) k) (hc : hp_isC κ = true) (ht : (hp_tg κ)[k]? = some 2) (hfin : ((hp_q (hp_b κ)).2.1 k).2.2.2 = false) (hn : narrow (hp_ty (hp_b κ) k) (.long x) = .long x) (hfit : fits (hp_ty (hp_b κ) k) (.long x) = true) (hφ : 50 * hp_b κ + k = φ) (hiv : Iv α0 (hp_sJ α φ a x))
    (hdg : decode cc pc = .ok (.putfield index, 3)) (hpc : pc + 3 = pc')
    (kk : ∀ (β : hp_T) (H1 : Heap) (locs1 : List Loc), β = hp_sJ α φ a x → hp_B Γ Iv s α0 β H1 locs1 → W p l e R s m args below meth c H1 locs1 cells slots Q (F0 m pc' ls rest)) : W p l e R s m args below meth c H locs cells slots Q (F0 m pc ls (.long x :: .ref a :: rest)) := by
  subst hφ
  refine q_put C B hk hF hc ht hfin hn hfit (α' := hp_sJ α (50 * hp_b κ + k) a x) rfl ?_ ?_ (fun b hb => hp_ce_ne (fun t φ => ?_) ⟨rfl, rfl, rfl⟩) hiv hdg hpc (fun H1 locs1 B1 => kk _ H1 locs1 rfl B1)
  · simp [hp_v, hp_J, hp_sJ, hp_up]
  · intro t φ h; simp [hp_v, hp_I, hp_R, hp_J, hp_N, hp_sJ, hp_up, h]
  · simp [hp_v, hp_I, hp_R, hp_J, hp_N, hp_sJ, hp_up, hb]
theorem q_putr {x : Nat} {φ : Nat} (C : hp_C Γ p m c cc nL s args own) (B : hp_B Γ Iv s α0 α H locs) (hk : hp_K α a = κ) (hF : hp_F own index (hp_b κ) k) (hc : hp_isC κ = true) (ht : (hp_tg κ)[k]? = some 1) (hfin : ((hp_q (hp_b κ)).2.1 k).2.2.2 = false) (hn : narrow (hp_ty (hp_b κ) k) (.ref x) = .ref x) (hfit : fits (hp_ty (hp_b κ) k) (.ref x) = true) (hφ : 50 * hp_b κ + k = φ) (hiv : Iv α0 (hp_sR α φ a x))
    (hdg : decode cc pc = .ok (.putfield index, 3)) (hpc : pc + 3 = pc')
    (kk : ∀ (β : hp_T) (H1 : Heap) (locs1 : List Loc), β = hp_sR α φ a x → hp_B Γ Iv s α0 β H1 locs1 → W p l e R s m args below meth c H1 locs1 cells slots Q (F0 m pc' ls rest)) : W p l e R s m args below meth c H locs cells slots Q (F0 m pc ls (.ref x :: .ref a :: rest)) := by
  subst hφ
  refine q_put C B hk hF hc ht hfin hn hfit (α' := hp_sR α (50 * hp_b κ + k) a x) rfl ?_ ?_ (fun b hb => hp_ce_ne (fun t φ => ?_) ⟨rfl, rfl, rfl⟩) hiv hdg hpc (fun H1 locs1 B1 => kk _ H1 locs1 rfl B1)
  · simp [hp_v, hp_R, hp_sR, hp_up]
  · intro t φ h; simp [hp_v, hp_I, hp_R, hp_J, hp_N, hp_sR, hp_up, h]
  · simp [hp_v, hp_I, hp_R, hp_J, hp_N, hp_sR, hp_up, hb]
theorem q_putn {x : Nat} {φ : Nat} (C : hp_C Γ p m c cc nL s args own) (B : hp_B Γ Iv s α0 α H locs) (hk : hp_K α a = κ) (hF : hp_F own index (hp_b κ) k) (hc : hp_isC κ = true) (ht : (hp_tg κ)[k]? = some 3) (hfin : ((hp_q (hp_b κ)).2.1 k).2.2.2 = false) (hn : narrow (hp_ty (hp_b κ) k) (.ref x) = .ref x) (hfit : fits (hp_ty (hp_b κ) k) (.ref x) = true) (hφ : 50 * hp_b κ + k = φ) (hiv : Iv α0 (hp_sN α φ a (some x)))
    (hdg : decode cc pc = .ok (.putfield index, 3)) (hpc : pc + 3 = pc')
    (kk : ∀ (β : hp_T) (H1 : Heap) (locs1 : List Loc), β = hp_sN α φ a (some x) → hp_B Γ Iv s α0 β H1 locs1 → W p l e R s m args below meth c H1 locs1 cells slots Q (F0 m pc' ls rest)) : W p l e R s m args below meth c H locs cells slots Q (F0 m pc ls (.ref x :: .ref a :: rest)) := by
  subst hφ
  refine q_put C B hk hF hc ht hfin hn hfit (α' := hp_sN α (50 * hp_b κ + k) a (some x)) rfl ?_ ?_ (fun b hb => hp_ce_ne (fun t φ => ?_) ⟨rfl, rfl, rfl⟩) hiv hdg hpc (fun H1 locs1 B1 => kk _ H1 locs1 rfl B1)
  · simp [hp_v, hp_N, hp_sN, hp_up, va_rf]
  · intro t φ h; simp [hp_v, hp_I, hp_R, hp_J, hp_N, hp_sN, hp_up, h]
  · simp [hp_v, hp_I, hp_R, hp_J, hp_N, hp_sN, hp_up, hb]
end HPR
