/-! ===== ints ===== -/
theorem ib_hi (x : Int32) : x.toInt ≤ 2147483647 := by
  have h := x.toBitVec.toInt_lt
  have e : x.toInt = x.toBitVec.toInt := rfl
  simp at h
  omega
theorem ib_lo (x : Int32) : -2147483648 ≤ x.toInt := by
  have h := x.toBitVec.le_toInt
  have e : x.toInt = x.toBitVec.toInt := rfl
  simp at h
  omega
theorem il_lt {x y : Int32} (h : x < y) : x.toInt < y.toInt := Int32.lt_iff_toInt_lt.mp h
theorem il_le {x y : Int32} (h : x ≤ y) : x.toInt ≤ y.toInt := Int32.le_iff_toInt_le.mp h
theorem il_nlt {x y : Int32} (h : ¬ x < y) : y.toInt ≤ x.toInt := by rw [Int32.lt_iff_toInt_lt] at h; omega
theorem il_nle {x y : Int32} (h : ¬ x ≤ y) : y.toInt < x.toInt := by rw [Int32.le_iff_toInt_le] at h; omega
theorem il_eq {x y : Int32} (h : x = y) : x.toInt = y.toInt := by rw [h]
theorem il_ne {x y : Int32} (h : ¬ x = y) : ¬ x.toInt = y.toInt := fun e => h (Int32.toInt_inj.mp e)
theorem ic_clamp {i : Int32} (h : 0 ≤ i.toInt) : (i.toNatClampNeg : Int) = i.toInt := by
  show ((i.toInt.toNat : Nat) : Int) = i.toInt
  omega
theorem vi_of {i : Int32} {n : Nat} (h0 : 0 ≤ i.toInt) (h1 : i.toInt < n) : vp_in i n := by
  have h2 := ic_clamp h0
  intro h
  rcases h with h | h
  · have := il_lt h
    have e : (0 : Int32).toInt = 0 := rfl
    omega
  · omega
theorem ii_add {x y : Int32} (h0 : -2147483648 ≤ x.toInt + y.toInt) (h1 : x.toInt + y.toInt ≤ 2147483647) : (x + y).toInt = x.toInt + y.toInt := by
  rw [Int32.toInt_add]
  rw [Int.bmod_eq_of_le] <;> omega
theorem ii_sub {x y : Int32} (h0 : -2147483648 ≤ x.toInt - y.toInt) (h1 : x.toInt - y.toInt ≤ 2147483647) : (x - y).toInt = x.toInt - y.toInt := by
  rw [Int32.toInt_sub]
  rw [Int.bmod_eq_of_le] <;> omega
theorem ii_mul {x y : Int32} (h0 : -2147483648 ≤ x.toInt * y.toInt) (h1 : x.toInt * y.toInt ≤ 2147483647) : (x * y).toInt = x.toInt * y.toInt := by
  rw [Int32.toInt_mul]
  rw [Int.bmod_eq_of_le] <;> omega
theorem ii_div {x y : Int32} (h : 0 ≤ x.toInt) (hy : 0 < y.toInt) : (x / y).toInt = x.toInt / y.toInt := by
  have e : (x / y).toInt = (x.toInt.tdiv y.toInt).bmod (2 ^ 32) := Int32.toInt_div x y
  have h1 := ib_hi x
  have h2 : x.toInt.tdiv y.toInt = x.toInt / y.toInt := Int.tdiv_eq_ediv_of_nonneg h
  have h3 : 0 ≤ x.toInt / y.toInt := Int.ediv_nonneg h (by omega)
  have h4 : x.toInt / y.toInt ≤ x.toInt := Int.ediv_le_self _ h
  rw [h2, Int.bmod_eq_of_le (by omega) (by omega)] at e
  exact e
theorem ii_rem {x y : Int32} (h : 0 ≤ x.toInt) (hy : 0 < y.toInt) : (x - x / y * y).toInt = x.toInt % y.toInt := by
  have h1 := ib_hi x
  have hd := ii_div h hy
  have h3 : 0 ≤ x.toInt / y.toInt := Int.ediv_nonneg h (by omega)
  have h5 := Int.emod_add_mul_ediv x.toInt y.toInt
  have h6 := Int.emod_nonneg x.toInt (show y.toInt ≠ 0 by omega)
  have h7 : 0 ≤ x.toInt / y.toInt * y.toInt := Int.mul_nonneg h3 (by omega)
  have h8 : x.toInt / y.toInt * y.toInt = y.toInt * (x.toInt / y.toInt) := Int.mul_comm _ _
  have hm : (x / y * y).toInt = x.toInt / y.toInt * y.toInt := by
    rw [ii_mul (by rw [hd]; omega) (by rw [hd]; omega), hd]
  rw [ii_sub (by rw [hm]; omega) (by rw [hm]; omega), hm]
  omega
theorem id_lt2 {x : Int32} (h : 0 < x.toInt) : (x / 2).toInt.toNat < x.toInt.toNat := by
  have e : (x / 2).toInt = (x.toInt.tdiv 2).bmod (2 ^ 32) := Int32.toInt_div x 2
  have h1 := ib_hi x
  have h2 : x.toInt.tdiv 2 = x.toInt / 2 := Int.tdiv_eq_ediv_of_nonneg (by omega)
  rw [h2, Int.bmod_eq_of_le (by omega) (by omega)] at e
  omega
theorem id_lt10 {x : Int32} (h : 0 < x.toInt) : (x / 10).toInt.toNat < x.toInt.toNat := by
  have e : (x / 10).toInt = (x.toInt.tdiv 10).bmod (2 ^ 32) := Int32.toInt_div x 10
  have h1 := ib_hi x
  have h2 : x.toInt.tdiv 10 = x.toInt / 10 := Int.tdiv_eq_ediv_of_nonneg (by omega)
  rw [h2, Int.bmod_eq_of_le (by omega) (by omega)] at e
  omega
/-! ===== what always holds of the picture; what a method of the class keeps ===== -/
def gc_i (φ : Nat) (v : Int32) : Prop := (φ == 453 || φ == 301) = true → 0 ≤ v.toInt ∧ v.toInt ≤ 64
def gc_rt : List (Nat × Nat) := [(51, 6), (104, 6), (150, 28), (151, 29), (200, 7), (201, 6), (202, 9), (207, 10), (250, 34), (251, 35), (253, 9), (254, 6), (300, 20), (350, 24), (450, 21), (451, 22), (452, 23), (500, 27), (551, 30), (553, 31), (555, 32), (557, 33), (558, 6), (559, 9), (601, 11), (602, 11), (603, 6), (604, 24), (606, 10), (607, 10), (608, 6), (609, 6), (610, 25), (612, 9), (613, 9), (614, 6), (615, 1), (616, 4), (617, 26), (650, 40), (651, 41), (654, 42), (655, 43), (656, 44), (662, 45), (663, 46), (666, 47), (678, 48), (680, 49), (681, 50), (686, 51), (687, 52), (688, 53), (690, 54), (691, 55), (692, 56), (693, 57), (694, 58), (696, 59)]
def gc_rk (φ : Nat) : Nat := (gc_rt.lookup φ).getD 0
def gc_qk (κ : Nat) : Nat := if κ = 28 then 10 else if κ = 30 then 3 else if κ = 31 then 2 else if κ = 32 then 8 else 0
def gc_t (φ k : Nat) : Prop := k = gc_rk φ ∨ (φ = 350 ∧ k = 36)
def GC (α : hp_T) : Prop := (∀ φ a, gc_i φ (hp_I α φ a)) ∧ (∀ φ a, hp_K α a = φ / 50 → gc_rk φ ≠ 0 → gc_t φ (hp_K α (hp_R α φ a))) ∧ (∀ a b, hp_K α a = 12 → hp_N α 618 a = some b → hp_K α b = 5) ∧ (∀ κ a j b, hp_K α a = κ → gc_qk κ ≠ 0 → hp_Q α κ a j = some b → hp_K α b = gc_qk κ)
/-- what a method may write: int fields, references, rows of ints, long fields -/
abbrev cw_W : Type := List Nat × List Nat × List Nat × List Nat
def cw (w : cw_W) (α0 α : hp_T) : Prop := GC α ∧ hp_K α = hp_K α0 ∧ hp_N α = hp_N α0 ∧ hp_Q α = hp_Q α0 ∧ hp_L α = hp_L α0 ∧ (∀ φ, φ ∉ w.1 → hp_I α φ = hp_I α0 φ) ∧ (∀ φ, φ ∉ w.2.1 → hp_R α φ = hp_R α0 φ) ∧ (∀ κ, κ ∉ w.2.2.1 → hp_E α κ = hp_E α0 κ) ∧ ∀ φ, φ ∉ w.2.2.2 → hp_J α φ = hp_J α0 φ
def cw_sub (v w : cw_W) : Bool := v.1.all (fun x => w.1.contains x) && v.2.1.all (fun x => w.2.1.contains x) && v.2.2.1.all (fun x => w.2.2.1.contains x) && v.2.2.2.all (fun x => w.2.2.2.contains x)
theorem cw_in {v w : List Nat} (h : v.all (fun x => w.contains x) = true) {x : Nat} (hx : x ∉ w) : x ∉ v := fun hv => hx (by
  have := List.all_eq_true.mp h x hv
  simpa using this)
theorem cw_rf {w : cw_W} {α : hp_T} (g : GC α) : cw w α α := ⟨g, rfl, rfl, rfl, rfl, fun _ _ => rfl, fun _ _ => rfl, fun _ _ => rfl, fun _ _ => rfl⟩
theorem cw_tr {v w : cw_W} {α0 α β : hp_T} (h : cw w α0 α) (g : cw v α β) (hs : cw_sub v w = true) : cw w α0 β := by
  simp only [cw_sub, Bool.and_eq_true] at hs
  obtain ⟨⟨⟨s1, s2⟩, s3⟩, s4⟩ := hs
  obtain ⟨h0, h1, h2, h3, h4, h5, h6, h7, h8⟩ := h
  obtain ⟨g0, g1, g2, g3, g4, g5, g6, g7, g8⟩ := g
  exact ⟨g0, g1.trans h1, g2.trans h2, g3.trans h3, g4.trans h4, fun φ hφ => (g5 φ (cw_in s1 hφ)).trans (h5 φ hφ), fun φ hφ => (g6 φ (cw_in s2 hφ)).trans (h6 φ hφ), fun φ hφ => (g7 φ (cw_in s3 hφ)).trans (h7 φ hφ), fun φ hφ => (g8 φ (cw_in s4 hφ)).trans (h8 φ hφ)⟩
theorem cw_sI {w : cw_W} {α0 α : hp_T} {φ a : Nat} {v : Int32} (h : cw w α0 α) (hφ : φ ∈ w.1) (hv : gc_i φ v) : cw w α0 (hp_sI α φ a v) := by
  obtain ⟨⟨g1, g2, g3, g4⟩, h1, h2, h3, h4, h5, h6, h7, h8⟩ := h
  have hne : ∀ ψ, ψ ≠ φ → hp_I (hp_sI α φ a v) ψ = hp_I α ψ := fun ψ hψ => by funext b; simp [hp_I, hp_sI, hp_up, hψ]
  refine ⟨⟨fun ψ b => ?_, g2, g3, g4⟩, h1, h2, h3, h4, fun ψ hψ => (hne ψ (fun e => hψ (e ▸ hφ))).trans (h5 ψ hψ), h6, h7, h8⟩
  by_cases hb : ψ = φ ∧ b = a
  · obtain ⟨rfl, rfl⟩ := hb
    have e : hp_I (hp_sI α ψ b v) ψ b = v := by simp [hp_I, hp_sI, hp_up]
    rw [e]; exact hv
  · have e : hp_I (hp_sI α φ a v) ψ b = hp_I α ψ b := by simp [hp_I, hp_sI, hp_up, hb]
    rw [e]; exact g1 ψ b
theorem cw_sE {w : cw_W} {α0 α : hp_T} {κ a j : Nat} {v : Int32} (h : cw w α0 α) (hκ : κ ∈ w.2.2.1) : cw w α0 (hp_sE α κ a j v) := by
  obtain ⟨g, h1, h2, h3, h4, h5, h6, h7, h8⟩ := h
  have hne : ∀ ψ, ψ ≠ κ → hp_E (hp_sE α κ a j v) ψ = hp_E α ψ := fun ψ hψ => by funext b i; simp [hp_E, hp_sE, hp_uq, hψ]
  exact ⟨g, h1, h2, h3, h4, h5, h6, fun ψ hψ => (hne ψ (fun e => hψ (e ▸ hκ))).trans (h7 ψ hψ), h8⟩
theorem cw_sR {w : cw_W} {α0 α : hp_T} {φ a x : Nat} (h : cw w α0 α) (hφ : φ ∈ w.2.1) (hx : gc_t φ (hp_K α0 x)) : cw w α0 (hp_sR α φ a x) := by
  obtain ⟨⟨g1, g2, g3, g4⟩, h1, h2, h3, h4, h5, h6, h7, h8⟩ := h
  have hne : ∀ ψ, ψ ≠ φ → hp_R (hp_sR α φ a x) ψ = hp_R α ψ := fun ψ hψ => by funext b; simp [hp_R, hp_sR, hp_up, hψ]
  refine ⟨⟨g1, fun ψ b hb hr => ?_, g3, g4⟩, h1, h2, h3, h4, h5, fun ψ hψ => (hne ψ (fun e => hψ (e ▸ hφ))).trans (h6 ψ hψ), h7, h8⟩
  by_cases hq : ψ = φ ∧ b = a
  · obtain ⟨rfl, rfl⟩ := hq
    have e : hp_R (hp_sR α ψ b x) ψ b = x := by simp [hp_R, hp_sR, hp_up]
    rw [e]
    show gc_t ψ (hp_K α x)
    rw [h1]; exact hx
  · have e : hp_R (hp_sR α φ a x) ψ b = hp_R α ψ b := by simp [hp_R, hp_sR, hp_up, hq]
    rw [e]; exact g2 ψ b hb hr
theorem cw_I {w : cw_W} {α0 α : hp_T} (h : cw w α0 α) {φ : Nat} (a : Nat) (hφ : φ ∉ w.1) : hp_I α φ a = hp_I α0 φ a := by rw [h.2.2.2.2.2.1 φ hφ]
theorem cw_R {w : cw_W} {α0 α : hp_T} (h : cw w α0 α) {φ : Nat} (a : Nat) (hφ : φ ∉ w.2.1) : hp_R α φ a = hp_R α0 φ a := by rw [h.2.2.2.2.2.2.1 φ hφ]
theorem cw_k {w : cw_W} {α0 α : hp_T} {b κ : Nat} (h : cw w α0 α) (hk : hp_K α0 b = κ) : hp_K α b = κ := by rw [h.2.1]; exact hk
theorem cw_r {w : cw_W} {α0 α : hp_T} {a κ φ κ' : Nat} (h : cw w α0 α) (hk : hp_K α0 a = κ) (hφ : φ / 50 = κ) (hr : gc_rk φ = κ') (hz : κ' ≠ 0) (h350 : φ ≠ 350) : hp_K α0 (hp_R α φ a) = κ' := by
  rcases h.1.2.1 φ a (by rw [h.2.1, hφ]; exact hk) (by rw [hr]; exact hz) with e | e
  · rw [← h.2.1, e, hr]
  · exact absurd e.1 h350
theorem cw_q {w : cw_W} {α0 α : hp_T} {a κ j b κ' : Nat} (h : cw w α0 α) (hk : hp_K α0 a = κ) (hr : gc_qk κ = κ') (hz : κ' ≠ 0) (hb : hp_Q α κ a j = some b) : hp_K α0 b = κ' := by
  have := h.1.2.2.2 κ a j b (by rw [h.2.1]; exact hk) (by rw [hr]; exact hz) hb
  rw [h.2.1, hr] at this
  exact this
theorem cw_k' {w : cw_W} {α0 α : hp_T} {b κ : Nat} (h : cw w α0 α) (hk : hp_K α b = κ) : hp_K α0 b = κ := by rw [← h.2.1]; exact hk
theorem cw_u {w : cw_W} {α0 α : hp_T} {a : Nat} (h : cw w α0 α) (hk : hp_K α0 a = 7) : hp_K α0 (hp_R α 350 a) = 24 ∨ hp_K α0 (hp_R α 350 a) = 36 := by
  rcases h.1.2.1 350 a (by rw [h.2.1, hk]) (by decide) with e | e
  · left; rw [← h.2.1, e]; rfl
  · right; rw [← h.2.1]; exact e.2
theorem hp_I_ne {α : hp_T} {φ a ψ b : Nat} {v : Int32} (h : ψ ≠ φ) : hp_I (hp_sI α φ a v) ψ b = hp_I α ψ b := by simp [hp_I, hp_sI, hp_up, h]
theorem nz_z {x : Int32} (h : x = 0 ∨ x = 1) : narrow .boolean (.int x) = .int x := by rcases h with rfl | rfl <;> decide
theorem li_nz {m : Int32} {y : Int64} (e : y = m.toInt64) (h : ¬ m.toInt = 0) : ¬ y = 0 := by
  intro hy
  rw [hy] at e
  have h2 := congrArg Int64.toInt e
  rw [Int32.toInt_toInt64] at h2
  exact h (by rw [← h2]; rfl)
section HPG
variable {p : Program} {l : Launch} {e : Env} {R : Room} {s : State} {m : MethodId} {args : Array Value} {below : List Frame} {meth : Method} {c : Code} {H : Heap} {locs : List Loc} {cells slots : Nat} {Q : State → Prop} {cc : ByteArray} {nL : Nat} {own : String} {Γ : hp_G} {α0 α α' : hp_T} {Iv : hp_T → hp_T → Prop} {pc pc' : Nat} {ls : Array Slot} {rest : List Value} {a κ k t index φ κ' : Nat} {v : Value}
/-- getfield of an int: it gets a name -/
theorem q_geti (C : hp_C Γ p m c cc nL s args own) (B : hp_B Γ Iv s α0 α H locs) (hk : hp_K α a = κ) (hF : hp_F own index (hp_b κ) k) (hc : hp_isC κ = true) (ht : (hp_tg κ)[k]? = some 0) (hφ : 50 * hp_b κ + k = φ) (hdg : decode cc pc = .ok (.getfield index, 3)) (hpc : pc + 3 = pc')
    (kk : ∀ x : Int32, x = hp_I α φ a → W p l e R s m args below meth c H locs cells slots Q (F0 m pc' ls (.int x :: rest))) : W p l e R s m args below meth c H locs cells slots Q (F0 m pc ls (.ref a :: rest)) := by
  subst hφ
  exact q_get C B hk hF hc ht rfl hdg hpc (kk _ rfl)
/-- the same int again -/
theorem q_getj {x : Int32} (C : hp_C Γ p m c cc nL s args own) (B : hp_B Γ Iv s α0 α H locs) (hk : hp_K α a = κ) (hF : hp_F own index (hp_b κ) k) (hc : hp_isC κ = true) (ht : (hp_tg κ)[k]? = some 0) (hφ : 50 * hp_b κ + k = φ) (hx : x = hp_I α φ a) (hdg : decode cc pc = .ok (.getfield index, 3)) (hpc : pc + 3 = pc')
    (kk : W p l e R s m args below meth c H locs cells slots Q (F0 m pc' ls (.int x :: rest))) : W p l e R s m args below meth c H locs cells slots Q (F0 m pc ls (.ref a :: rest)) := by
  subst hφ; subst hx
  exact q_get C B hk hF hc ht rfl hdg hpc kk
/-- getfield of a reference: it gets a name and its kind -/
theorem q_getr (C : hp_C Γ p m c cc nL s args own) (B : hp_B Γ Iv s α0 α H locs) (hk : hp_K α a = κ) (hF : hp_F own index (hp_b κ) k) (hc : hp_isC κ = true) (ht : (hp_tg κ)[k]? = some 1) (hφ : 50 * hp_b κ + k = φ) (hT : hp_K α0 (hp_R α φ a) = κ') (hdg : decode cc pc = .ok (.getfield index, 3)) (hpc : pc + 3 = pc')
    (kk : ∀ b : Nat, b = hp_R α φ a → hp_K α0 b = κ' → W p l e R s m args below meth c H locs cells slots Q (F0 m pc' ls (.ref b :: rest))) : W p l e R s m args below meth c H locs cells slots Q (F0 m pc ls (.ref a :: rest)) := by
  subst hφ
  exact q_get C B hk hF hc ht rfl hdg hpc (kk _ rfl hT)
theorem q_gets {b : Nat} (C : hp_C Γ p m c cc nL s args own) (B : hp_B Γ Iv s α0 α H locs) (hk : hp_K α a = κ) (hF : hp_F own index (hp_b κ) k) (hc : hp_isC κ = true) (ht : (hp_tg κ)[k]? = some 1) (hφ : 50 * hp_b κ + k = φ) (hx : b = hp_R α φ a) (hdg : decode cc pc = .ok (.getfield index, 3)) (hpc : pc + 3 = pc')
    (kk : W p l e R s m args below meth c H locs cells slots Q (F0 m pc' ls (.ref b :: rest))) : W p l e R s m args below meth c H locs cells slots Q (F0 m pc ls (.ref a :: rest)) := by
  subst hφ; subst hx
  exact q_get C B hk hF hc ht rfl hdg hpc kk
theorem q_getu (C : hp_C Γ p m c cc nL s args own) (B : hp_B Γ Iv s α0 α H locs) (hk : hp_K α a = κ) (hF : hp_F own index (hp_b κ) k) (hc : hp_isC κ = true) (ht : (hp_tg κ)[k]? = some 1) (hφ : 50 * hp_b κ + k = φ) (hT : hp_K α0 (hp_R α φ a) = 24 ∨ hp_K α0 (hp_R α φ a) = 36) (hdg : decode cc pc = .ok (.getfield index, 3)) (hpc : pc + 3 = pc')
    (kk : ∀ b : Nat, b = hp_R α φ a → (hp_K α0 b = 24 ∨ hp_K α0 b = 36) → W p l e R s m args below meth c H locs cells slots Q (F0 m pc' ls (.ref b :: rest))) : W p l e R s m args below meth c H locs cells slots Q (F0 m pc ls (.ref a :: rest)) := by
  subst hφ
  exact q_get C B hk hF hc ht rfl hdg hpc (kk _ rfl hT)
end HPG
