section JN2_0
/-! ===== ints ===== -/
theorem ib_hi (x : Int32) : x.toInt ≤ 2147483647 := by
  have h := x.toBitVec.toInt_lt
  have e : x.toInt = x.toBitVec.toInt := rfl
  simp at h
  omega
theorem ib_lo (x : Int32) : -2147483648 ≤ x.toInt := by
  have h := x.toBitVec.le_toInt
  have e : x.toInt = x.toBitVec.toInt := rfl
  simp at h
  omega
theorem il_lt {x y : Int32} (h : x < y) : x.toInt < y.toInt := Int32.lt_iff_toInt_lt.mp h
theorem il_le {x y : Int32} (h : x ≤ y) : x.toInt ≤ y.toInt := Int32.le_iff_toInt_le.mp h
theorem il_nlt {x y : Int32} (h : ¬ x < y) : y.toInt ≤ x.toInt := by rw [Int32.lt_iff_toInt_lt] at h; omega
theorem il_nle {x y : Int32} (h : ¬ x ≤ y) : y.toInt < x.toInt := by rw [Int32.le_iff_toInt_le] at h; omega
theorem il_eq {x y : Int32} (h : x = y) : x.toInt = y.toInt := by rw [h]
theorem il_ne {x y : Int32} (h : ¬ x = y) : ¬ x.toInt = y.toInt := fun e => h (Int32.toInt_inj.mp e)
theorem ic_clamp {i : Int32} (h : 0 ≤ i.toInt) : (i.toNatClampNeg : Int) = i.toInt := by
  show ((i.toInt.toNat : Nat) : Int) = i.toInt
  omega
theorem vi_of {i : Int32} {n : Nat} (h0 : 0 ≤ i.toInt) (h1 : i.toInt < n) : vp_in i n := by
  have h2 := ic_clamp h0
  intro h
  rcases h with h | h
  · have := il_lt h
    have e : (0 : Int32).toInt = 0 := rfl
    omega
  · omega
theorem ii_add {x y : Int32} (h0 : -2147483648 ≤ x.toInt + y.toInt) (h1 : x.toInt + y.toInt ≤ 2147483647) : (x + y).toInt = x.toInt + y.toInt := by
  rw [Int32.toInt_add]
  rw [Int.bmod_eq_of_le] <;> omega
theorem ii_sub {x y : Int32} (h0 : -2147483648 ≤ x.toInt - y.toInt) (h1 : x.toInt - y.toInt ≤ 2147483647) : (x - y).toInt = x.toInt - y.toInt := by
  rw [Int32.toInt_sub]
  rw [Int.bmod_eq_of_le] <;> omega
theorem ii_mul {x y : Int32} (h0 : -2147483648 ≤ x.toInt * y.toInt) (h1 : x.toInt * y.toInt ≤ 2147483647) : (x * y).toInt = x.toInt * y.toInt := by
  rw [Int32.toInt_mul]
  rw [Int.bmod_eq_of_le] <;> omega
theorem ii_div {x y : Int32} (h : 0 ≤ x.toInt) (hy : 0 < y.toInt) : (x / y).toInt = x.toInt / y.toInt := by
  have e : (x / y).toInt = (x.toInt.tdiv y.toInt).bmod (2 ^ 32) := Int32.toInt_div x y
  have h1 := ib_hi x
  have h2 : x.toInt.tdiv y.toInt = x.toInt / y.toInt := Int.tdiv_eq_ediv_of_nonneg h
  have h3 : 0 ≤ x.toInt / y.toInt := Int.ediv_nonneg h (by omega)
  have h4 : x.toInt / y.toInt ≤ x.toInt := Int.ediv_le_self _ h
  rw [h2, Int.bmod_eq_of_le (by omega) (by omega)] at e
  exact e
theorem ii_rem {x y : Int32} (h : 0 ≤ x.toInt) (hy : 0 < y.toInt) : (x - x / y * y).toInt = x.toInt % y.toInt := by
  have h1 := ib_hi x
  have hd := ii_div h hy
  have h3 : 0 ≤ x.toInt / y.toInt := Int.ediv_nonneg h (by omega)
  have h5 := Int.emod_add_mul_ediv x.toInt y.toInt
  have h6 := Int.emod_nonneg x.toInt (show y.toInt ≠ 0 by omega)
  have h7 : 0 ≤ x.toInt / y.toInt * y.toInt := Int.mul_nonneg h3 (by omega)
  have h8 : x.toInt / y.toInt * y.toInt = y.toInt * (x.toInt / y.toInt) := Int.mul_comm _ _
  have hm : (x / y * y).toInt = x.toInt / y.toInt * y.toInt := by
    rw [ii_mul (by rw [hd]; omega) (by rw [hd]; omega), hd]
  rw [ii_sub (by rw [hm]; omega) (by rw [hm]; omega), hm]
  omega
theorem id_lt2 {x : Int32} (h : 0 < x.toInt) : (x / 2).toInt.toNat < x.toInt.toNat := by
  have e : (x / 2).toInt = (x.toInt.tdiv 2).bmod (2 ^ 32) := Int32.toInt_div x 2
  have h1 := ib_hi x
  have h2 : x.toInt.tdiv 2 = x.toInt / 2 := Int.tdiv_eq_ediv_of_nonneg (by omega)
  rw [h2, Int.bmod_eq_of_le (by omega) (by omega)] at e
  omega
theorem id_lt10 {x : Int32} (h : 0 < x.toInt) : (x / 10).toInt.toNat < x.toInt.toNat := by
  have e : (x / 10).toInt = (x.toInt.tdiv 10).bmod (2 ^ 32) := Int32.toInt_div x 10
  have h1 := ib_hi x
  have h2 : x.toInt.tdiv 10 = x.toInt / 10 := Int.tdiv_eq_ediv_of_nonneg (by omega)
  rw [h2, Int.bmod_eq_of_le (by omega) (by omega)] at e
  omega
/-! ===== what always holds of the picture; what a method of the class keeps ===== -/
def gc_i (φ : Nat) (v : Int32) : Prop := (φ == 453 || φ == 301) = true → 0 ≤ v.toInt ∧ v.toInt ≤ 64
def gc_rt : List (Nat × Nat) := [(51, 6), (104, 6), (150, 28), (151, 29), (200, 7), (201, 6), (202, 9), (207, 10), (250, 34), (251, 35), (253, 9), (254, 6), (300, 20), (350, 24), (450, 21), (451, 22), (452, 23), (500, 27), (551, 30), (553, 31), (555, 32), (557, 33), (558, 6), (559, 9), (601, 11), (602, 11), (603, 6), (604, 24), (606, 10), (607, 10), (608, 6), (609, 6), (610, 25), (612, 9), (613, 9), (614, 6), (615, 1), (616, 4), (617, 26), (650, 40), (651, 41), (654, 42), (655, 43), (656, 44), (662, 45), (663, 46), (666, 47), (678, 48), (680, 49), (681, 50), (686, 51), (687, 52), (688, 53), (690, 54), (691, 55), (692, 56), (693, 57), (694, 58), (696, 59)]
def gc_rk (φ : Nat) : Nat := (gc_rt.lookup φ).getD 0
def gc_qk (κ : Nat) : Nat := if κ = 28 then 10 else if κ = 30 then 3 else if κ = 31 then 2 else if κ = 32 then 8 else 0
def gc_t (φ k : Nat) : Prop := k = gc_rk φ ∨ (φ = 350 ∧ k = 36)
def GC (α : hp_T) : Prop := (∀ φ a, gc_i φ (hp_I α φ a)) ∧ (∀ φ a, hp_K α a = φ / 50 → gc_rk φ ≠ 0 → gc_t φ (hp_K α (hp_R α φ a))) ∧ (∀ a b, hp_K α a = 12 → hp_N α 618 a = some b → hp_K α b = 5) ∧ (∀ κ a j b, hp_K α a = κ → gc_qk κ ≠ 0 → hp_Q α κ a j = some b → hp_K α b = gc_qk κ)
/-- what a method may write: int fields, references, rows of ints, long fields -/
abbrev cw_W : Type := List Nat × List Nat × List Nat × List Nat
def cw (w : cw_W) (α0 α : hp_T) : Prop := GC α ∧ hp_K α = hp_K α0 ∧ hp_N α = hp_N α0 ∧ hp_Q α = hp_Q α0 ∧ hp_L α = hp_L α0 ∧ (∀ φ, φ ∉ w.1 → hp_I α φ = hp_I α0 φ) ∧ (∀ φ, φ ∉ w.2.1 → hp_R α φ = hp_R α0 φ) ∧ (∀ κ, κ ∉ w.2.2.1 → hp_E α κ = hp_E α0 κ) ∧ ∀ φ, φ ∉ w.2.2.2 → hp_J α φ = hp_J α0 φ
def cw_sub (v w : cw_W) : Bool := v.1.all (fun x => w.1.contains x) && v.2.1.all (fun x => w.2.1.contains x) && v.2.2.1.all (fun x => w.2.2.1.contains x) && v.2.2.2.all (fun x => w.2.2.2.contains x)
theorem cw_in {v w : List Nat} (h : v.all (fun x => w.contains x) = true) {x : Nat} (hx : x ∉ w) : x ∉ v := fun hv => hx (by
  have := List.all_eq_true.mp h x hv
  simpa using this)
theorem cw_rf {w : cw_W} {α : hp_T} (g : GC α) : cw w α α := ⟨g, rfl, rfl, rfl, rfl, fun _ _ => rfl, fun _ _ => rfl, fun _ _ => rfl, fun _ _ => rfl⟩
theorem cw_tr {v w : cw_W} {α0 α β : hp_T} (h : cw w α0 α) (g : cw v α β) (hs : cw_sub v w = true) : cw w α0 β := by
  simp only [cw_sub, Bool.and_eq_true] at hs
  obtain ⟨⟨⟨s1, s2⟩, s3⟩, s4⟩ := hs
  obtain ⟨h0, h1, h2, h3, h4, h5, h6, h7, h8⟩ := h
  obtain ⟨g0, g1, g2, g3, g4, g5, g6, g7, g8⟩ := g
  exact ⟨g0, g1.trans h1, g2.trans h2, g3.trans h3, g4.trans h4, fun φ hφ => (g5 φ (cw_in s1 hφ)).trans (h5 φ hφ), fun φ hφ => (g6 φ (cw_in s2 hφ)).trans (h6 φ hφ), fun φ hφ => (g7 φ (cw_in s3 hφ)).trans (h7 φ hφ), fun φ hφ => (g8 φ (cw_in s4 hφ)).trans (h8 φ hφ)⟩
theorem cw_sI {w : cw_W} {α0 α : hp_T} {φ a : Nat} {v : Int32} (h : cw w α0 α) (hφ : φ ∈ w.1) (hv : gc_i φ v) : cw w α0 (hp_sI α φ a v) := by
  obtain ⟨⟨g1, g2, g3, g4⟩, h1, h2, h3, h4, h5, h6, h7, h8⟩ := h
  have hne : ∀ ψ, ψ ≠ φ → hp_I (hp_sI α φ a v) ψ = hp_I α ψ := fun ψ hψ => by funext b; simp [hp_I, hp_sI, hp_up, hψ]
  refine ⟨⟨fun ψ b => ?_, g2, g3, g4⟩, h1, h2, h3, h4, fun ψ hψ => (hne ψ (fun e => hψ (e ▸ hφ))).trans (h5 ψ hψ), h6, h7, h8⟩
  by_cases hb : ψ = φ ∧ b = a
  · obtain ⟨rfl, rfl⟩ := hb
    have e : hp_I (hp_sI α ψ b v) ψ b = v := by simp [hp_I, hp_sI, hp_up]
    rw [e]; exact hv
  · have e : hp_I (hp_sI α φ a v) ψ b = hp_I α ψ b := by simp [hp_I, hp_sI, hp_up, hb]
    rw [e]; exact g1 ψ b
theorem cw_sE {w : cw_W} {α0 α : hp_T} {κ a j : Nat} {v : Int32} (h : cw w α0 α) (hκ : κ ∈ w.2.2.1) : cw w α0 (hp_sE α κ a j v) := by
  obtain ⟨g, h1, h2, h3, h4, h5, h6, h7, h8⟩ := h
  have hne : ∀ ψ, ψ ≠ κ → hp_E (hp_sE α κ a j v) ψ = hp_E α ψ := fun ψ hψ => by funext b i; simp [hp_E, hp_sE, hp_uq, hψ]
  exact ⟨g, h1, h2, h3, h4, h5, h6, fun ψ hψ => (hne ψ (fun e => hψ (e ▸ hκ))).trans (h7 ψ hψ), h8⟩
theorem cw_sR {w : cw_W} {α0 α : hp_T} {φ a x : Nat} (h : cw w α0 α) (hφ : φ ∈ w.2.1) (hx : gc_t φ (hp_K α0 x)) : cw w α0 (hp_sR α φ a x) := by
  obtain ⟨⟨g1, g2, g3, g4⟩, h1, h2, h3, h4, h5, h6, h7, h8⟩ := h
  have hne : ∀ ψ, ψ ≠ φ → hp_R (hp_sR α φ a x) ψ = hp_R α ψ := fun ψ hψ => by funext b; simp [hp_R, hp_sR, hp_up, hψ]
  refine ⟨⟨g1, fun ψ b hb hr => ?_, g3, g4⟩, h1, h2, h3, h4, h5, fun ψ hψ => (hne ψ (fun e => hψ (e ▸ hφ))).trans (h6 ψ hψ), h7, h8⟩
  by_cases hq : ψ = φ ∧ b = a
  · obtain ⟨rfl, rfl⟩ := hq
    have e : hp_R (hp_sR α ψ b x) ψ b = x := by simp [hp_R, hp_sR, hp_up]
    rw [e]
    show gc_t ψ (hp_K α x)
    rw [h1]; exact hx
  · have e : hp_R (hp_sR α φ a x) ψ b = hp_R α ψ b := by simp [hp_R, hp_sR, hp_up, hq]
    rw [e]; exact g2 ψ b hb hr
theorem cw_I {w : cw_W} {α0 α : hp_T} (h : cw w α0 α) {φ : Nat} (a : Nat) (hφ : φ ∉ w.1) : hp_I α φ a = hp_I α0 φ a := by rw [h.2.2.2.2.2.1 φ hφ]
theorem cw_R {w : cw_W} {α0 α : hp_T} (h : cw w α0 α) {φ : Nat} (a : Nat) (hφ : φ ∉ w.2.1) : hp_R α φ a = hp_R α0 φ a := by rw [h.2.2.2.2.2.2.1 φ hφ]
theorem cw_k {w : cw_W} {α0 α : hp_T} {b κ : Nat} (h : cw w α0 α) (hk : hp_K α0 b = κ) : hp_K α b = κ := by rw [h.2.1]; exact hk
theorem cw_r {w : cw_W} {α0 α : hp_T} {a κ φ κ' : Nat} (h : cw w α0 α) (hk : hp_K α0 a = κ) (hφ : φ / 50 = κ) (hr : gc_rk φ = κ') (hz : κ' ≠ 0) (h350 : φ ≠ 350) : hp_K α0 (hp_R α φ a) = κ' := by
  rcases h.1.2.1 φ a (by rw [h.2.1, hφ]; exact hk) (by rw [hr]; exact hz) with e | e
  · rw [← h.2.1, e, hr]
  · exact absurd e.1 h350
theorem cw_q {w : cw_W} {α0 α : hp_T} {a κ j b κ' : Nat} (h : cw w α0 α) (hk : hp_K α0 a = κ) (hr : gc_qk κ = κ') (hz : κ' ≠ 0) (hb : hp_Q α κ a j = some b) : hp_K α0 b = κ' := by
  have := h.1.2.2.2 κ a j b (by rw [h.2.1]; exact hk) (by rw [hr]; exact hz) hb
  rw [h.2.1, hr] at this
  exact this
theorem cw_k' {w : cw_W} {α0 α : hp_T} {b κ : Nat} (h : cw w α0 α) (hk : hp_K α b = κ) : hp_K α0 b = κ := by rw [← h.2.1]; exact hk
theorem cw_u {w : cw_W} {α0 α : hp_T} {a : Nat} (h : cw w α0 α) (hk : hp_K α0 a = 7) : hp_K α0 (hp_R α 350 a) = 24 ∨ hp_K α0 (hp_R α 350 a) = 36 := by
  rcases h.1.2.1 350 a (by rw [h.2.1, hk]) (by decide) with e | e
  · left; rw [← h.2.1, e]; rfl
  · right; rw [← h.2.1]; exact e.2
theorem hp_I_ne {α : hp_T} {φ a ψ b : Nat} {v : Int32} (h : ψ ≠ φ) : hp_I (hp_sI α φ a v) ψ b = hp_I α ψ b := by simp [hp_I, hp_sI, hp_up, h]
theorem nz_z {x : Int32} (h : x = 0 ∨ x = 1) : narrow .boolean (.int x) = .int x := by rcases h with rfl | rfl <;> decide
theorem li_nz {m : Int32} {y : Int64} (e : y = m.toInt64) (h : ¬ m.toInt = 0) : ¬ y = 0 := by
  intro hy
  rw [hy] at e
  have h2 := congrArg Int64.toInt e
  rw [Int32.toInt_toInt64] at h2
  exact h (by rw [← h2]; rfl)
section HPG
variable {p : Program} {l : Launch} {e : Env} {R : Room} {s : State} {m : MethodId} {args : Array Value} {below : List Frame} {meth : Method} {c : Code} {H : Heap} {locs : List Loc} {cells slots : Nat} {Q : State → Prop} {cc : ByteArray} {nL : Nat} {own : String} {Γ : hp_G} {α0 α α' : hp_T} {Iv : hp_T → hp_T → Prop} {pc pc' : Nat} {ls : Array Slot} {rest : List Value} {a κ k t index φ κ' : Nat} {v : Value}
/-- getfield of an int: it gets a name -/
theorem q_geti (C : hp_C Γ p m c cc nL s args own) (B : hp_B Γ Iv s α0 α H locs) (hk : hp_K α a = κ) (hF : hp_F own index (hp_b κ) k) (hc : hp_isC κ = true) (ht : (hp_tg κ)[k]? = some 0) (hφ : 50 * hp_b κ + k = φ) (hdg : decode cc pc = .ok (.getfield index, 3)) (hpc : pc + 3 = pc')
    (kk : ∀ x : Int32, x = hp_I α φ a → W p l e R s m args below meth c H locs cells slots Q (F0 m pc' ls (.int x :: rest))) : W p l e R s m args below meth c H locs cells slots Q (F0 m pc ls (.ref a :: rest)) := by
  subst hφ
  exact q_get C B hk hF hc ht rfl hdg hpc (kk _ rfl)
/-- the same int again -/
theorem q_getj {x : Int32} (C : hp_C Γ p m c cc nL s args own) (B : hp_B Γ Iv s α0 α H locs) (hk : hp_K α a = κ) (hF : hp_F own index (hp_b κ) k) (hc : hp_isC κ = true) (ht : (hp_tg κ)[k]? = some 0) (hφ : 50 * hp_b κ + k = φ) (hx : x = hp_I α φ a) (hdg : decode cc pc = .ok (.getfield index, 3)) (hpc : pc + 3 = pc')
    (kk : W p l e R s m args below meth c H locs cells slots Q (F0 m pc' ls (.int x :: rest))) : W p l e R s m args below meth c H locs cells slots Q (F0 m pc ls (.ref a :: rest)) := by
  subst hφ; subst hx
  exact q_get C B hk hF hc ht rfl hdg hpc kk
/-- getfield of a reference: it gets a name and its kind -/
theorem q_getr (C : hp_C Γ p m c cc nL s args own) (B : hp_B Γ Iv s α0 α H locs) (hk : hp_K α a = κ) (hF : hp_F own index (hp_b κ) k) (hc : hp_isC κ = true) (ht : (hp_tg κ)[k]? = some 1) (hφ : 50 * hp_b κ + k = φ) (hT : hp_K α0 (hp_R α φ a) = κ') (hdg : decode cc pc = .ok (.getfield index, 3)) (hpc : pc + 3 = pc')
    (kk : ∀ b : Nat, b = hp_R α φ a → hp_K α0 b = κ' → W p l e R s m args below meth c H locs cells slots Q (F0 m pc' ls (.ref b :: rest))) : W p l e R s m args below meth c H locs cells slots Q (F0 m pc ls (.ref a :: rest)) := by
  subst hφ
  exact q_get C B hk hF hc ht rfl hdg hpc (kk _ rfl hT)
theorem q_gets {b : Nat} (C : hp_C Γ p m c cc nL s args own) (B : hp_B Γ Iv s α0 α H locs) (hk : hp_K α a = κ) (hF : hp_F own index (hp_b κ) k) (hc : hp_isC κ = true) (ht : (hp_tg κ)[k]? = some 1) (hφ : 50 * hp_b κ + k = φ) (hx : b = hp_R α φ a) (hdg : decode cc pc = .ok (.getfield index, 3)) (hpc : pc + 3 = pc')
    (kk : W p l e R s m args below meth c H locs cells slots Q (F0 m pc' ls (.ref b :: rest))) : W p l e R s m args below meth c H locs cells slots Q (F0 m pc ls (.ref a :: rest)) := by
  subst hφ; subst hx
  exact q_get C B hk hF hc ht rfl hdg hpc kk
theorem q_getu (C : hp_C Γ p m c cc nL s args own) (B : hp_B Γ Iv s α0 α H locs) (hk : hp_K α a = κ) (hF : hp_F own index (hp_b κ) k) (hc : hp_isC κ = true) (ht : (hp_tg κ)[k]? = some 1) (hφ : 50 * hp_b κ + k = φ) (hT : hp_K α0 (hp_R α φ a) = 24 ∨ hp_K α0 (hp_R α φ a) = 36) (hdg : decode cc pc = .ok (.getfield index, 3)) (hpc : pc + 3 = pc')
    (kk : ∀ b : Nat, b = hp_R α φ a → (hp_K α0 b = 24 ∨ hp_K α0 b = 36) → W p l e R s m args below meth c H locs cells slots Q (F0 m pc' ls (.ref b :: rest))) : W p l e R s m args below meth c H locs cells slots Q (F0 m pc ls (.ref a :: rest)) := by
  subst hφ
  exact q_get C B hk hF hc ht rfl hdg hpc (kk _ rfl hT)
end HPG
end JN2_0
section JN2_1
theorem lt_m1 : (-1 : Int32).toInt = -1 := by decide
theorem mu_dn1 {x y : Int32} {n : Nat} (h : (x.toInt + 1).toNat = n) (e : y = x + (-1)) (h0 : 0 ≤ x.toInt) : (y.toInt + 1).toNat < n := by
  have h1 := ib_hi x
  have h2 : (x + (-1)).toInt = x.toInt + (-1 : Int32).toInt := ii_add (by rw [lt_m1]; omega) (by rw [lt_m1]; omega)
  rw [lt_m1] at h2
  rw [e]
  omega
/-- a method's start, of a class that has members which the machine runs by itself -/
theorem hp_startF {l : Launch} {Γ : hp_G} {α : hp_T} {bytes : ByteArray} {maxL d mc ms : Nat} {ret : Option FieldType} {y : MethodName} {Qc : Array Value → State → Outcome → State → Prop} {av : List Value} (hy : plainFor y = true)
    (body : ∀ p e s m below meth c, hp_C Γ p m c bytes maxL s av.toArray y.cls → meth.sig.returnType = ret → meth.locks = false → hp_B Γ (fun _ _ => True) s α α s.heap [] → meth.name = y.name →
      W p l e (hp_rm d mc ms) s m av.toArray below meth c s.heap [] 0 0 (MQ below Qc av.toArray s mc ms (hp_A Γ)) (entryFrame m av.toArray maxL)) : Met l y (hp_ws y bytes maxL ret) (hp_rm d mc ms) (hp_Pc Γ α av) Qc mc ms (hp_A Γ) := by
  refine va_MetF (cc := bytes) (maxL := maxL) (ret := ret) hy rfl ?_
  intro p e s m args below meth c s₁ B hml hv
  obtain ⟨rfl, hR, hK⟩ := hv
  have hts := atoms_spec (ws := hp_ws y bytes maxL ret) B.pre
  exact body p e s m below meth c ⟨⟨B.exec, B.bytes, hml, findClass_of_methodNamed B.named, fun w hw => hts w (List.mem_cons_of_mem _ hw)⟩, hK⟩ B.returns B.notSynchronized ⟨hR, va_S.rf, trivial⟩ (name_of_methodNamed B.named B.method).1
theorem hp_I_at {α : hp_T} {φ a : Nat} {v : Int32} : hp_I (hp_sI α φ a v) φ a = v := by simp [hp_I, hp_sI, hp_up]
/-- a rest by a number above 0 of what is not below 0 -/
theorem rt_nn {h m : Int32} (h0 : 0 ≤ h.toInt) (h1 : h.toInt < 65521) (m0 : 0 < m.toInt) (m1 : m.toInt ≤ 65521) : 0 ≤ ((h.toInt64 * h.toInt64 + 3 * h.toInt64) - (h.toInt64 * h.toInt64 + 3 * h.toInt64) / m.toInt64 * m.toInt64).toInt32.toInt := by
  have e1 : h.toInt64.toInt = h.toInt := Int32.toInt_toInt64 h
  have e2 : m.toInt64.toInt = m.toInt := Int32.toInt_toInt64 m
  have hh : 0 ≤ h.toInt * h.toInt := Int.mul_nonneg h0 h0
  have hh2 : h.toInt * h.toInt ≤ 65521 * 65521 := Int.mul_le_mul (by omega) (by omega) h0 (by omega)
  have a1 : (h.toInt64 * h.toInt64).toInt = h.toInt * h.toInt := by
    rw [Int64.toInt_mul, e1, Int.bmod_eq_of_le] <;> omega
  have a2 : (3 * h.toInt64).toInt = 3 * h.toInt := by
    rw [Int64.toInt_mul, e1, show (3 : Int64).toInt = 3 by decide, Int.bmod_eq_of_le] <;> omega
  have a3 : (h.toInt64 * h.toInt64 + 3 * h.toInt64).toInt = h.toInt * h.toInt + 3 * h.toInt := by
    rw [Int64.toInt_add, a1, a2, Int.bmod_eq_of_le] <;> omega
  generalize hx : h.toInt64 * h.toInt64 + 3 * h.toInt64 = x at a3 ⊢
  have x0 : 0 ≤ x.toInt := by rw [a3]; omega
  have x1 : x.toInt ≤ 65521 * 65521 + 3 * 65521 := by rw [a3]; omega
  have d1 : (x / m.toInt64).toInt = x.toInt / m.toInt := by
    have e : (x / m.toInt64).toInt = (x.toInt.tdiv m.toInt64.toInt).bmod (2 ^ 64) := Int64.toInt_div x m.toInt64
    have h3 : 0 ≤ x.toInt / m.toInt := Int.ediv_nonneg x0 (by omega)
    have h4 : x.toInt / m.toInt ≤ x.toInt := Int.ediv_le_self _ x0
    rw [e2, Int.tdiv_eq_ediv_of_nonneg x0, Int.bmod_eq_of_le (by omega) (by omega)] at e
    exact e
  have h3 : 0 ≤ x.toInt / m.toInt := Int.ediv_nonneg x0 (by omega)
  have h5 := Int.emod_add_mul_ediv x.toInt m.toInt
  have h6 := Int.emod_nonneg x.toInt (show m.toInt ≠ 0 by omega)
  have h6b := Int.emod_lt_of_pos x.toInt m0
  have h7 : 0 ≤ x.toInt / m.toInt * m.toInt := Int.mul_nonneg h3 (by omega)
  have h8 : x.toInt / m.toInt * m.toInt = m.toInt * (x.toInt / m.toInt) := Int.mul_comm _ _
  have d2 : (x / m.toInt64 * m.toInt64).toInt = x.toInt / m.toInt * m.toInt := by
    rw [Int64.toInt_mul, d1, e2, Int.bmod_eq_of_le] <;> omega
  have d3 : (x - x / m.toInt64 * m.toInt64).toInt = x.toInt % m.toInt := by
    rw [Int64.toInt_sub, d2, Int.bmod_eq_of_le] <;> omega
  rw [Int64.toInt_toInt32, d3, Int.bmod_eq_of_le] <;> omega
end JN2_1
section JN2_2
abbrev w_X5_at : cw_W := ([], [], [], [])
set_option maxRecDepth 100000 in
set_option maxHeartbeats 4000000 in
theorem t_X5_at (Γ : hp_G) (l : Launch) (α : hp_T) (g : GC α) (a0 : Nat) (k0 : hp_K α a0 = 6) (a1 : Int32) : Met l yX5_at (hp_ws yX5_at cX5_at 2 (some .int)) (hp_rm 0 0 0) (hp_Pc Γ α [.ref a0, .int a1]) (hp_Qi Γ (fun r β => β = α)) 0 0 (hp_A Γ) := by
  refine hp_start (by decide) ?_
  intro p e s m below meth c C hr hlk B0 hnm
  have C : hp_C Γ p m c cX5_at 2 s ([.ref a0, .int a1] : List Value).toArray RX5 := C
  have hx := C.1.1
  have hb := C.1.2.1
  have hown := C.1.2.2.2.1
  have hts := C.1.2.2.2.2
  have B : hp_B Γ (cw w_X5_at) s α α s.heap [] := ⟨B0.1, B0.2.1, cw_rf g⟩
  have lit0 : (0 : Int32).toInt = 0 := by decide
  have lit64 : (64 : Int32).toInt = 64 := by decide
  have hl := lv_entry ([.ref a0, .int a1]) (n := 2) (Nat.le_of_ble_eq_true rfl)
  show W p l e (hp_rm 0 0 0) s m ([.ref a0, .int a1] : List Value).toArray below meth c s.heap [] 0 0 (MQ below (hp_Qi Γ (fun r β => β = α)) ([.ref a0, .int a1] : List Value).toArray s 0 0 (hp_A Γ)) (entryFrame m ([.ref a0, .int a1] : List Value).toArray 2)
  rw [lg_entry_eq]
  generalize (lg_sl ([.ref a0, .int a1]) ++ List.replicate (2 - (lg_sl ([.ref a0, .int a1])).length) Slot.unset).toArray = ls at hl ⊢
  have hl : lv_has ls 2 [(0, .ref a0), (1, .int a1)] := hl
  refine lv_iload_n hx hb dX5_at_0 rfl (lv_at hl 1 rfl) (hp_n (n := 1) rfl ?_)
  refine lv_if_lt (tgt := 30) hx hb dX5_at_1 (by decide) (fun c_1 => ?_) (fun c_1 => hp_n (n := 4) rfl ?_)
  ·
    have jc_1 := il_lt c_1
    refine lv_iconst (v := 0) hx hb dX5_at_30 (by decide) (hp_n (n := 31) rfl ?_)
    exact q_iret C B hr hlk rfl dX5_at_31
  ·
    have jc_1 := il_nlt c_1
    refine lv_iload_n hx hb dX5_at_4 rfl (lv_at hl 1 rfl) (hp_n (n := 5) rfl ?_)
    refine lv_aload_n hx hb dX5_at_5 rfl (lv_at hl 0 rfl) (hp_n (n := 6) rfl ?_)
    refine q_geti (κ := 6) (k := 1) (φ := 301) (pc' := 9) C B (cw_k B.2.2 k0) fl_X5_15 rfl rfl rfl dX5_at_6 rfl (fun x_2 ex_2 => ?_)
    refine lv_icmp_ge (tgt := 30) hx hb dX5_at_9 (by decide) (fun c_3 => ?_) (fun c_3 => hp_n (n := 12) rfl ?_)
    ·
      have jc_3 := il_le c_3
      refine lv_iconst (v := 0) hx hb dX5_at_30 (by decide) (hp_n (n := 31) rfl ?_)
      exact q_iret C B hr hlk rfl dX5_at_31
    ·
      have jc_3 := il_nle c_3
      refine lv_iload_n hx hb dX5_at_12 rfl (lv_at hl 1 rfl) (hp_n (n := 13) rfl ?_)
      refine lv_aload_n hx hb dX5_at_13 rfl (lv_at hl 0 rfl) (hp_n (n := 14) rfl ?_)
      refine q_getr (κ := 6) (k := 0) (φ := 300) (pc' := 17) C B (cw_k B.2.2 k0) fl_X5_9 rfl rfl rfl (cw_r B.2.2 k0 rfl rfl (by decide) (by decide)) dX5_at_14 rfl (fun b_4 eb_4 kb_4 => ?_)
      refine q_alen (κ := 20) (t := 0) (n := 64) (x := 64) (ty := .int) (pc' := 18) C B (cw_k B.2.2 kb_4) (by decide) rfl rfl rfl dX5_at_17 rfl ?_
      refine lv_icmp_ge (tgt := 30) hx hb dX5_at_18 (by decide) (fun c_5 => ?_) (fun c_5 => hp_n (n := 21) rfl ?_)
      ·
        have jc_5 := il_le c_5
        refine lv_iconst (v := 0) hx hb dX5_at_30 (by decide) (hp_n (n := 31) rfl ?_)
        exact q_iret C B hr hlk rfl dX5_at_31
      ·
        have jc_5 := il_nle c_5
        refine lv_aload_n hx hb dX5_at_21 rfl (lv_at hl 0 rfl) (hp_n (n := 22) rfl ?_)
        refine q_gets (κ := 6) (k := 0) (φ := 300) (pc' := 25) C B (cw_k B.2.2 k0) fl_X5_9 rfl rfl rfl eb_4 dX5_at_22 rfl ?_
        refine lv_iload_n hx hb dX5_at_25 rfl (lv_at hl 1 rfl) (hp_n (n := 26) rfl ?_)
        refine q_ial (κ := 20) (n := 64) (pc' := 27) C B (cw_k B.2.2 kb_4) (by decide) rfl (vi_of (by omega) (by omega)) dX5_at_26 rfl (lv_topi (fun x_6 ex_6 => ?_))
        refine lv_goto (tgt := 31) hx hb dX5_at_27 (by decide) ?_
        exact q_iret C B hr hlk rfl dX5_at_31
abbrev w_X5_put : cw_W := ([301], [], [20], [])
abbrev w_X5_change : cw_W := ([], [], [20], [])
abbrev w_X5_shorten : cw_W := ([301], [], [], [])
abbrev w_X5_countOf : cw_W := ([], [], [], [])
end JN2_2
