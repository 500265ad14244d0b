/-! ===== public functions of the reference: tools, the simple ones ===== -/
theorem iw_add (x y : Int32) : (x + y).toInt = (x.toInt + y.toInt + 2147483648) % 4294967296 - 2147483648 := by
  rw [Int32.toInt_add]; simp only [Int.bmod]; split <;> omega
theorem iw_sub (x y : Int32) : (x - y).toInt = (x.toInt - y.toInt + 2147483648) % 4294967296 - 2147483648 := by
  rw [Int32.toInt_sub]; simp only [Int.bmod]; split <;> omega
theorem iw_mul (x y : Int32) : (x * y).toInt = (x.toInt * y.toInt + 2147483648) % 4294967296 - 2147483648 := by
  rw [Int32.toInt_mul]; simp only [Int.bmod]; split <;> omega
theorem t_m1 : (-1 : Int32).toInt = -1 := by decide
theorem t_2 : (2 : Int32).toInt = 2 := by decide
theorem t_3 : (3 : Int32).toInt = 3 := by decide
theorem t_4 : (4 : Int32).toInt = 4 := by decide
theorem t_5 : (5 : Int32).toInt = 5 := by decide
theorem t_6 : (6 : Int32).toInt = 6 := by decide
theorem t_8 : (8 : Int32).toInt = 8 := by decide
theorem t_9 : (9 : Int32).toInt = 9 := by decide
theorem t_10 : (10 : Int32).toInt = 10 := by decide
theorem t_16 : (16 : Int32).toInt = 16 := by decide
theorem t_20 : (20 : Int32).toInt = 20 := by decide
theorem t_24 : (24 : Int32).toInt = 24 := by decide
theorem t_26 : (26 : Int32).toInt = 26 := by decide
theorem t_30 : (30 : Int32).toInt = 30 := by decide
theorem t_31 : (31 : Int32).toInt = 31 := by decide
theorem t_48 : (48 : Int32).toInt = 48 := by decide
theorem t_64 : (64 : Int32).toInt = 64 := by decide
theorem t_72 : (72 : Int32).toInt = 72 := by decide
theorem t_76 : (76 : Int32).toInt = 76 := by decide
theorem t_92 : (92 : Int32).toInt = 92 := by decide
theorem t_101 : (101 : Int32).toInt = 101 := by decide
theorem t_252 : (252 : Int32).toInt = 252 := by decide
theorem t_444 : (444 : Int32).toInt = 444 := by decide
theorem t_512 : (512 : Int32).toInt = 512 := by decide
theorem t_900 : (900 : Int32).toInt = 900 := by decide
theorem t_1980 : (1980 : Int32).toInt = 1980 := by decide
theorem t_65521 : (65521 : Int32).toInt = 65521 := by decide
theorem t_99999 : (99999 : Int32).toInt = 99999 := by decide
theorem t_mil : (1000000 : Int32).toInt = 1000000 := by decide
theorem lits : (0 : Int32).toInt = 0 ∧ (1 : Int32).toInt = 1 ∧ (2 : Int32).toInt = 2 ∧ (3 : Int32).toInt = 3 ∧ (4 : Int32).toInt = 4 ∧ (5 : Int32).toInt = 5 ∧ (6 : Int32).toInt = 6 ∧ (8 : Int32).toInt = 8 ∧ (9 : Int32).toInt = 9 ∧ (10 : Int32).toInt = 10 ∧ (16 : Int32).toInt = 16 ∧ (20 : Int32).toInt = 20 ∧ (26 : Int32).toInt = 26 ∧ (30 : Int32).toInt = 30 ∧ (31 : Int32).toInt = 31 ∧ (48 : Int32).toInt = 48 ∧ (64 : Int32).toInt = 64 ∧ (512 : Int32).toInt = 512 ∧ (900 : Int32).toInt = 900 ∧ (1980 : Int32).toInt = 1980 ∧ (-1 : Int32).toInt = -1 := by decide
section P4
variable {R : Type} {Q : R → Prop} {a b : Option R}
theorem ws_bo {x : Option Int32} {P : Prop} (h : ws x (fun r => bo r P)) (h0 : ¬ P → ws a Q) (h1 : P → ws b Q) : ws (ms_b x fun r => if r = 0 then a else b) Q :=
  ws_b h (fun _ hr => ws_i (fun e => h0 (bo_0 hr e)) (fun e => h1 (bo_1 hr (fun q => e (Int32.toInt_inj.mp q)))))
theorem ws_ee {i j : Int32} (h : i = j → i.toInt = j.toInt → ws a Q) (g : ¬ i.toInt = j.toInt → ws b Q) : ws (if i = j then a else b) Q := ws_e (fun e => h e (il_eq e)) g
end P4
theorem PKr {τ : ms_T} (h : RI τ) (r : Int32) : PK τ (r, τ) := ⟨h, rfl⟩
theorem ws_isP {n : Nat} {σ : ms_T} {w : Int32} {k : ms_T → Option (Int32 × ms_T)} (hR : RI σ) (h1 : w = 0 → ∀ τ, RI τ → ms_E τ = ms_E σ → fr [652, 653] [] σ τ → ws (k τ) (PK τ)) : ws (ms_c (f_X12_is n σ w) fun r τ => if r = 0 then some ((-1 : Int32), τ) else k τ) (PK σ) :=
  ws_is (fun τ h => pk_is hR h _) (fun e τ h => by
    obtain ⟨a, b, c⟩ := is_R hR h
    exact ws_m (h1 e τ a c h) (fun res hres => pk_tr b hres))
theorem ws_is0 {n : Nat} {σ : ms_T} {w : Int32} {k : ms_T → Option (Int32 × ms_T)} (hR : RI σ) (h1 : ∀ τ, RI τ → ms_E τ = ms_E σ → fr [652, 653] [] σ τ → ws (k τ) (PK τ)) : ws (ms_c (f_X12_is n σ w) fun _ τ => k τ) (PK σ) :=
  ws_c (s_is n σ w) (fun r τ h => by
    obtain ⟨a, b, c⟩ := is_R hR h.1
    exact ws_m (h1 τ a c h.1) (fun res hres => pk_tr b hres))
theorem ws_rf {n : Nat} {σ : ms_T} {w : Int32} (hR : RI σ) : ws (ms_c (f_X12_refuse n σ w) fun r τ => some (r, τ)) (PK σ) :=
  ws_c (s_refuse n σ w) (fun _ _ h => ws_s (pk hR h.1 (by decide) _))
theorem s_trust {n : Nat} {σ : ms_T} (hC : rC (ms_E σ 40)) (a1 a2 : Int32) (h0 : 0 ≤ a1.toInt) (h1 : a1.toInt ≤ 3) (h2 : 0 ≤ a2.toInt) (h3 : a2.toInt ≤ 3) : ws (f_X12_trust n σ a1 a2) (fun r => a2 = 0 → 0 ≤ r.toInt ∧ r.toInt ≤ 48) := by
  unfold f_X12_trust
  refine ws_g (by (try simp only [iw_add, iw_sub, iw_mul, t_m1, lt0, lt1, t_2, t_3, t_4, t_5, t_6, t_8, t_9, t_10, t_16, t_20, t_24, t_26, t_30, t_31, t_48, t_64, t_72, t_76, t_92, t_101, t_252, t_444, t_512, t_900, t_1980, t_65521, t_99999, t_mil]) <;> omega) (by (try simp only [iw_add, iw_sub, iw_mul, t_m1, lt0, lt1, t_2, t_3, t_4, t_5, t_6, t_8, t_9, t_10, t_16, t_20, t_24, t_26, t_30, t_31, t_48, t_64, t_72, t_76, t_92, t_101, t_252, t_444, t_512, t_900, t_1980, t_65521, t_99999, t_mil]) <;> omega) (ws_s (fun h => ?_))
  subst h
  rw [cl_n (i := (76 : Int32) + 4 * a1 + 0) (k := 76 + 4 * a1.toInt.toNat) (by (try simp only [iw_add, iw_sub, iw_mul, t_m1, lt0, lt1, t_2, t_3, t_4, t_5, t_6, t_8, t_9, t_10, t_16, t_20, t_24, t_26, t_30, t_31, t_48, t_64, t_72, t_76, t_92, t_101, t_252, t_444, t_512, t_900, t_1980, t_65521, t_99999, t_mil]) <;> omega)]
  exact hC.2.2.2.2.2.1 a1.toInt.toNat (by omega)
theorem s_froze {n : Nat} {σ : ms_T} (hC : rC (ms_E σ 40)) (a1 a2 : Int32) (h0 : 0 ≤ a1.toInt) (h1 : a1.toInt ≤ 15) (h2 : 0 ≤ a2.toInt) (h3 : a2.toInt ≤ 128) : ws (f_X12_froze n σ a1 a2) (fun r => (a2 = 0 → 0 ≤ r.toInt ∧ r.toInt ≤ 3) ∧ (a2 = 1 → 0 ≤ r.toInt ∧ r.toInt ≤ 48)) := by
  unfold f_X12_froze
  have e1 : ((92 : Int32) + 10 * a1).toInt = 92 + 10 * a1.toInt := by (try simp only [iw_add, iw_sub, iw_mul, t_m1, lt0, lt1, t_2, t_3, t_4, t_5, t_6, t_8, t_9, t_10, t_16, t_20, t_24, t_26, t_30, t_31, t_48, t_64, t_72, t_76, t_92, t_101, t_252, t_444, t_512, t_900, t_1980, t_65521, t_99999, t_mil]) <;> omega
  have e2 : ((92 : Int32) + 10 * a1 + a2).toInt = 92 + 10 * a1.toInt + a2.toInt := by rw [iw_add, e1]; omega
  refine ws_g (by omega) (by omega) (ws_s ⟨fun h => ?_, fun h => ?_⟩)
  · subst h
    rw [cl_n (i := (92 : Int32) + 10 * a1 + 0) (k := 92 + 10 * a1.toInt.toNat) (by (try simp only [iw_add, iw_sub, iw_mul, t_m1, lt0, lt1, t_2, t_3, t_4, t_5, t_6, t_8, t_9, t_10, t_16, t_20, t_24, t_26, t_30, t_31, t_48, t_64, t_72, t_76, t_92, t_101, t_252, t_444, t_512, t_900, t_1980, t_65521, t_99999, t_mil]) <;> omega)]
    exact hC.2.2.2.2.2.2.1 a1.toInt.toNat (by omega)
  · subst h
    rw [cl_n (i := (92 : Int32) + 10 * a1 + 1) (k := 93 + 10 * a1.toInt.toNat) (by (try simp only [iw_add, iw_sub, iw_mul, t_m1, lt0, lt1, t_2, t_3, t_4, t_5, t_6, t_8, t_9, t_10, t_16, t_20, t_24, t_26, t_30, t_31, t_48, t_64, t_72, t_76, t_92, t_101, t_252, t_444, t_512, t_900, t_1980, t_65521, t_99999, t_mil]) <;> omega)]
    exact hC.2.2.2.2.2.2.2.1 a1.toInt.toNat (by omega)
theorem s_isSound (n : Nat) (hn : 70000 ≤ n) {σ : ms_T} (hC : rC (ms_E σ 40)) (a1 : Int32) (h0 : 0 ≤ a1.toInt) (h1 : a1.toInt ≤ 15) : ws (f_X12_isSound n σ a1) (fun _ => True) := by
  unfold f_X12_isSound
  refine ws_b (s_froze hC a1 0 h0 h1 (by decide) (by decide)) (fun r hr => ws_b (s_froze hC a1 1 h0 h1 (by decide) (by decide)) (fun s hs => ?_))
  have hr := hr.1 rfl
  have hs := hs.2 rfl
  exact ws_b (s_headOf n hn hC r s hr.1 hr.2 hs.1 hs.2) (fun _ _ => ws_b (s_froze hC a1 2 h0 h1 (by decide) (by decide)) (fun _ _ => ws_i (fun _ => ws_s trivial) (fun _ => ws_s trivial)))
theorem s_isWatcher (n : Nat) (a : Int32) : ws (f_X12_isWatcher n a) (fun r => bo r (0 ≤ a.toInt ∧ a.toInt ≤ 3)) := by
  unfold f_X12_isWatcher
  exact ws_b (s_isIn n a 0 3) (fun r hr => ws_z (bo_z hr) (ws_s hr))
theorem s_isThing (n : Nat) (σ : ms_T) (a b : Int32) : ws (f_X12_isThing n σ a b) (fun r => bo r (0 ≤ a.toInt ∧ a.toInt < b.toInt)) := by
  unfold f_X12_isThing
  have L := lits
  exact ws_lt (fun _ => ws_s (Or.inr ⟨rfl, by omega⟩)) (fun _ => ws_le (fun _ => ws_s (Or.inr ⟨rfl, by omega⟩)) (fun _ => ws_s (Or.inl ⟨rfl, by omega⟩)))
theorem s_noSize {n : Nat} {σ : ms_T} (hC : rC (ms_E σ 40)) (a1 a2 : Int32) : ws (f_X12_noSize n σ a1 a2) (fun r => r = 0 → 0 ≤ a1.toInt ∧ a1.toInt ≤ 3 ∧ 0 ≤ a2.toInt ∧ a2.toInt ≤ 48) := by
  unfold f_X12_noSize
  have L := lits
  have h4 := hC.1
  refine ws_le (fun _ => ws_bo (s_isRecord hC _) (fun _ => ws_s (fun h => absurd h (by decide))) (fun _ => ?_)) (fun _ => ws_s (fun h => absurd h (by decide)))
  refine ws_b (s_sizeOf hC a1 (by omega) (by omega)) (fun s hs => ws_le (fun _ => ws_s (fun _ => by omega)) (fun _ => ws_s (fun h => absurd h (by decide))))
theorem s_noEntry {n : Nat} {σ : ms_T} (hC : rC (ms_E σ 40)) (a1 a2 a3 : Int32) : ws (f_X12_noEntry n σ a1 a2 a3) (fun r => r = 0 → 0 ≤ a1.toInt ∧ a1.toInt ≤ 3 ∧ 0 ≤ a2.toInt ∧ a2.toInt < a3.toInt ∧ a3.toInt ≤ 48) := by
  unfold f_X12_noEntry f_X12_noEntry_J8 f_X12_noEntry_J38
  have L := lits
  have h4 := hC.1
  refine ws_lt (fun _ => ws_s (fun h => absurd h (by decide))) (fun _ => ws_le (fun _ => ws_bo (s_isRecord hC _) (fun _ => ws_s (fun h => absurd h (by decide))) (fun _ => ?_)) (fun _ => ws_s (fun h => absurd h (by decide))))
  refine ws_b (s_sizeOf hC a1 (by omega) (by omega)) (fun s hs => ws_lt (fun _ => ws_s (fun h => absurd h (by decide))) (fun _ => ws_lt (fun _ => ws_s (fun _ => by omega)) (fun _ => ws_s (fun h => absurd h (by decide)))))
theorem s_isHead (n : Nat) (hn : 70000 ≤ n) {σ : ms_T} (hC : rC (ms_E σ 40)) (a1 a2 a3 : Int32) (h0 : 0 ≤ a1.toInt) (h1 : a1.toInt ≤ 3) (h2 : 0 ≤ a2.toInt) : ws (f_X12_isHead n σ a1 a2 a3) (fun _ => True) := by
  unfold f_X12_isHead
  exact ws_b (s_sizeOf hC a1 h0 h1) (fun s hs => ws_lt (fun _ => ws_s trivial) (fun _ => ws_b (s_headOf n hn hC a1 a2 h0 h1 h2 (by omega)) (fun _ _ => ws_i (fun _ => ws_s trivial) (fun _ => ws_s trivial))))
theorem s_isAgreed_L (n : Nat) (hn : 70000 ≤ n) {σ : ms_T} (hC : rC (ms_E σ 40)) (a1 a2 : Int32) (h0 : 0 ≤ a1.toInt) (h1 : a1.toInt ≤ 3) (h2 : 0 ≤ a2.toInt) (h3 : a2.toInt ≤ 3) : ∀ (k : Nat) (v : Int32), 0 ≤ v.toInt → v.toInt ≤ 4 → 5 - v.toInt ≤ (k : Int) → ws (f_X12_isAgreed_L2 n σ k a1 a2 v) (fun _ => True) := by
  intro k
  induction k with
  | zero => intro v g0 g1 g2; omega
  | succ k ih =>
    intro v g0 g1 g2
    rw [f_X12_isAgreed_L2.eq_2]
    have h4 := hC.1
    have hJ : v.toInt < 4 → ws (f_X12_isAgreed_J54 n σ (f_X12_isAgreed_L2 n σ k) a1 a2 v) (fun _ => True) := by
      intro hv
      unfold f_X12_isAgreed_J54
      exact ws_l (ih (v + 1) (by (try simp only [iw_add, iw_sub, iw_mul, t_m1, lt0, lt1, t_2, t_3, t_4, t_5, t_6, t_8, t_9, t_10, t_16, t_20, t_24, t_26, t_30, t_31, t_48, t_64, t_72, t_76, t_92, t_101, t_252, t_444, t_512, t_900, t_1980, t_65521, t_99999, t_mil]) <;> omega) (by (try simp only [iw_add, iw_sub, iw_mul, t_m1, lt0, lt1, t_2, t_3, t_4, t_5, t_6, t_8, t_9, t_10, t_16, t_20, t_24, t_26, t_30, t_31, t_48, t_64, t_72, t_76, t_92, t_101, t_252, t_444, t_512, t_900, t_1980, t_65521, t_99999, t_mil]) <;> omega) (by (try simp only [iw_add, iw_sub, iw_mul, t_m1, lt0, lt1, t_2, t_3, t_4, t_5, t_6, t_8, t_9, t_10, t_16, t_20, t_24, t_26, t_30, t_31, t_48, t_64, t_72, t_76, t_92, t_101, t_252, t_444, t_512, t_900, t_1980, t_65521, t_99999, t_mil]) <;> omega))
    refine ws_g (by decide) (by decide) ?_
    rw [c0]
    refine ws_le (fun _ => ws_s trivial) (fun _ => ?_)
    refine ws_b (s_trust hC a1 0 h0 h1 (by decide) (by decide)) (fun r hr => ws_b (s_trust hC a1 1 h0 h1 (by decide) (by decide)) (fun r1 _ => ?_))
    refine ws_b (s_isHead n hn hC v r r1 g0 (by omega) (hr rfl).1) (fun _ _ => ws_i (fun _ => hJ (by omega)) (fun _ => ?_))
    refine ws_b (s_trust hC a2 0 h2 h3 (by decide) (by decide)) (fun s hs => ws_b (s_trust hC a2 1 h2 h3 (by decide) (by decide)) (fun s1 _ => ?_))
    exact ws_b (s_isHead n hn hC v s s1 g0 (by omega) (hs rfl).1) (fun _ _ => ws_i (fun _ => hJ (by omega)) (fun _ => ws_s trivial))
theorem s_isAgreed (n : Nat) (hn : 70000 ≤ n) {σ : ms_T} (hC : rC (ms_E σ 40)) (a1 a2 : Int32) (h0 : 0 ≤ a1.toInt) (h1 : a1.toInt ≤ 3) (h2 : 0 ≤ a2.toInt) (h3 : a2.toInt ≤ 3) : ws (f_X12_isAgreed n σ a1 a2) (fun _ => True) := by
  unfold f_X12_isAgreed
  exact s_isAgreed_L n hn hC a1 a2 h0 h1 h2 h3 n 0 (by decide) (by decide) (by rw [lt0]; omega)
theorem s_isTyped_L (n : Nat) {σ : ms_T} (hR : RI σ) (q : Int32) (h0 : 0 ≤ q.toInt) (h1 : q.toInt ≤ 191) : ∀ (k : Nat) (v : Int32), 0 ≤ v.toInt → v.toInt ≤ 8 → 9 - v.toInt ≤ (k : Int) → ws (f_X12_isTyped_L21 n σ k q v) (fun _ => True) := by
  intro k
  induction k with
  | zero => intro v g0 g1 g2; omega
  | succ k ih =>
    intro v g0 g1 g2
    rw [f_X12_isTyped_L21.eq_2]
    have h8 := hR.1.1
    refine ws_le (fun _ => ws_s trivial) (fun _ => ws_g (by (try simp only [iw_add, iw_sub, iw_mul, t_m1, lt0, lt1, t_2, t_3, t_4, t_5, t_6, t_8, t_9, t_10, t_16, t_20, t_24, t_26, t_30, t_31, t_48, t_64, t_72, t_76, t_92, t_101, t_252, t_444, t_512, t_900, t_1980, t_65521, t_99999, t_mil]) <;> omega) (by (try simp only [iw_add, iw_sub, iw_mul, t_m1, lt0, lt1, t_2, t_3, t_4, t_5, t_6, t_8, t_9, t_10, t_16, t_20, t_24, t_26, t_30, t_31, t_48, t_64, t_72, t_76, t_92, t_101, t_252, t_444, t_512, t_900, t_1980, t_65521, t_99999, t_mil]) <;> omega) (ws_g (by omega) (by omega) (ws_i (fun _ => ws_l ?_) (fun _ => ws_s trivial))))
    exact ih (v + 1) (by (try simp only [iw_add, iw_sub, iw_mul, t_m1, lt0, lt1, t_2, t_3, t_4, t_5, t_6, t_8, t_9, t_10, t_16, t_20, t_24, t_26, t_30, t_31, t_48, t_64, t_72, t_76, t_92, t_101, t_252, t_444, t_512, t_900, t_1980, t_65521, t_99999, t_mil]) <;> omega) (by (try simp only [iw_add, iw_sub, iw_mul, t_m1, lt0, lt1, t_2, t_3, t_4, t_5, t_6, t_8, t_9, t_10, t_16, t_20, t_24, t_26, t_30, t_31, t_48, t_64, t_72, t_76, t_92, t_101, t_252, t_444, t_512, t_900, t_1980, t_65521, t_99999, t_mil]) <;> omega) (by (try simp only [iw_add, iw_sub, iw_mul, t_m1, lt0, lt1, t_2, t_3, t_4, t_5, t_6, t_8, t_9, t_10, t_16, t_20, t_24, t_26, t_30, t_31, t_48, t_64, t_72, t_76, t_92, t_101, t_252, t_444, t_512, t_900, t_1980, t_65521, t_99999, t_mil]) <;> omega)
theorem s_isTyped (n : Nat) (hn : 70000 ≤ n) {σ : ms_T} (hR : RI σ) (q : Int32) (h0 : 0 ≤ q.toInt) (h1 : q.toInt ≤ 191) : ws (f_X12_isTyped n σ q) (fun _ => True) := by
  unfold f_X12_isTyped
  exact ws_g (by (try simp only [iw_add, iw_sub, iw_mul, t_m1, lt0, lt1, t_2, t_3, t_4, t_5, t_6, t_8, t_9, t_10, t_16, t_20, t_24, t_26, t_30, t_31, t_48, t_64, t_72, t_76, t_92, t_101, t_252, t_444, t_512, t_900, t_1980, t_65521, t_99999, t_mil]) <;> omega) (by (try simp only [iw_add, iw_sub, iw_mul, t_m1, lt0, lt1, t_2, t_3, t_4, t_5, t_6, t_8, t_9, t_10, t_16, t_20, t_24, t_26, t_30, t_31, t_48, t_64, t_72, t_76, t_92, t_101, t_252, t_444, t_512, t_900, t_1980, t_65521, t_99999, t_mil]) <;> omega) (ws_i (fun _ => s_isTyped_L n hR q h0 h1 n 0 (by decide) (by decide) (by rw [lt0]; omega)) (fun _ => ws_s trivial))
