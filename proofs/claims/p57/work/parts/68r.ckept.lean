/-! ===== kept of the class: the two ways lie apart ===== -/
def wap (α : hp_T) (x : Nat) : Prop := hp_R α 612 x = x + 931 ∧ hp_R α 613 x = x + 935 ∧ hp_R α 450 (x + 931) = x + 932 ∧ hp_R α 451 (x + 931) = x + 933 ∧ hp_R α 452 (x + 931) = x + 934 ∧ hp_R α 450 (x + 935) = x + 936 ∧ hp_R α 451 (x + 935) = x + 937 ∧ hp_R α 452 (x + 935) = x + 938
theorem k_firstAt (n : Nat) (α : hp_T) (a : Nat) (l : List (Nat × Nat × Bool)) (hW : WC α a l) (hl : l.length ≤ 64) (v : Nat) (vI : Int32) (h1 : vI.toInt = (v : Int)) (hv : v < l.length) : ws (f_X8_firstAt n α a vI) (fun r => r.toInt = (l[v].1 : Int)) := by
  have L64 := t_64
  have h9 := hW.1
  have hq := hW.2 _ _ (List.getElem?_eq_getElem hv)
  have hc : vI.toNatClampNeg = v := cl_n h1
  unfold f_X8_firstAt
  refine ws_lt (fun e => by rw [lt0] at e; omega) (fun _ => ws_l (ws_le (fun e => by omega) (fun _ => ws_l (ws_le (fun e => by omega) (fun _ => ws_l (ws_g (by omega) (by omega) (ws_s ?_)))))))
  rw [hc]
  exact hq.1
theorem k_manyAt (n : Nat) (α : hp_T) (a : Nat) (l : List (Nat × Nat × Bool)) (hW : WC α a l) (hl : l.length ≤ 64) (v : Nat) (vI : Int32) (h1 : vI.toInt = (v : Int)) (hv : v < l.length) : ws (f_X8_manyAt n α a vI) (fun r => r.toInt = (l[v].2.1 : Int)) := by
  have L64 := t_64
  have h9 := hW.1
  have hq := hW.2 _ _ (List.getElem?_eq_getElem hv)
  have hc : vI.toNatClampNeg = v := cl_n h1
  unfold f_X8_manyAt
  refine ws_lt (fun e => by rw [lt0] at e; omega) (fun _ => ws_l (ws_le (fun e => by omega) (fun _ => ws_l (ws_le (fun e => by omega) (fun _ => ws_l (ws_g (by omega) (by omega) (ws_s ?_)))))))
  rw [hc]
  exact hq.2.1
theorem k_shared_L15 (n : Nat) (α : hp_T) (a b : Nat) (w1 w2 : List (Nat × Nat × Bool)) (hW1 : WC α a w1) (hW2 : WC α b w2) (hl1 : w1.length ≤ 64) (hl2 : w2.length ≤ 64) (P : Int32 → Prop) (rec4 : Nat → Int32 → Int32 → Option Int32) (k : Nat) (hk : k < w1.length) (kI : Int32) (hkI : kI.toInt = (k : Int)) : ∀ (d j N : Nat) (uI jI : Int32), jI.toInt = (j : Int) → j ≤ w2.length → 65 - j ≤ d → uI.toInt = (N : Int) → N + w2.length ≤ 100000 + j → (∀ u kk : Int32, u.toInt = ((N + (w2.drop j).countP (e2 w1[k]) : Nat) : Int) → kk.toInt = (k : Int) + 1 → ws (rec4 b u kk) P) → ws (f_X8_countShared_L15 n α a rec4 d b uI kI jI) P := by
  intro d
  induction d with
  | zero => intro j N uI jI h1 h2 h3; omega
  | succ d ih =>
    intro j N uI jI h1 h2 h3 h4 h5 hr
    rw [f_X8_countShared_L15.eq_2]
    refine ws_l (ws_le (fun hc => ws_l (hr _ _ ?_ ?_)) (fun hc => ?_))
    · rw [hW2.1] at hc
      rw [List.drop_eq_nil_of_le (by omega)]
      exact h4
    · rw [ii_add (by rw [lt1]; omega) (by rw [lt1]; omega), hkI, lt1]
    · rw [hW2.1] at hc
      have hj : j < w2.length := by omega
      have hn : (jI + 1).toInt = ((j + 1 : Nat) : Int) := by rw [ii_add (by rw [lt1]; omega) (by rw [lt1]; omega), h1, lt1]; omega
      have hd : (w2.drop j).countP (e2 w1[k]) = (w2.drop (j + 1)).countP (e2 w1[k]) + if e2 w1[k] w2[j] then 1 else 0 := by
        rw [List.drop_eq_getElem_cons hj, List.countP_cons]
      unfold f_X8_countShared_J55
      have hno : e2 w1[k] w2[j] = false → ws (ms_l (jI + 1) fun x11 => f_X8_countShared_L15 n α a rec4 d b uI kI x11) P := by
        intro he
        rw [he, if_neg (by decide), Nat.add_zero] at hd
        exact ws_l (ih (j + 1) N uI _ hn (by omega) (by omega) h4 (by omega) (fun u kk hu hkk => hr u kk (by rw [hd]; exact hu) hkk))
      have he2 : ∀ c : Bool, e2 w1[k] w2[j] = c ↔ (c = true ↔ (w1[k].1 = w2[j].1 ∧ w1[k].2.1 = w2[j].2.1)) := by
        intro c
        rw [← e2_iff]
        cases c <;> cases e2 w1[k] w2[j] <;> simp
      refine ws_b (k_firstAt n α a w1 hW1 hl1 k kI hkI hk) (fun r1 hr1 => ws_b (k_firstAt n α b w2 hW2 hl2 j jI h1 hj) (fun r2 hr2 => ws_e (fun e1 => ?_) (fun e1 => ?_)))
      · have q1 : w1[k].1 = w2[j].1 := by rw [e1, hr2] at hr1; omega
        refine ws_b (k_manyAt n α a w1 hW1 hl1 k kI hkI hk) (fun r3 hr3 => ws_b (k_manyAt n α b w2 hW2 hl2 j jI h1 hj) (fun r4 hr4 => ws_e (fun e3 => ?_) (fun e3 => ?_)))
        · have q2 : w1[k].2.1 = w2[j].2.1 := by rw [e3, hr4] at hr3; omega
          have ht : e2 w1[k] w2[j] = true := e2_iff.mpr ⟨q1, q2⟩
          rw [ht, if_pos rfl] at hd
          refine ws_l (ws_l (ih (j + 1) (N + 1) _ _ hn (by omega) (by omega) (by rw [ii_add (by rw [lt1]; omega) (by rw [lt1]; omega), h4, lt1]; omega) (by omega) (fun u kk hu hkk => hr u kk (by rw [hd, hu]; omega) hkk)))
        · refine hno ((he2 false).mpr ⟨fun h => absurd h (by decide), fun h => ?_⟩)
          exact absurd (by rw [hr3, hr4]; omega) e3
      · refine hno ((he2 false).mpr ⟨fun h => absurd h (by decide), fun h => ?_⟩)
        exact absurd (by rw [hr1, hr2]; omega) e1
theorem cP_le {A : Type} (f : A → Bool) (l : List A) : l.countP f ≤ l.length := List.countP_le_length
theorem k_shared_L4 (n : Nat) (hn : 70000 ≤ n) (α : hp_T) (a b : Nat) (w1 w2 : List (Nat × Nat × Bool)) (hW1 : WC α a w1) (hW2 : WC α b w2) (hl1 : w1.length ≤ 64) (hl2 : w2.length ≤ 64) : ∀ (d k N : Nat) (uI kI : Int32), kI.toInt = (k : Int) → k ≤ w1.length → 65 - k ≤ d → uI.toInt = (N : Int) → N ≤ 64 * k → ws (f_X8_countShared_L4 n α a d b uI kI) (fun r => r.toInt = ((N + cA (w1.drop k) w2 : Nat) : Int)) := by
  intro d
  induction d with
  | zero => intro k N uI kI h1 h2 h3; omega
  | succ d ih =>
    intro k N uI kI h1 h2 h3 h4 h5
    rw [f_X8_countShared_L4.eq_2]
    refine ws_l (ws_le (fun hc => ws_s ?_) (fun hc => ?_))
    · rw [hW1.1] at hc
      rw [List.drop_eq_nil_of_le (by omega)]
      exact h4
    · rw [hW1.1] at hc
      have hk : k < w1.length := by omega
      refine k_shared_L15 n α a b w1 w2 hW1 hW2 hl1 hl2 _ _ k hk kI h1 n 0 N uI 0 rfl (Nat.zero_le _) (by omega) h4 (by omega) (fun u kk hu hkk => ?_)
      rw [List.drop_zero] at hu
      have hb := cP_le (e2 w1[k]) w2
      refine ws_m (ih (k + 1) (N + w2.countP (e2 w1[k])) u kk (by omega) (by omega) (by omega) hu (by omega)) (fun r hr => ?_)
      rw [hr, List.drop_eq_getElem_cons hk]
      unfold cA
      rw [List.map_cons, List.sum_cons]
      omega
theorem WC_wf {α β : hp_T} {a b : Nat} {l : List (Nat × Nat × Bool)} (h : WC α a l) (f : wf b α β) (hab : a ≠ b) (h1 : hp_R α 450 a ≠ hp_R α 450 b) (h2 : hp_R α 451 a ≠ hp_R α 451 b) (h3 : hp_R α 452 a ≠ hp_R α 452 b) : WC β a l := by
  obtain ⟨f1, -, -, -, f5, f6⟩ := f
  refine ⟨by rw [f5 453 a (fun q => hab q.1)]; exact h.1, fun k q hk => ?_⟩
  rw [f1, f6 21 _ _ (fun q => ?_), f6 22 _ _ (fun q => ?_), f6 23 _ _ (fun q => ?_)]
  · exact h.2 k q hk
  · rcases q with q | q | q
    · exact absurd q.1 (by decide)
    · exact absurd q.1 (by decide)
    · exact h3 q.2
  · rcases q with q | q | q
    · exact absurd q.1 (by decide)
    · exact h2 q.2
    · exact absurd q.1 (by decide)
  · rcases q with q | q | q
    · exact h1 q.2
    · exact absurd q.1 (by decide)
    · exact absurd q.1 (by decide)
theorem k_kept (n : Nat) (hn : 70000 ≤ n) (α : hp_T) (x : Nat) (hx : wap α x) (i m r : Int32) : ws (f_X11_kept n α x i m r) (fun res => res.1 = keA i m r) := by
  obtain ⟨x1, x2, x3, x4, x5, x6, x7, x8⟩ := hx
  have hJ : ¬ ((0 ≤ i.toInt ∧ i.toInt < m.toInt) ∧ m.toInt ≤ r.toInt) → ws (f_X11_kept_J13 n x α) (fun res => res.1 = keA i m r) := by
    intro h
    unfold f_X11_kept_J13 keA
    rw [if_neg h]
    exact ws_hc (k_refuse n α x 1) (fun r β hr => ws_s hr.1)
  have hlen : ∀ m : Nat, (wyT 31 i.toInt.toNat 0 m).reverse.length ≤ 64 := fun m => by rw [List.length_reverse]; exact Nat.le_trans (wyT_len _ _ _ _) (by decide)
  unfold f_X11_kept
  refine wk_bo (k_isThing n i m) (fun h => hJ (fun q => h q.1)) (fun h => ws_le (fun g => ?_) (fun g => hJ (by omega)))
  unfold keA
  rw [if_pos ⟨h, g⟩]
  refine ws_l (ws_b (k_toThing n hn α _ i m h.1 h.2) (fun β hβ => ws_l (ws_b (k_toThing n hn β _ i r h.1 (by omega)) (fun γ hγ => ws_l (ws_l ?_)))))
  have hR1 := hβ.2.1
  have hR2 := hγ.2.1
  have hW2 := hγ.1
  have hW1 := WC_wf hβ.1 hγ.2 (by rw [hR1, x1, x2]; omega) (by rw [hR1, x1, x2, x3, x6]; omega) (by rw [hR1, x1, x2, x4, x7]; omega) (by rw [hR1, x1, x2, x5, x8]; omega)
  rw [hR2, hR1]
  rw [hR1] at hW2
  refine ws_b (k_shared_L4 n hn γ _ _ _ _ hW1 hW2 (hlen _) (hlen _) n 0 0 0 0 rfl (Nat.zero_le _) (by omega) rfl (Nat.le_refl _)) (fun u hu => ws_hc (k_answer n γ x u) (fun v δ hv => ws_s ?_))
  rw [List.drop_zero, Nat.zero_add, cA_kA _ _ (wyT_pwr _ _ _ _ (by omega))] at hu
  rw [hv.1]
  exact i_ofN hu
theorem wap_0 (α : hp_T) (x : Nat) : wap (F_X11_init α (x + 1) x) x := by
  have e1 := fd_X11_612 α (x + 1) x (by omega)
  have e2 := fd_X11_613 α (x + 1) x (by omega)
  have t1 := tl_X11_30 α (x + 1) x (x + 1 + 930) (by omega) (by omega)
  have t2 := tl_X11_33 α (x + 1) x (x + 1 + 934) (by omega) (by omega)
  have f1 : ∀ φ, hp_R (F_X11_init α (x + 1) x) φ (x + 1 + 930) = hp_R (F_X8_init (F_X11_init_29 α (x + 1) x) (x + 1 + 931) (x + 1 + 930)) φ (x + 1 + 930) := fun φ => t1.2.2.2.1 φ
  have f2 : ∀ φ, hp_R (F_X11_init α (x + 1) x) φ (x + 1 + 934) = hp_R (F_X8_init (F_X11_init_32 α (x + 1) x) (x + 1 + 935) (x + 1 + 934)) φ (x + 1 + 934) := fun φ => t2.2.2.2.1 φ
  refine ⟨e1.trans (by omega), e2.trans (by omega), ?_, ?_, ?_, ?_, ?_, ?_⟩
  · rw [show x + 931 = x + 1 + 930 by omega, f1, fd_X8_450 _ _ _ (by omega)]
  · rw [show x + 931 = x + 1 + 930 by omega, f1, fd_X8_451 _ _ _ (by omega)]
  · rw [show x + 931 = x + 1 + 930 by omega, f1, fd_X8_452 _ _ _ (by omega)]
  · rw [show x + 935 = x + 1 + 934 by omega, f2, fd_X8_450 _ _ _ (by omega)]
  · rw [show x + 935 = x + 1 + 934 by omega, f2, fd_X8_451 _ _ _ (by omega)]
  · rw [show x + 935 = x + 1 + 934 by omega, f2, fd_X8_452 _ _ _ (by omega)]
theorem wap_k (α : hp_T) (x : Nat) : hp_K (F_X11_init α (x + 1) x) (x + 931) = 9 ∧ hp_K (F_X11_init α (x + 1) x) (x + 935) = 9 := by
  have t1 := tl_X11_30 α (x + 1) x (x + 1 + 930) (by omega) (by omega)
  have t2 := tl_X11_33 α (x + 1) x (x + 1 + 934) (by omega) (by omega)
  rw [show x + 931 = x + 1 + 930 by omega, show x + 935 = x + 1 + 934 by omega]
  exact ⟨t1.1.trans (kd_X8 (F_X11_init_29 α (x + 1) x) (x + 1 + 931) (x + 1 + 930)), t2.1.trans (kd_X8 (F_X11_init_32 α (x + 1) x) (x + 1 + 935) (x + 1 + 934))⟩
