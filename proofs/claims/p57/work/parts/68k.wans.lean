/-! ===== steps, climbs, span, rise, longest: what they answer ===== -/
theorem pr_w {R : Type} {o : Option R} {P : R → Prop} (h : ws o P) : pr o P := by
  obtain ⟨r, e, p⟩ := h
  intro r' e'
  rw [e] at e'
  cases e'
  exact p
theorem k_isThing (n : Nat) (i m : Int32) : ws (f_X11_isThing n i m) (fun r => bo r (0 ≤ i.toInt ∧ i.toInt < m.toInt)) := by
  unfold f_X11_isThing
  exact ws_lt (fun h => ws_s (Or.inr ⟨rfl, by rw [lt0] at h; omega⟩)) (fun h => ws_le (fun g => ws_s (Or.inr ⟨rfl, by omega⟩)) (fun g => ws_s (Or.inl ⟨rfl, by rw [lt0] at h; omega⟩)))
theorem k_answer (n : Nat) (α : hp_T) (a : Nat) (v : Int32) : ws (f_X11_answer n α a v) (fun res => res.1 = v ∧ res.2 = hp_sI α 600 a 0) := by
  unfold f_X11_answer
  exact ws_l (ws_s ⟨rfl, rfl⟩)
theorem k_refuse (n : Nat) (α : hp_T) (a : Nat) (v : Int32) : ws (f_X11_refuse n α a v) (fun res => res.1 = -1 ∧ res.2 = hp_sI α 600 a v) := by
  unfold f_X11_refuse
  exact ws_l (ws_s ⟨rfl, rfl⟩)
theorem v_is (n : Nat) (σ : ms_T) (w : Int32) : pr (f_X12_is n σ w) (fun res => bo res.1 (w = 0)) := by
  unfold f_X12_is
  exact pr_l (pr_l (pr_i (fun h => pr_s (Or.inl ⟨rfl, h⟩)) (fun h => pr_s (Or.inr ⟨rfl, h⟩))))
theorem v_refuse (n : Nat) (σ : ms_T) (w : Int32) : pr (f_X12_refuse n σ w) (fun res => res.1 = -1) := by
  unfold f_X12_refuse
  exact pr_l (pr_s rfl)
theorem v_isThing (n : Nat) (σ : ms_T) (i m : Int32) : pr (f_X12_isThing n σ i m) (fun r => bo r (0 ≤ i.toInt ∧ i.toInt < m.toInt)) := by
  unfold f_X12_isThing
  exact pr_lt (fun h => pr_s (Or.inr ⟨rfl, by rw [lt0] at h; omega⟩)) (fun h => pr_le (fun g => pr_s (Or.inr ⟨rfl, by omega⟩)) (fun g => pr_s (Or.inl ⟨rfl, by rw [lt0] at h; omega⟩)))
theorem v_isIn (n : Nat) (a b c : Int32) : pr (f_X12_isIn n a b c) (fun r => bo r (b.toInt ≤ a.toInt ∧ a.toInt ≤ c.toInt)) := pr_w (s_isIn n a b c)
section BO
variable {R : Type} {P : Prop} {Q : R → Prop} {a b : Option R}
theorem wk_bo {x : Option Int32} (h : ws x (fun r => bo r P)) (h0 : ¬ P → ws a Q) (h1 : P → ws b Q) : ws (ms_b x fun r => if r = 0 then a else b) Q :=
  ws_b h (fun r hr => ws_e (fun e => h0 (bo_0 hr e)) (fun e => h1 (bo_1 hr e)))
theorem pr_bo {x : Option Int32} (h : pr x (fun r => bo r P)) (h0 : ¬ P → pr a Q) (h1 : P → pr b Q) : pr (ms_b x fun r => if r = 0 then a else b) Q :=
  pr_b h (fun r hr => pr_e (fun e => h0 (bo_0 hr e)) (fun e => h1 (bo_1 hr e)))
end BO
def stA (i m : Int32) : Int32 := if 0 ≤ i.toInt ∧ i.toInt < m.toInt then Int32.ofNat (wyT 31 i.toInt.toNat 0 m.toInt.toNat).length else -1
def clA (i m : Int32) : Int32 := if 0 ≤ i.toInt ∧ i.toInt ≤ m.toInt then Int32.ofNat (wyH i.toInt.toNat m.toInt.toNat).length else -1
theorem WC_n {α : hp_T} {a : Nat} {l : List (Nat × Nat × Bool)} (h : WC α a l.reverse) : hp_I α 453 a = Int32.ofNat l.length := i_ofN (by rw [h.1, List.length_reverse])
theorem WS_n {σ : ms_T} {l : List (Nat × Nat × Bool)} (h : WS σ l.reverse) : ms_I σ 657 = Int32.ofNat l.length := i_ofN (by rw [h.1, List.length_reverse])
theorem k_steps (n : Nat) (hn : 70000 ≤ n) (α : hp_T) (a : Nat) (i m : Int32) : ws (f_X11_steps n α a i m) (fun res => res.1 = stA i m) := by
  unfold f_X11_steps stA
  refine wk_bo (k_isThing n i m) (fun h => ?_) (fun h => ?_)
  · rw [if_neg h]
    exact ws_hc (k_refuse n α a 1) (fun r β hr => ws_s hr.1)
  · rw [if_pos h]
    refine ws_l (ws_b (k_toThing n hn α _ i m h.1 h.2) (fun β hβ => ws_l (ws_l (ws_hc (k_answer n β a _) (fun r γ hr => ws_s ?_)))))
    rw [hr.1, hβ.2.1, WC_n hβ.1]
theorem v_steps (n : Nat) (σ : ms_T) (i m : Int32) : pr (f_X12_steps n σ i m) (fun res => res.1 = stA i m) := by
  unfold f_X12_steps f_X12_steps_J15 stA
  refine pr_bo (v_isThing n σ i m) (fun h => ?_) (fun h => ?_)
  · rw [if_neg h]
    exact pr_c (v_is n σ 1) (fun r τ hr => pr_e (fun _ => pr_s rfl) (fun e => absurd (bo_1 hr e) (by decide)))
  · rw [if_pos h]
    refine pr_c (v_is n σ 0) (fun r τ hr => pr_e (fun e => absurd rfl (bo_0 hr e)) (fun e => ?_))
    exact pr_b (v_inclusion n τ i m h.1 h.2) (fun υ hυ => pr_s (WS_n hυ))
theorem k_climbs (n : Nat) (hn : 70000 ≤ n) (α : hp_T) (a : Nat) (i m : Int32) : ws (f_X11_climbs n α a i m) (fun res => res.1 = clA i m) := by
  have hJ : ¬ (0 ≤ i.toInt ∧ i.toInt ≤ m.toInt) → ws (f_X11_climbs_J9 n a α) (fun res => res.1 = clA i m) := by
    intro h
    unfold f_X11_climbs_J9 clA
    rw [if_neg h]
    exact ws_hc (k_refuse n α a 1) (fun r β hr => ws_s hr.1)
  unfold f_X11_climbs
  refine ws_lt (fun h => hJ (by rw [lt0] at h; omega)) (fun h => ws_le (fun g => ?_) (fun g => hJ (by omega)))
  rw [lt0] at h
  unfold clA
  rw [if_pos ⟨h, g⟩]
  refine ws_l (ws_b (k_toGrowth n hn α _ i m h g) (fun β hβ => ws_l (ws_l (ws_hc (k_answer n β a _) (fun r γ hr => ws_s ?_)))))
  rw [hr.1, hβ.2.1, WC_n hβ.1]
theorem v_climbs (n : Nat) (σ : ms_T) (i m : Int32) : pr (f_X12_climbs n σ i m) (fun res => res.1 = clA i m) := by
  have hJ : ¬ (0 ≤ i.toInt ∧ i.toInt ≤ m.toInt) → pr (f_X12_climbs_J14 n σ i m) (fun res => res.1 = clA i m) := by
    intro h
    unfold f_X12_climbs_J14 f_X12_climbs_J15 clA
    rw [if_neg h]
    exact pr_c (v_is n σ 1) (fun r τ hr => pr_e (fun _ => pr_s rfl) (fun e => absurd (bo_1 hr e) (by decide)))
  unfold f_X12_climbs
  refine pr_lt (fun h => hJ (by rw [lt0] at h; omega)) (fun h => pr_lt (fun g => hJ (by omega)) (fun g => ?_))
  rw [lt0] at h
  unfold f_X12_climbs_J15 clA
  rw [if_pos ⟨h, g⟩]
  refine pr_c (v_is n σ 0) (fun r τ hr => pr_e (fun e => absurd rfl (bo_0 hr e)) (fun e => ?_))
  exact pr_b (v_growth n τ i m h g) (fun υ hυ => pr_s (WS_n hυ))
def waA (l : List (Nat × Nat × Bool)) (k w : Int32) : Int32 := match l[k.toInt.toNat]? with
  | none => -1
  | some q => Int32.ofNat (if w = 0 then q.1 else q.2.1)
theorem waA_0 {l : List (Nat × Nat × Bool)} {k w : Int32} (h : (l.length : Int) ≤ k.toInt) : waA l k w = -1 := by
  unfold waA
  rw [List.getElem?_eq_none (by omega)]
theorem waA_1 {l : List (Nat × Nat × Bool)} {k w : Int32} {q : Nat × Nat × Bool} (h : l[k.toInt.toNat]? = some q) : waA l k w = Int32.ofNat (if w = 0 then q.1 else q.2.1) := by
  unfold waA
  rw [h]
theorem k_treeOfWay (n : Nat) (α : hp_T) (a : Nat) (l : List (Nat × Nat × Bool)) (hW : WC α (hp_R α 612 a) l) (hl : l.length ≤ 64) (k w : Int32) (hk : 0 ≤ k.toInt) : ws (f_X11_treeOfWay n α a k w) (fun res => res.1 = waA l k w) := by
  have L64 := t_64
  have hJ : ∀ v, ws (f_X11_treeOfWay_J41 n a α v a) (fun res => res.1 = v) := fun v => by
    unfold f_X11_treeOfWay_J41
    exact ws_hc (k_answer n α a v) (fun r β hr => ws_s hr.1)
  unfold f_X11_treeOfWay
  refine ws_l (ws_l (ws_lt (fun h => ?_) (fun h => ?_)))
  · have h9 := hW.1
    have hk2 : k.toInt.toNat < l.length := by omega
    have hq := hW.2 _ _ (List.getElem?_eq_getElem hk2)
    have hc : k.toNatClampNeg = k.toInt.toNat := cl_n (by omega)
    rw [waA_1 (List.getElem?_eq_getElem hk2)]
    refine ws_i (fun hw => ?_) (fun hw => ?_)
    · rw [if_pos hw]
      refine ws_l (ws_b (S := fun r => r = Int32.ofNat l[k.toInt.toNat].1) ?_ (fun r hr => by subst hr; exact hJ _))
      unfold f_X8_firstAt
      refine ws_lt (fun e => by rw [lt0] at e; omega) (fun _ => ws_l (ws_le (fun e => by omega) (fun _ => ws_l (ws_le (fun e => by omega) (fun _ => ws_l (ws_g hk (by omega) (ws_s ?_)))))))
      rw [hc]
      exact i_ofN hq.1
    · rw [if_neg hw]
      refine ws_l (ws_b (S := fun r => r = Int32.ofNat l[k.toInt.toNat].2.1) ?_ (fun r hr => by subst hr; exact hJ _))
      unfold f_X8_manyAt
      refine ws_lt (fun e => by rw [lt0] at e; omega) (fun _ => ws_l (ws_le (fun e => by omega) (fun _ => ws_l (ws_le (fun e => by omega) (fun _ => ws_l (ws_g hk (by omega) (ws_s ?_)))))))
      rw [hc]
      exact i_ofN hq.2.1
  · rw [hW.1] at h
    rw [waA_0 h]
    exact ws_hc (k_refuse n α a 5) (fun r β hr => ws_s hr.1)
theorem v_wayAt (n : Nat) (σ : ms_T) (l : List (Nat × Nat × Bool)) (hW : WS σ l) (k w : Int32) (hk : 0 ≤ k.toInt) : pr (f_X12_wayAt n σ k w) (fun res => res.1 = waA l k w) := by
  unfold f_X12_wayAt
  refine pr_lt (fun h => ?_) (fun h => ?_)
  · rw [hW.1] at h
    have hk2 : k.toInt.toNat < l.length := by omega
    have hq := hW.2 _ _ (List.getElem?_eq_getElem hk2)
    have hc : k.toNatClampNeg = k.toInt.toNat := cl_n (by omega)
    unfold waA
    rw [List.getElem?_eq_getElem hk2, hc]
    refine pr_i (fun hw => pr_g (fun _ _ => pr_s ?_)) (fun hw => pr_g (fun _ _ => pr_s ?_))
    · show _ = Int32.ofNat (if w = 0 then _ else _)
      rw [if_pos hw]
      exact i_ofN hq.1
    · show _ = Int32.ofNat (if w = 0 then _ else _)
      rw [if_neg hw]
      exact i_ofN hq.2
  · rw [hW.1] at h
    rw [waA_0 h]
    exact pr_c (v_refuse n σ 5) (fun r τ hr => pr_s hr)
def spA (i m k w : Int32) : Int32 := if (0 ≤ i.toInt ∧ i.toInt < m.toInt) ∧ 0 ≤ k.toInt ∧ (0 ≤ w.toInt ∧ w.toInt ≤ 1) then waA (wyT 31 i.toInt.toNat 0 m.toInt.toNat).reverse k w else -1
def riA (i m k w : Int32) : Int32 := if (0 ≤ i.toInt ∧ i.toInt ≤ m.toInt) ∧ 0 ≤ k.toInt ∧ (0 ≤ w.toInt ∧ w.toInt ≤ 1) then waA (wyH i.toInt.toNat m.toInt.toNat).reverse k w else -1
theorem wyH_len (i m : Nat) : (wyH i m).length ≤ 32 := by
  unfold wyH
  split
  · exact Nat.zero_le _
  · exact wyG_len _ _ _ _ _
theorem k_span (n : Nat) (hn : 70000 ≤ n) (α : hp_T) (a : Nat) (i m k w : Int32) : ws (f_X11_span n α a i m k w) (fun res => res.1 = spA i m k w) := by
  have hJ : ¬ ((0 ≤ i.toInt ∧ i.toInt < m.toInt) ∧ 0 ≤ k.toInt ∧ (0 ≤ w.toInt ∧ w.toInt ≤ 1)) → ws (f_X11_span_J23 n a α) (fun res => res.1 = spA i m k w) := by
    intro h
    unfold f_X11_span_J23 spA
    rw [if_neg h]
    exact ws_hc (k_refuse n α a 1) (fun r β hr => ws_s hr.1)
  unfold f_X11_span
  refine wk_bo (k_isThing n i m) (fun h => hJ (fun q => h q.1)) (fun h => ws_lt (fun g => hJ (by rw [lt0] at g; omega)) (fun g => ws_lt (fun g2 => hJ (by rw [lt0] at g2; omega)) (fun g2 => ws_le (fun g3 => ?_) (fun g3 => hJ (by rw [lt1] at g3; omega)))))
  rw [lt0] at g g2
  rw [lt1] at g3
  unfold spA
  rw [if_pos ⟨h, g, g2, g3⟩]
  refine ws_l (ws_b (k_toThing n hn α _ i m h.1 h.2) (fun β hβ => ws_hc (k_treeOfWay n β a _ (by rw [hβ.2.1]; exact hβ.1) ?_ k w g) (fun r γ hr => ws_s hr)))
  rw [List.length_reverse]
  exact Nat.le_trans (wyT_len _ _ _ _) (by decide)
theorem v_span (n : Nat) (σ : ms_T) (i m k w : Int32) : pr (f_X12_span n σ i m k w) (fun res => res.1 = spA i m k w) := by
  have hJ : ¬ ((0 ≤ i.toInt ∧ i.toInt < m.toInt) ∧ 0 ≤ k.toInt ∧ (0 ≤ w.toInt ∧ w.toInt ≤ 1)) → pr (f_X12_span_J28 n σ i m k w) (fun res => res.1 = spA i m k w) := by
    intro h
    unfold f_X12_span_J28 f_X12_span_J29 spA
    rw [if_neg h]
    exact pr_c (v_is n σ 1) (fun r τ hr => pr_e (fun _ => pr_s rfl) (fun e => absurd (bo_1 hr e) (by decide)))
  unfold f_X12_span
  refine pr_bo (v_isThing n σ i m) (fun h => hJ (fun q => h q.1)) (fun h => pr_lt (fun g => hJ (by rw [lt0] at g; omega)) (fun g => pr_bo (v_isIn n w 0 1) (fun g2 => hJ (fun q => g2 (by rw [lt0, lt1]; exact q.2.2))) (fun g2 => ?_)))
  rw [lt0] at g
  rw [lt0, lt1] at g2
  unfold f_X12_span_J29 spA
  rw [if_pos ⟨h, g, g2⟩]
  refine pr_c (v_is n σ 0) (fun r τ hr => pr_e (fun e => absurd rfl (bo_0 hr e)) (fun e => ?_))
  exact pr_b (v_inclusion n τ i m h.1 h.2) (fun υ hυ => pr_c (v_wayAt n υ _ hυ k w g) (fun r2 τ2 hr2 => pr_s hr2))
theorem k_rise (n : Nat) (hn : 70000 ≤ n) (α : hp_T) (a : Nat) (i m k w : Int32) : ws (f_X11_rise n α a i m k w) (fun res => res.1 = riA i m k w) := by
  have hJ : ¬ ((0 ≤ i.toInt ∧ i.toInt ≤ m.toInt) ∧ 0 ≤ k.toInt ∧ (0 ≤ w.toInt ∧ w.toInt ≤ 1)) → ws (f_X11_rise_J24 n a α) (fun res => res.1 = riA i m k w) := by
    intro h
    unfold f_X11_rise_J24 riA
    rw [if_neg h]
    exact ws_hc (k_refuse n α a 1) (fun r β hr => ws_s hr.1)
  unfold f_X11_rise
  refine ws_lt (fun h => hJ (by rw [lt0] at h; omega)) (fun h => ws_lt (fun h2 => hJ (by omega)) (fun h2 => ws_lt (fun g => hJ (by rw [lt0] at g; omega)) (fun g => ws_lt (fun g2 => hJ (by rw [lt0] at g2; omega)) (fun g2 => ws_le (fun g3 => ?_) (fun g3 => hJ (by rw [lt1] at g3; omega))))))
  rw [lt0] at h g g2
  rw [lt1] at g3
  unfold riA
  rw [if_pos ⟨⟨h, h2⟩, g, g2, g3⟩]
  refine ws_l (ws_b (k_toGrowth n hn α _ i m h h2) (fun β hβ => ws_hc (k_treeOfWay n β a _ (by rw [hβ.2.1]; exact hβ.1) ?_ k w g) (fun r γ hr => ws_s hr)))
  rw [List.length_reverse]
  exact Nat.le_trans (wyH_len _ _) (by decide)
theorem v_rise (n : Nat) (σ : ms_T) (i m k w : Int32) : pr (f_X12_rise n σ i m k w) (fun res => res.1 = riA i m k w) := by
  have hJ : ¬ ((0 ≤ i.toInt ∧ i.toInt ≤ m.toInt) ∧ 0 ≤ k.toInt ∧ (0 ≤ w.toInt ∧ w.toInt ≤ 1)) → pr (f_X12_rise_J28 n σ i m k w) (fun res => res.1 = riA i m k w) := by
    intro h
    unfold f_X12_rise_J28 f_X12_rise_J29 riA
    rw [if_neg h]
    exact pr_c (v_is n σ 1) (fun r τ hr => pr_e (fun _ => pr_s rfl) (fun e => absurd (bo_1 hr e) (by decide)))
  unfold f_X12_rise
  refine pr_lt (fun h => hJ (by rw [lt0] at h; omega)) (fun h => pr_lt (fun h2 => hJ (by omega)) (fun h2 => pr_lt (fun g => hJ (by rw [lt0] at g; omega)) (fun g => pr_bo (v_isIn n w 0 1) (fun g2 => hJ (fun q => g2 (by rw [lt0, lt1]; exact q.2.2))) (fun g2 => ?_))))
  rw [lt0] at h g
  rw [lt0, lt1] at g2
  unfold f_X12_rise_J29 riA
  rw [if_pos ⟨⟨h, h2⟩, g, g2⟩]
  refine pr_c (v_is n σ 0) (fun r τ hr => pr_e (fun e => absurd rfl (bo_0 hr e)) (fun e => ?_))
  exact pr_b (v_growth n τ i m h h2) (fun υ hυ => pr_c (v_wayAt n υ _ hυ k w g) (fun r2 τ2 hr2 => pr_s hr2))
/-! longest -/
def lgC (N : Int32) (i : Int32) : Int32 := Int32.ofNat (wyT 31 i.toInt.toNat 0 N.toInt.toNat).length
def lgS (N w : Int32) : Nat → Int32 → Int32 → Int32 → Int32 → Int32
  | 0, p, f, s, _ => if w = 0 then p else if w = 1 then f else s
  | k + 1, p, f, s, i => lgS N w k (if lgC N i ≤ p then p else lgC N i) (if lgC N i ≤ p then f else i) (s + lgC N i) (i + 1)
def lgA (N w : Int32) : Int32 := if (1 ≤ N.toInt ∧ N.toInt ≤ 512) ∧ (0 ≤ w.toInt ∧ w.toInt ≤ 2) then lgS N w N.toInt.toNat 0 0 0 0 else -1
theorem k_longest_L (n : Nat) (hn : 70000 ≤ n) (a : Nat) (N w : Int32) (hN : N.toInt ≤ 512) : ∀ (k : Nat) (α : hp_T) (p f s i : Int32), 0 ≤ i.toInt → i.toInt ≤ N.toInt → N.toInt + 1 - i.toInt ≤ (k : Int) → ws (f_X11_longest_L38 n a k α N w p f s i) (fun res => res.1 = lgS N w (N.toInt - i.toInt).toNat p f s i) := by
  intro k
  induction k with
  | zero => intro α p f s i h0 h1 h2; omega
  | succ k ih =>
    intro α p f s i h0 h1 h2
    rw [f_X11_longest_L38.eq_2]
    refine ws_le (fun h => ?_) (fun h => ?_)
    · rw [show (N.toInt - i.toInt).toNat = 0 by omega, lgS]
      have hJ : ∀ v, ws (f_X11_longest_J118 n a α v a) (fun res => res.1 = v) := fun v => by
        unfold f_X11_longest_J118
        exact ws_hc (k_answer n α a v) (fun r β hr => ws_s hr.1)
      refine ws_i (fun e => ?_) (fun e => ws_i (fun e2 => ?_) (fun e2 => ?_))
      · rw [if_pos e]; exact ws_hc (k_answer n α a p) (fun r β hr => ws_s hr.1)
      · rw [if_neg e, if_pos e2]; exact hJ f
      · rw [if_neg e, if_neg e2]; exact hJ s
    · have hi1 : (i + 1).toInt = i.toInt + 1 := by rw [ii_add (by rw [lt1]; omega) (by rw [lt1]; omega), lt1]
      rw [show (N.toInt - i.toInt).toNat = (N.toInt - (i + 1).toInt).toNat + 1 by omega, lgS]
      refine ws_l (ws_b (k_toThing n hn α _ i N h0 h) (fun β hβ => ws_l (ws_l (ws_l (ws_l (ws_l ?_))))))
      have hc : hp_I β 453 (hp_R β 612 a) = lgC N i := by rw [hβ.2.1]; exact WC_n hβ.1
      rw [hc]
      unfold f_X11_longest_J89
      refine ws_i (fun e => ?_) (fun e => ?_)
      · rw [if_pos e, if_pos e]
        exact ws_l (ih β _ _ _ (i + 1) (by omega) (by omega) (by omega))
      · rw [if_neg e, if_neg e]
        refine ws_l (ws_l ?_)
        rw [hc]
        exact ws_l (ih β _ _ _ (i + 1) (by omega) (by omega) (by omega))
theorem k_longest (n : Nat) (hn : 70000 ≤ n) (α : hp_T) (a : Nat) (N w : Int32) : ws (f_X11_longest n α a N w) (fun res => res.1 = lgA N w) := by
  have L2 := t_2
  have L512 := t_512
  have hJ : ¬ ((1 ≤ N.toInt ∧ N.toInt ≤ 512) ∧ (0 ≤ w.toInt ∧ w.toInt ≤ 2)) → ws (f_X11_longest_J21 n a α) (fun res => res.1 = lgA N w) := by
    intro h
    unfold f_X11_longest_J21 lgA
    rw [if_neg h]
    exact ws_hc (k_refuse n α a 1) (fun r β hr => ws_s hr.1)
  unfold f_X11_longest
  refine ws_lt (fun h => hJ (by rw [lt1] at h; omega)) (fun h => ws_lt (fun h2 => hJ (by omega)) (fun h2 => ws_lt (fun g => hJ (by rw [lt0] at g; omega)) (fun g => ws_le (fun g2 => ?_) (fun g2 => hJ (by omega)))))
  rw [lt1] at h
  rw [lt0] at g
  unfold lgA
  rw [if_pos ⟨⟨h, by omega⟩, g, by omega⟩]
  have := k_longest_L n hn a N w (by omega) n α 0 0 0 0 (by decide) (by rw [lt0]; omega) (by rw [lt0]; omega)
  rw [lt0, show (N.toInt - 0).toNat = N.toInt.toNat by omega] at this
  exact this
theorem v_longest_L (n : Nat) (N w : Int32) (hN : N.toInt ≤ 512) : ∀ (k : Nat) (σ : ms_T) (p f s i : Int32), 0 ≤ i.toInt → i.toInt ≤ N.toInt → pr (f_X12_longest_L45 n k σ N w p f s i) (fun res => res.1 = lgS N w (N.toInt - i.toInt).toNat p f s i) := by
  intro k
  induction k with
  | zero => intro σ p f s i h0 h1; rw [f_X12_longest_L45.eq_1]; exact pr_0
  | succ k ih =>
    intro σ p f s i h0 h1
    rw [f_X12_longest_L45.eq_2]
    refine pr_le (fun h => ?_) (fun h => ?_)
    · rw [show (N.toInt - i.toInt).toNat = 0 by omega, lgS]
      refine pr_i (fun e => pr_s ?_) (fun e => pr_i (fun e2 => pr_s ?_) (fun e2 => pr_s ?_))
      · rw [if_pos e]
      · rw [if_neg e, if_pos e2]
      · rw [if_neg e, if_neg e2]
    · have hi1 : (i + 1).toInt = i.toInt + 1 := by rw [ii_add (by rw [lt1]; omega) (by rw [lt1]; omega), lt1]
      rw [show (N.toInt - i.toInt).toNat = (N.toInt - (i + 1).toInt).toNat + 1 by omega, lgS]
      refine pr_b (v_inclusion n σ i N h0 h) (fun τ hτ => ?_)
      have hc : ms_I τ 657 = lgC N i := WS_n hτ
      unfold f_X12_longest_J82 f_X12_longest_J100
      rw [hc]
      refine pr_l (pr_i (fun e => ?_) (fun e => ?_))
      · simp only [if_pos e]
        exact pr_l (ih τ _ _ _ (i + 1) (by omega) (by omega))
      · simp only [if_neg e]
        exact pr_l (ih τ _ _ _ (i + 1) (by omega) (by omega))
theorem lgS_0 (N w : Int32) (k : Nat) : lgS N w (k + 1) (-1) 0 0 0 = lgS N w (k + 1) 0 0 0 0 := by
  have hz : ∀ l : List (Nat × Nat × Bool), l.length ≤ 31 → (Int32.ofNat l.length).toInt = (l.length : Int) := fun l h => Int32.toInt_ofNat_of_lt (by omega)
  have hc : (lgC N 0).toInt = ((wyT 31 (0 : Int32).toInt.toNat 0 N.toInt.toNat).length : Int) := hz _ (wyT_len 31 (0 : Int32).toInt.toNat 0 N.toInt.toNat)
  have h00 := lt0
  rw [lgS, lgS]
  have e1 : ¬ lgC N 0 ≤ -1 := fun h => by
    have := il_le h
    rw [hc, t_m1] at this
    omega
  rw [if_neg e1, if_neg e1]
  by_cases e : lgC N 0 ≤ 0
  · have : lgC N 0 = 0 := by
      have h1 := il_le e
      refine Int32.toInt_inj.mp ?_
      rw [hc] at h1 ⊢
      omega
    rw [this]
    rfl
  · rw [if_neg e, if_neg e]
theorem v_longest (n : Nat) (σ : ms_T) (N w : Int32) : pr (f_X12_longest n σ N w) (fun res => res.1 = lgA N w) := by
  have L2 := t_2
  have L512 := t_512
  have hJ : ¬ ((1 ≤ N.toInt ∧ N.toInt ≤ 512) ∧ (0 ≤ w.toInt ∧ w.toInt ≤ 2)) → pr (f_X12_longest_J25 n σ N w) (fun res => res.1 = lgA N w) := by
    intro h
    unfold f_X12_longest_J25 f_X12_longest_J26 lgA
    rw [if_neg h]
    exact pr_c (v_is n σ 1) (fun r τ hr => pr_e (fun _ => pr_s rfl) (fun e => absurd (bo_1 hr e) (by decide)))
  unfold f_X12_longest
  refine pr_bo (v_isIn n N 1 512) (fun h => hJ (fun q => h (by rw [lt1, L512]; exact q.1))) (fun h => pr_bo (v_isIn n w 0 2) (fun g => hJ (fun q => g (by rw [lt0, L2]; exact q.2))) (fun g => ?_))
  rw [lt1, L512] at h
  rw [lt0, L2] at g
  unfold f_X12_longest_J26 lgA
  rw [if_pos ⟨h, g⟩]
  refine pr_c (v_is n σ 0) (fun r τ hr => pr_e (fun e => absurd rfl (bo_0 hr e)) (fun e => ?_))
  refine pr_m (v_longest_L n N w h.2 n τ (-1) 0 0 0 (by decide) (by rw [lt0]; omega)) (fun r hr => ?_)
  rw [hr, lt0, show (N.toInt - 0).toNat = (N.toInt.toNat - 1) + 1 by omega, lgS_0, show (N.toInt.toNat - 1) + 1 = N.toInt.toNat by omega]
