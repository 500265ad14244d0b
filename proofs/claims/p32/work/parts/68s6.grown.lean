set_option maxRecDepth 100000
/-! ===== why a growth is wrong, told by lists ===== -/
def gst (m : Int32) (b : Bool) (x : Int32) (s : Int32 × Int32) : Int32 × Int32 := (if b then bt m x s.1 else s.1, if b then bt m x s.2 else bt m s.2 x)
def FGw (m : Int32) (xs : Nat → Int32) : List (Nat × Nat × Bool) → Nat → Int32 × Int32 → Int32 × Int32
  | [], _, s => s
  | q :: l, k, s => FGw m xs l (k + 1) (gst m q.2.2 (xs k) s)
theorem FGw_snoc (m : Int32) (xs : Nat → Int32) (q : Nat × Nat × Bool) : ∀ (l : List (Nat × Nat × Bool)) (k : Nat) (s : Int32 × Int32), FGw m xs (l ++ [q]) k s = gst m q.2.2 (xs (k + l.length)) (FGw m xs l k s) := by
  intro l
  induction l with
  | nil => intro k s; rfl
  | cons a l ih =>
    intro k s
    rw [List.cons_append, FGw, ih, FGw, List.length_cons, show k + 1 + l.length = k + (l.length + 1) by omega]
/-- whether the first mark is the start -/
def stG : Nat → Nat → Nat → Bool → Bool
  | 0, _, _, _ => false
  | d + 1, i, m, w => if i = m then !w else if i ≤ p0 m then stG d i (p0 m) w else stG d (i - p0 m) (m - p0 m) false
theorem stG_ne : ∀ (d i f m : Nat) (w : Bool), stG d i m w = true → wyG d i f m w ≠ [] := by
  intro d
  induction d with
  | zero => intro i f m w h; unfold stG at h; exact absurd h (by decide)
  | succ d ih =>
    intro i f m w h
    rw [stG] at h
    rw [wyG]
    by_cases h1 : i = m
    · rw [if_pos h1] at h ⊢
      cases w with
      | true => exact absurd h (by decide)
      | false => exact List.cons_ne_nil _ _
    · rw [if_neg h1]
      by_cases h2 : i ≤ p0 m
      · rw [if_pos h2]; exact List.cons_ne_nil _ _
      · rw [if_neg h2]; exact List.cons_ne_nil _ _
def GGw (m : Int32) (xs : Nat → Int32) (old : Int32) (l : List (Nat × Nat × Bool)) (s : Bool) : Int32 × Int32 := if s then FGw m xs l.tail 1 (xs 0, xs 0) else FGw m xs l 0 (old, old)
theorem GGw_snoc (m : Int32) (xs : Nat → Int32) (old : Int32) (l : List (Nat × Nat × Bool)) (s : Bool) (q : Nat × Nat × Bool) (h : s = true → l ≠ []) : GGw m xs old (l ++ [q]) s = gst m q.2.2 (xs l.length) (GGw m xs old l s) := by
  unfold GGw
  cases s with
  | false => rw [if_neg (by decide), if_neg (by decide), FGw_snoc, Nat.zero_add]
  | true =>
    rw [if_pos rfl, if_pos rfl]
    cases l with
    | nil => exact absurd rfl (h rfl)
    | cons a l =>
      show FGw m xs (l ++ [q]) 1 _ = _
      rw [FGw_snoc]
      show _ = gst m q.2.2 (xs (l.length + 1)) (FGw m xs l 1 (xs 0, xs 0))
      rw [Nat.add_comm 1]
theorem v_growsIn_fr (n : Nat) : ∀ (d : Nat) (σ : ms_T) (f i m w : Int32), pr (f_X12_growsIn n d σ f i m w) (fun τ => fr [657] [42, 43] σ τ) := by
  intro d
  induction d with
  | zero => intro σ f i m w; rw [f_X12_growsIn.eq_1]; exact pr_0
  | succ d ih =>
    intro σ f i m w
    rw [f_X12_growsIn.eq_2]
    refine pr_i (fun _ => pr_i (fun _ => pr_b (pr_w_asks n σ _ _) (fun τ hτ => pr_s hτ)) (fun _ => pr_s fr_rf)) (fun _ => pr_b (T := fun _ => True) (fun _ _ => trivial) (fun r _ => pr_i (fun _ => ?_) (fun _ => ?_)))
    · exact pr_b (ih σ _ _ _ _) (fun τ hτ => pr_b (pr_w_asks n τ _ _) (fun υ hυ => pr_s (fr_tr hτ hυ)))
    · exact pr_b (ih σ _ _ _ _) (fun τ hτ => pr_b (pr_w_asks n τ _ _) (fun υ hυ => pr_s (fr_tr hτ hυ)))
theorem v_growth_fr (n : Nat) (σ : ms_T) (i m : Int32) : pr (f_X12_growth n σ i m) (fun τ => fr [657] [42, 43] σ τ) := by
  unfold f_X12_growth
  refine pr_l (pr_i (fun _ => pr_s (fr_sI (by decide))) (fun _ => pr_i (fun _ => pr_s (fr_sI (by decide))) (fun _ => pr_b (v_growsIn_fr n 40 _ _ _ _ _) (fun τ hτ => pr_s (fr_tr (fr_sI (by decide)) hτ)))))
theorem v_foldsGrowth (n : Nat) (old : Int32) : ∀ (d e : Nat) (σ : ms_T) (f i m : Nat) (iI mI wI : Int32) (w : Bool), ms_I σ 658 = 0 → iI.toInt = (i : Int) → mI.toInt = (m : Int) → 1 ≤ i → i ≤ m → m ≤ 2 ^ e → wI = (if w then 1 else 0) → pr (f_X12_foldsGrowth n d σ old iI mI wI) (fun τ => (ms_I τ 658).toInt = ((wyG (e + 1) i f m w).length : Int) ∧ (ms_I τ 659, ms_I τ 660) = GGw (ms_E σ 40 1) (ms_E σ 44) old (wyG (e + 1) i f m w).reverse (stG (e + 1) i m w) ∧ fr [658, 659, 660] [] σ τ) := by
  intro d
  induction d with
  | zero => intro e σ f i m iI mI wI w h0 hi hm hi1 him hme hw; rw [f_X12_foldsGrowth.eq_1]; exact pr_0
  | succ d ih =>
    intro e σ f i m iI mI wI w h0 hi hm hi1 him hme hw
    rw [f_X12_foldsGrowth.eq_2, wyG, stG]
    refine pr_e (fun h1 => ?_) (fun h1 => ?_)
    · have : i = m := by rw [h1] at hi; omega
      rw [if_pos this, if_pos this]
      unfold f_X12_foldsGrowth_J24 f_X12_foldsGrowth_J50
      cases w with
      | true =>
        subst hw
        refine pr_i (fun h => absurd h (by decide)) (fun _ => pr_l (pr_l (pr_i (fun h => absurd h (by decide)) (fun _ => pr_l (pr_s ⟨?_, ?_, ?_⟩)))))
        · rw [mI_sI, if_pos rfl, mI_sI, if_neg (by decide), mI_sI, if_neg (by decide), h0]; rfl
        · rw [mI_sI, if_neg (by decide), mI_sI, if_neg (by decide), mI_sI, if_pos rfl, mI_sI, if_neg (by decide), mI_sI, if_pos rfl]; rfl
        · exact fr_tr (fr_sI (by decide)) (fr_tr (fr_sI (by decide)) (fr_sI (by decide)))
      | false =>
        subst hw
        refine pr_i (fun _ => pr_g (fun _ _ => pr_l (pr_l (pr_i (fun _ => pr_l (pr_s ⟨?_, ?_, ?_⟩)) (fun h => absurd rfl h))))) (fun h => absurd rfl h)
        · rw [mI_sI, if_pos rfl, mI_sI, if_neg (by decide), mI_sI, if_neg (by decide), h0]; rfl
        · rw [mI_sI, if_neg (by decide), mI_sI, if_neg (by decide), mI_sI, if_pos rfl, mI_sI, if_neg (by decide), mI_sI, if_pos rfl, h0]; rfl
        · exact fr_tr (fr_sI (by decide)) (fr_tr (fr_sI (by decide)) (fr_sI (by decide)))
    · rw [hi, hm] at h1
      rw [if_neg (show ¬ i = m by omega), if_neg (show ¬ i = m by omega)]
      have hmb := ib_hi mI
      have hm2 : 2 ≤ m := by omega
      cases e with
      | zero => simp at hme; omega
      | succ e =>
      have hp1 := p0_lt hm2
      have hp2 := p0_le (m := m)
      have hp3 := p0_pos m
      have hp4 := p0_dn hm2 hme
      refine pr_b (v_part0 n mI (by omega)) (fun r hr => ?_)
      rw [hm, Int.toNat_natCast] at hr
      unfold f_X12_foldsGrowth_J157
      refine pr_lt (fun h2 => ?_) (fun h2 => ?_)
      · rw [if_neg (show ¬ i ≤ p0 m by omega), if_neg (show ¬ i ≤ p0 m by omega)]
        refine pr_b (ih e σ (f + p0 m) (i - p0 m) (m - p0 m) _ _ 0 false h0 (by rw [ii_sub (by omega) (by omega)]; omega) (by rw [ii_sub (by omega) (by omega)]; omega) (by omega) (by omega) (by omega) rfl) (fun τ hτ => ?_)
        obtain ⟨t1, t2, t3⟩ := hτ
        have e44 : ms_E τ 44 = ms_E σ 44 := funext (t3.2 44 (by decide))
        have e40 : ms_E τ 40 1 = ms_E σ 40 1 := t3.2 40 (by decide) 1
        refine pr_g (fun _ g1 => pr_b (v_both n τ _ _) (fun v hv => pr_ln (fun υ hυ => pr_g (fun _ _ => pr_b (v_both n υ _ _) (fun v2 hv2 => pr_l (pr_l (pr_s ⟨?_, ?_, ?_⟩)))))))
        · rw [mI_sI, if_pos rfl, mI_sI, if_neg (by decide), hυ, mI_sI, if_neg (by decide), ii_add (by rw [lt1]; omega) (by rw [lt1]; omega), t1, lt1, List.length_cons]; omega
        · rw [List.reverse_cons, GGw_snoc _ _ _ _ _ _ (fun h hn => stG_ne _ _ (f + p0 m) _ _ h (List.reverse_eq_nil_iff.mp hn)), ← t2, List.length_reverse]
          have hc : (ms_I τ 658).toNatClampNeg = (wyG (e + 1) (i - p0 m) (f + p0 m) (m - p0 m) false).length := cl_n t1
          have u1 : ms_I υ 658 = ms_I τ 658 := by rw [hυ, mI_sI, if_neg (by decide)]
          have u2 : ms_I υ 660 = ms_I τ 660 := by rw [hυ, mI_sI, if_neg (by decide)]
          have u3 : ms_E υ = ms_E τ := by rw [hυ]; rfl
          rw [u1, u2, u3, hc, e44, e40] at hv2
          rw [hc, e44, e40] at hv
          rw [mI_sI, if_neg (by decide), mI_sI, if_neg (by decide), mI_sI, if_neg (by decide), mI_sI, if_pos rfl, hυ, mI_sI, if_pos rfl, hv2, hv]
          rfl
        · rw [hυ]
          exact fr_tr t3 (fr_tr (fr_sI (by decide)) (fr_tr (fr_sI (by decide)) (fr_sI (by decide))))
      · rw [if_pos (show i ≤ p0 m by omega), if_pos (show i ≤ p0 m by omega)]
        refine pr_b (ih e σ f i (p0 m) _ _ wI w h0 hi hr (by omega) (by omega) hp4 hw) (fun τ hτ => ?_)
        obtain ⟨t1, t2, t3⟩ := hτ
        have e44 : ms_E τ 44 = ms_E σ 44 := funext (t3.2 44 (by decide))
        have e40 : ms_E τ 40 1 = ms_E σ 40 1 := t3.2 40 (by decide) 1
        refine pr_g (fun _ g1 => pr_b (v_both n τ _ _) (fun v hv => pr_l (pr_l (pr_s ⟨?_, ?_, ?_⟩))))
        · rw [mI_sI, if_pos rfl, mI_sI, if_neg (by decide), ii_add (by rw [lt1]; omega) (by rw [lt1]; omega), t1, lt1, List.length_cons]; omega
        · rw [List.reverse_cons, GGw_snoc _ _ _ _ _ _ (fun h hn => stG_ne _ _ f _ _ h (List.reverse_eq_nil_iff.mp hn)), ← t2, List.length_reverse]
          have hc : (ms_I τ 658).toNatClampNeg = (wyG (e + 1) i f (p0 m) w).length := cl_n t1
          rw [hc, e44, e40] at hv
          rw [mI_sI, if_neg (by decide), mI_sI, if_neg (by decide), mI_sI, if_neg (by decide), mI_sI, if_pos rfl, hv]
          rfl
        · exact fr_tr t3 (fr_tr (fr_sI (by decide)) (fr_sI (by decide)))
/-- why a growth from i to N with c marks is wrong -/
def WHY (m : Int32) (xs : Nat → Int32) (c : Nat) (i : Nat) (old : Int32) (N : Nat) (new : Int32) : Int32 := if c < (wyH i N).length then 1 else if (wyH i N).length < c then 2 else if i = N then (if old = new ∧ (i = 0 → old = 0) then 0 else 3) else if i = 0 then (if old = 0 then 0 else 3) else if (GGw m xs old (wyH i N).reverse (stG 32 i N true)).1 = old then (if (GGw m xs old (wyH i N).reverse (stG 32 i N true)).2 = new then 0 else 4) else 3
theorem v_whyGrown (n : Nat) (σ : ms_T) (c : Nat) (cI : Int32) (hc : cI.toInt = (c : Int)) (i N : Nat) (iI NI old new : Int32) (hi : iI.toInt = (i : Int)) (hN : NI.toInt = (N : Int)) (hiN : i ≤ N) : pr (f_X12_whyGrown n σ cI iI old NI new) (fun res => res.1 = WHY (ms_E σ 40 1) (ms_E σ 44) c i old N new ∧ fr [657, 658, 659, 660] [42, 43] σ res.2) := by
  have hNb := ib_hi NI
  unfold f_X12_whyGrown WHY
  refine pr_b (fun τ hτ => (⟨v_growth n σ iI NI (by omega) (by omega) τ hτ, v_growth_fr n σ iI NI τ hτ⟩ : WS τ _ ∧ fr [657] [42, 43] σ τ)) (fun τ hτ => ?_)
  rw [hi, hN, Int.toNat_natCast, Int.toNat_natCast] at hτ
  have hlen := hτ.1.1
  rw [List.length_reverse] at hlen
  have hf : fr [657, 658, 659, 660] [42, 43] σ τ := fr_sb hτ.2 (by decide) (by decide)
  have e44 : ms_E τ 44 = ms_E σ 44 := funext (hτ.2.2 44 (by decide))
  have e40 : ms_E τ 40 1 = ms_E σ 40 1 := hτ.2.2 40 (by decide) 1
  have hJ : c = (wyH i N).length → (i = 0 → old = 0) → pr (f_X12_whyGrown_J39 n τ iI old NI new) (fun res => res.1 = (if i = N then (if old = new ∧ (i = 0 → old = 0) then 0 else 3) else if i = 0 then (if old = 0 then 0 else 3) else if (GGw (ms_E σ 40 1) (ms_E σ 44) old (wyH i N).reverse (stG 32 i N true)).1 = old then (if (GGw (ms_E σ 40 1) (ms_E σ 44) old (wyH i N).reverse (stG 32 i N true)).2 = new then 0 else 4) else 3) ∧ fr [657, 658, 659, 660] [42, 43] σ res.2) := by
    intro _ h0
    unfold f_X12_whyGrown_J39
    refine pr_e (fun e => ?_) (fun e => ?_)
    · have : i = N := by rw [e] at hi; omega
      rw [if_pos this]
      refine pr_i (fun e2 => pr_s ⟨?_, hf⟩) (fun e2 => pr_s ⟨?_, hf⟩)
      · rw [if_pos ⟨e2, h0⟩]
      · rw [if_neg (fun h => e2 h.1)]
    · rw [hi, hN] at e
      rw [if_neg (show ¬ i = N by omega)]
      refine pr_e (fun e2 => ?_) (fun e2 => ?_)
      · have : i = 0 := by rw [e2] at hi; rw [lt0] at hi; omega
        rw [if_pos this, if_pos (h0 this)]
        exact pr_s ⟨rfl, hf⟩
      · rw [hi, lt0] at e2
        rw [if_neg (show ¬ i = 0 by omega)]
        have hw : wyH i N = wyG 32 i 0 N true := by unfold wyH; rw [if_neg (by omega)]
        refine pr_l (pr_b (v_foldsGrowth n old 40 31 (ms_sI τ 658 0) 0 i N iI NI 1 true (by rw [mI_sI, if_pos rfl]) hi hN (by omega) (by omega) (by omega) rfl) (fun υ hυ => ?_))
        obtain ⟨-, u2, u3⟩ := hυ
        have hE : ms_E (ms_sI τ 658 0) = ms_E τ := rfl
        rw [hE, e44, e40, ← hw] at u2
        have u4 : fr [657, 658, 659, 660] [42, 43] σ υ := fr_tr hf (fr_tr (fr_sI (by decide)) (fr_sb u3 (by decide) (by decide)))
        rw [← u2]
        refine pr_i (fun e3 => pr_i (fun e4 => pr_s ⟨?_, u4⟩) (fun e4 => pr_s ⟨?_, u4⟩)) (fun e3 => pr_s ⟨?_, u4⟩)
        · rw [if_pos e3, if_pos e4]
        · rw [if_pos e3, if_neg e4]
        · rw [if_neg e3]
  refine pr_e (fun e => ?_) (fun e => ?_)
  · have hcl : c = (wyH i N).length := by rw [e, hlen] at hc; omega
    rw [if_neg (show ¬ c < (wyH i N).length by omega), if_neg (show ¬ (wyH i N).length < c by omega)]
    refine pr_e (fun e2 => ?_) (fun e2 => ?_)
    · have h0 : i = 0 := by rw [e2, lt0] at hi; omega
      refine pr_i (fun e3 => hJ hcl (fun _ => e3)) (fun e3 => pr_s ⟨?_, hf⟩)
      by_cases h4 : i = N
      · rw [if_pos h4, if_neg (fun h => e3 (h.2 h0))]
      · rw [if_neg h4, if_pos h0, if_neg e3]
    · rw [hi, lt0] at e2
      exact hJ hcl (fun h => by omega)
  · rw [hc, hlen] at e
    refine pr_le (fun e2 => pr_s ⟨?_, hf⟩) (fun e2 => pr_s ⟨?_, hf⟩)
    · rw [hlen, hc] at e2
      rw [if_neg (by omega), if_pos (by omega)]
    · rw [hlen, hc] at e2
      rw [if_pos (by omega)]
/-! ===== the class: whether a way has a start ===== -/
theorem k_turn_s_L (n a : Nat) : ∀ (k : Nat) (β : hp_T) (v : Int32), pr (f_X8_turnRound_L2 n a k β v) (fun γ => hp_I γ 454 a = hp_I β 454 a) := by
  intro k
  induction k with
  | zero => intro β v; rw [f_X8_turnRound_L2.eq_1]; exact pr_0
  | succ k ih =>
    intro β v
    rw [f_X8_turnRound_L2.eq_2]
    repeat' first | exact pr_0 | exact pr_s rfl | exact ih _ _ | refine pr_g (fun _ _ => ?_) | refine pr_i (fun _ => ?_) (fun _ => ?_) | refine pr_l ?_
theorem k_turn_s (n a : Nat) (β : hp_T) : pr (f_X8_turnRound n β a) (fun γ => hp_I γ 454 a = hp_I β 454 a) := k_turn_s_L n a n β 0
theorem k_put8_s (n a : Nat) (β : hp_T) (f m b : Int32) : pr (f_X8_put n β a f m b) (fun γ => hp_I γ 454 a = hp_I β 454 a) := by
  unfold f_X8_put
  repeat' first | exact pr_0 | exact pr_s rfl | exact pr_s (by rw [hI_sI, if_neg (fun h => absurd h.1 (by decide))]; rfl) | refine pr_g (fun _ _ => ?_) | refine pr_i (fun _ => ?_) (fun _ => ?_) | refine pr_l ?_
theorem k_toGrowth_Js (n a : Nat) (β : hp_T) (h0 : hp_I β 454 a = 0) (f m wI : Int32) (w : Bool) (hw : wI = if w then 1 else 0) : pr (f_X8_toGrowth_J100 n a β f m wI) (fun γ => hp_I γ 454 a = if (!w) then 1 else 0) := by
  unfold f_X8_toGrowth_J100 f_X8_toGrowth_J118
  cases w with
  | true =>
    subst hw
    refine pr_i (fun h => absurd h (by decide)) (fun _ => pr_b (k_turn_s n a β) (fun γ hγ => pr_s ?_))
    rw [hγ, h0]; rfl
  | false =>
    subst hw
    refine pr_i (fun _ => pr_b (T := fun _ => True) (fun _ _ => trivial) (fun γ _ => pr_l (pr_b (k_turn_s n a _) (fun δ hδ => pr_s ?_)))) (fun h => absurd rfl h)
    rw [hδ, hI_sI, if_pos ⟨rfl, rfl⟩]; rfl
theorem k_toGrowth_Ls (n a : Nat) : ∀ (k e : Nat) (β : hp_T) (f i m : Nat) (iI fI mI wI dI : Int32) (w : Bool), hp_I β 454 a = 0 → 0 ≤ dI.toInt → dI.toInt + e < 40 → fI.toInt = (f : Int) → iI.toInt = (f : Int) + i → mI.toInt = (m : Int) → 1 ≤ i → i ≤ m → m ≤ 2 ^ e → f + m ≤ 2147483647 → wI = (if w then 1 else 0) → pr (f_X8_toGrowth_L20 n a k β iI fI mI wI dI) (fun γ => hp_I γ 454 a = if stG (e + 1) i m w then 1 else 0) := by
  intro k
  induction k with
  | zero => intro e β f i m iI fI mI wI dI w h0 hd0 hd hf hi hm hi1 him hme hfm hwI; rw [f_X8_toGrowth_L20.eq_1]; exact pr_0
  | succ k ih =>
    intro e β f i m iI fI mI wI dI w h0 hd0 hd hf hi hm hi1 him hme hfm hwI
    rw [f_X8_toGrowth_L20.eq_2, stG]
    have L40 : (40 : Int32).toInt = 40 := by decide
    have hif : (iI - fI).toInt = (i : Int) := by rw [ii_sub (by omega) (by omega)]; omega
    refine pr_le (fun h => by omega) (fun _ => pr_e (fun h => ?_) (fun h => ?_))
    · have hq : i = m := by rw [h, hm] at hif; omega
      rw [if_pos hq]
      exact k_toGrowth_Js n a β h0 fI mI wI w hwI
    · rw [hif, hm] at h
      have hm2 : 2 ≤ m := by omega
      rw [if_neg (show ¬ i = m by omega)]
      cases e with
      | zero => simp at hme; omega
      | succ e =>
      have hp1 := p0_lt hm2
      have hp2 := p0_le (m := m)
      have hp3 := p0_pos m
      have hp4 := p0_dn hm2 hme
      have hdI : (dI + 1).toInt = dI.toInt + 1 := by rw [ii_add (by rw [lt1]; omega) (by rw [lt1]; omega), lt1]
      refine pr_b (pr_w (k_first n mI (by omega))) (fun r hr => ?_)
      rw [hm, Int.toNat_natCast] at hr
      unfold f_X8_toGrowth_J94
      refine pr_lt (fun h2 => ?_) (fun h2 => ?_)
      · rw [if_neg (show ¬ i ≤ p0 m by omega)]
        refine pr_b (k_put8_s n a β _ _ _) (fun γ hγ => pr_l (pr_l (pr_l ?_)))
        exact ih e γ (f + p0 m) (i - p0 m) (m - p0 m) iI (fI + r) (mI - r) 0 (dI + 1) false (by rw [hγ]; exact h0) (by omega) (by omega) (by rw [ii_add (by omega) (by omega)]; omega) (by omega) (by rw [ii_sub (by omega) (by omega)]; omega) (by omega) (by omega) (by omega) (by omega) rfl
      · rw [if_pos (show i ≤ p0 m by omega)]
        refine pr_b (k_put8_s n a β _ _ _) (fun γ hγ => pr_l ?_)
        exact ih e γ f i (p0 m) iI fI r wI (dI + 1) w (by rw [hγ]; exact h0) (by omega) (by omega) hf hi hr hi1 (by omega) hp4 (by omega) hwI
def stH (i m : Nat) : Bool := if i = 0 then false else stG 32 i m true
theorem k_toGrowth_s (n a : Nat) (α : hp_T) (i m : Int32) (h0 : 0 ≤ i.toInt) (h1 : i.toInt ≤ m.toInt) : pr (f_X8_toGrowth n α a i m) (fun γ => hp_I γ 454 a = if stH i.toInt.toNat m.toInt.toNat then 1 else 0) := by
  have hm := ib_hi m
  unfold f_X8_toGrowth
  refine pr_b (T := fun β => hp_I β 454 a = 0) ?_ (fun β hβ => pr_e (fun h => ?_) (fun h => ?_))
  · unfold f_X8_clear
    exact pr_l (pr_l (pr_s (by rw [hI_sI, if_pos ⟨rfl, rfl⟩])))
  · have e : stH i.toInt.toNat m.toInt.toNat = false := by unfold stH; rw [if_pos (by rw [h]; rfl)]
    rw [e]
    exact pr_s hβ
  · rw [lt0] at h
    have e : stH i.toInt.toNat m.toInt.toNat = stG 32 i.toInt.toNat m.toInt.toNat true := by unfold stH; rw [if_neg (by omega)]
    rw [e]
    exact k_toGrowth_Ls n a n 31 β 0 i.toInt.toNat m.toInt.toNat i 0 m 1 0 true hβ (by decide) (by decide) rfl (by omega) (by omega) (by omega) (by omega) (by omega) (by omega) rfl
theorem k_toGrowth2 (n : Nat) (hn : 70000 ≤ n) (α : hp_T) (a : Nat) (i N : Nat) (iI NI : Int32) (hi : iI.toInt = (i : Int)) (hN : NI.toInt = (N : Int)) (hiN : i ≤ N) : ws (f_X8_toGrowth n α a iI NI) (fun β => (WC β a (wyH i N).reverse ∧ wf a α β) ∧ hp_I β 454 a = if stH i N then 1 else 0) := by
  have h1 := k_toGrowth n hn α a iI NI (by omega) (by omega)
  have h2 := k_toGrowth_s n a α iI NI (by omega) (by omega)
  rw [hi, hN, Int.toNat_natCast, Int.toNat_natCast] at h1 h2
  exact ws_pr h1 h2
/-! the fold -/
theorem k_isAhead (n : Nat) {α : hp_T} {a : Nat} {l : List (Nat × Nat × Bool)} (h : WC α a l) (hl : l.length ≤ 64) (k : Nat) (hk : k < l.length) (kI : Int32) (hkI : kI.toInt = (k : Int)) : ws (f_X8_isAhead n α a kI) (fun r => r = if l[k].2.2 then 1 else 0) := by
  have L64 := t_64
  have hq := h.2 k _ (List.getElem?_eq_getElem hk)
  unfold f_X8_isAhead
  refine ws_lt (fun e => by rw [lt0] at e; omega) (fun _ => ws_l (ws_le (fun e => by rw [h.1] at e; omega) (fun _ => ws_l (ws_le (fun e => by omega) (fun _ => ws_l (ws_g (by omega) (by omega) ?_))))))
  rw [cl_n hkI, hq.2.2]
  cases l[k].2.2 with
  | true => exact ws_i (fun h => absurd h (by decide)) (fun _ => ws_s rfl)
  | false => exact ws_i (fun _ => ws_s rfl) (fun h => absurd rfl h)
theorem k_joined (n : Nat) {α : hp_T} {a : Nat} {l : List (Nat × Nat × Bool)} (h : WC α a l) (hl : l.length ≤ 64) (k : Nat) (hk : k < l.length) (kI : Int32) (hkI : kI.toInt = (k : Int)) (m : Int32) (hm : 0 < m.toInt) (s x : Int32) : ws (f_X8_joined n α a m kI s x) (fun r => r = if l[k].2.2 then bt m x s else bt m s x) := by
  unfold f_X8_joined
  refine ws_b (k_isAhead n h hl k hk kI hkI) (fun r hr => ?_)
  subst hr
  cases l[k].2.2 with
  | true => exact ws_i (fun h => absurd h (by decide)) (fun _ => ws_b (k_two n m x s hm) (fun v hv => ws_s hv))
  | false => exact ws_i (fun _ => ws_b (k_two n m s x hm) (fun v hv => ws_s hv)) (fun h => absurd rfl h)
theorem k_rat (n : Nat) {α : hp_T} {a : Nat} {l : List Int32} (h : RWL α a l) (k : Nat) (hk : k < l.length) (kI : Int32) (hkI : kI.toInt = (k : Int)) : ws (f_X5_at n α a kI) (fun r => r = l.getD k 0) := by
  have L64 := t_64
  obtain ⟨h1, h2, h3⟩ := h
  unfold f_X5_at
  refine ws_lt (fun e => by rw [lt0] at e; omega) (fun _ => ws_l (ws_le (fun e => by omega) (fun _ => ws_l (ws_le (fun e => by omega) (fun _ => ws_l (ws_g (by omega) (by omega) (ws_s ?_)))))))
  rw [cl_n hkI, List.getD_eq_getElem?_getD, ← h3 k hk]
  rfl
/-! ===== the class: why a growth is wrong ===== -/
theorem FGw_c (m : Int32) {xs ys : Nat → Int32} : ∀ (l : List (Nat × Nat × Bool)) (k : Nat) (s : Int32 × Int32), (∀ j, k ≤ j → j < k + l.length → xs j = ys j) → FGw m xs l k s = FGw m ys l k s := by
  intro l
  induction l with
  | nil => intro k s _; rfl
  | cons a l ih =>
    intro k s h
    rw [List.length_cons] at h
    rw [FGw, FGw, h k (by omega) (by omega)]
    exact ih (k + 1) _ (fun j h1 h2 => h j (by omega) (by omega))
theorem GGw_c (m : Int32) {xs ys : Nat → Int32} (old : Int32) (l : List (Nat × Nat × Bool)) (s : Bool) (hs : s = true → l ≠ []) (h : ∀ j, j < l.length → xs j = ys j) : GGw m xs old l s = GGw m ys old l s := by
  unfold GGw
  cases s with
  | false => rw [if_neg (by decide), if_neg (by decide)]; exact FGw_c m l 0 _ (fun j _ hj => h j (by omega))
  | true =>
    rw [if_pos rfl, if_pos rfl]
    cases l with
    | nil => exact absurd rfl (hs rfl)
    | cons a l =>
      rw [List.length_cons] at h
      rw [h 0 (by omega)]
      exact FGw_c m l 1 _ (fun j _ hj => h j (by omega))
theorem wyH_st {i N : Nat} (h : stH i N = true) : (wyH i N).reverse ≠ [] := by
  unfold stH at h
  unfold wyH
  by_cases h0 : i = 0
  · rw [if_pos h0] at h; exact absurd h (by decide)
  · rw [if_neg h0] at h ⊢
    exact fun e => stG_ne _ _ 0 _ _ h (List.reverse_eq_nil_iff.mp e)
theorem stH_G {i N : Nat} (h : ¬ i = 0) : stH i N = stG 32 i N true := by unfold stH; rw [if_neg h]
theorem WHY_c (m : Int32) {xs ys : Nat → Int32} (c i : Nat) (old : Int32) (N : Nat) (new : Int32) (h : ∀ j, j < c → xs j = ys j) : WHY m xs c i old N new = WHY m ys c i old N new := by
  unfold WHY
  by_cases h1 : c < (wyH i N).length
  · rw [if_pos h1, if_pos h1]
  rw [if_neg h1, if_neg h1]
  by_cases h2 : (wyH i N).length < c
  · rw [if_pos h2, if_pos h2]
  rw [if_neg h2, if_neg h2]
  by_cases h3 : i = N
  · rw [if_pos h3, if_pos h3]
  rw [if_neg h3, if_neg h3]
  by_cases h4 : i = 0
  · rw [if_pos h4, if_pos h4]
  rw [if_neg h4, if_neg h4, GGw_c m old (wyH i N).reverse (stG 32 i N true) (fun hs => wyH_st (by rw [stH_G h4]; exact hs)) (fun j hj => h j (by rw [List.length_reverse] at hj; omega))]
theorem k_whyG_L (n : Nat) (β : hp_T) (a row : Nat) (l : List (Nat × Nat × Bool)) (hW : WC β a l) (hl : l.length ≤ 64) (xl : List Int32) (hR : RWL β row xl) (hx : xl.length = l.length) (m : Int32) (hm : 0 < m.toInt) (old new : Int32) : ∀ (d k : Nat) (kI t w : Int32), kI.toInt = (k : Int) → k ≤ l.length → l.length + 1 - k ≤ d → ws (f_X8_whyGrowth_L115 n a d β m row old new t w kI) (fun res => res.1 = (if (FGw m (fun k => xl.getD k 0) (l.drop k) k (t, w)).1 = old then (if (FGw m (fun k => xl.getD k 0) (l.drop k) k (t, w)).2 = new then 0 else 4) else 3) ∧ res.2 = β) := by
  intro d
  induction d with
  | zero => intro k kI t w h1 h2 h3; omega
  | succ d ih =>
    intro k kI t w h1 h2 h3
    rw [f_X8_whyGrowth_L115.eq_2]
    refine ws_l (ws_le (fun e => ?_) (fun e => ?_))
    · rw [hW.1] at e
      rw [List.drop_eq_nil_of_le (by omega)]
      refine ws_i (fun e1 => ws_i (fun e2 => ws_s ⟨?_, rfl⟩) (fun e2 => ws_s ⟨?_, rfl⟩)) (fun e1 => ws_s ⟨?_, rfl⟩)
      · rw [FGw, if_pos e1, if_pos e2]
      · rw [FGw, if_pos e1, if_neg e2]
      · rw [FGw, if_neg e1]
    · rw [hW.1] at e
      have hk : k < l.length := by omega
      rw [List.drop_eq_getElem_cons hk, FGw]
      have hk1 : (kI + 1).toInt = ((k + 1 : Nat) : Int) := by rw [ii_add (by rw [lt1]; omega) (by rw [lt1]; omega), h1, lt1]; omega
      unfold f_X8_whyGrowth_J170
      refine ws_b (k_rat n hR k (by omega) kI h1) (fun x hx1 => ws_b (k_joined n hW hl k hk kI h1 m hm w x) (fun v hv => ws_b (k_isAhead n hW hl k hk kI h1) (fun r hr => ?_)))
      subst hr
      subst hx1
      cases hb : l[k].2.2 with
      | false =>
        rw [hb] at hv
        refine ws_i (fun _ => ws_l ?_) (fun h => absurd rfl h)
        have := ih (k + 1) (kI + 1) t v hk1 (by omega) (by omega)
        rw [hv] at this ⊢
        exact this
      | true =>
        rw [hb] at hv
        refine ws_i (fun h => absurd h (by decide)) (fun _ => ws_b (k_rat n hR k (by omega) kI h1) (fun x2 hx2 => ws_b (k_joined n hW hl k hk kI h1 m hm t x2) (fun u hu => ws_l ?_)))
        rw [hb, hx2] at hu
        have := ih (k + 1) (kI + 1) u v hk1 (by omega) (by omega)
        rw [hv, hu] at this ⊢
        exact this
theorem RWL_wf {α β : hp_T} {a row : Nat} {xl : List Int32} (h : RWL α row xl) (f : wf a α β) : RWL β row xl := by
  obtain ⟨f1, -, -, -, f5, f6⟩ := f
  refine ⟨h.1, by rw [f5 301 row (fun q => by omega)]; exact h.2.1, fun k hk => ?_⟩
  rw [f1, f6 20 _ _ (by omega)]
  exact h.2.2 k hk
theorem k_whyGrowth (n : Nat) (hn : 70000 ≤ n) (α : hp_T) (a row : Nat) (xl : List Int32) (hR : RWL α row xl) (m : Int32) (hm : 0 < m.toInt) (i N : Nat) (iI NI old new : Int32) (hi : iI.toInt = (i : Int)) (hN : NI.toInt = (N : Int)) (hiN : i ≤ N) : ws (f_X8_whyGrowth n α a m row iI old NI new) (fun res => res.1 = WHY m (fun k => xl.getD k 0) xl.length i old N new ∧ wf a α res.2) := by
  unfold f_X8_whyGrowth WHY
  refine ws_b (k_toGrowth2 n hn α a i N iI NI hi hN hiN) (fun β hβ => ?_)
  obtain ⟨⟨hW, hf⟩, hS⟩ := hβ
  have hRβ := RWL_wf hR hf
  have hlw : (wyH i N).reverse.length = (wyH i N).length := List.length_reverse
  have hl32 := wyH_len i N
  have c1 := hRβ.2.1
  have c2 := hW.1
  rw [hlw] at c2
  refine ws_l (ws_l (ws_e (fun e => ?_) (fun e => ?_)))
  · have hc : xl.length = (wyH i N).length := by rw [e, c2] at c1; omega
    rw [if_neg (show ¬ xl.length < (wyH i N).length by omega), if_neg (show ¬ (wyH i N).length < xl.length by omega)]
    refine ws_e (fun e1 => ?_) (fun e1 => ?_)
    · have h3 : i = N := by rw [e1] at hi; omega
      rw [if_pos h3]
      refine ws_i (fun e2 => ws_e (fun e3 => ?_) (fun e3 => ?_)) (fun e2 => ws_s ⟨?_, hf⟩)
      · have h0 : i = 0 := by rw [e3, lt0] at hi; omega
        refine ws_i (fun e4 => ?_) (fun e4 => ws_s ⟨?_, hf⟩)
        · unfold f_X8_whyGrowth_J57
          exact ws_s ⟨by rw [if_pos ⟨e2, fun _ => e4⟩], hf⟩
        · rw [if_neg (fun h => e4 (h.2 h0))]
      · rw [hi, lt0] at e3
        unfold f_X8_whyGrowth_J57
        exact ws_s ⟨by rw [if_pos ⟨e2, fun h => by omega⟩], hf⟩
      · rw [if_neg (fun h => e2 h.1)]
    · rw [hi, hN] at e1
      rw [if_neg (show ¬ i = N by omega)]
      refine ws_e (fun e2 => ?_) (fun e2 => ?_)
      · have h0 : i = 0 := by rw [e2, lt0] at hi; omega
        rw [if_pos h0]
        refine ws_i (fun e3 => ws_s ⟨?_, hf⟩) (fun e3 => ws_s ⟨?_, hf⟩)
        · rw [if_pos e3]
        · rw [if_neg e3]
      · rw [hi, lt0] at e2
        have h0 : ¬ i = 0 := by omega
        rw [if_neg h0, ← stH_G h0]
        refine ws_l ?_
        rw [hS]
        unfold f_X8_whyGrowth_J95 f_X8_whyGrowth_J113
        cases hs : stH i N with
        | false =>
          rw [hs] at hS
          refine ws_i (fun _ => ws_l ?_) (fun h => absurd rfl h)
          rw [hS]
          refine ws_i (fun _ => ?_) (fun h => absurd rfl h)
          refine ws_m (k_whyG_L n β a row _ hW (by omega) xl hRβ (by omega) m hm old new n 0 0 old old rfl (Nat.zero_le _) (by omega)) (fun res hr => ⟨?_, by rw [hr.2]; exact hf⟩)
          rw [hr.1, List.drop_zero]; rfl
        | true =>
          rw [hs] at hS
          have hne := wyH_st hs
          have hpos : 0 < (wyH i N).reverse.length := List.length_pos_iff.mpr hne
          refine ws_i (fun h => absurd h (by decide)) (fun _ => ws_b (k_rat n hRβ 0 (by omega) 0 rfl) (fun x hx => ws_l ?_))
          rw [hS]
          refine ws_i (fun h => absurd h (by decide)) (fun _ => ?_)
          refine ws_m (k_whyG_L n β a row _ hW (by omega) xl hRβ (by omega) m hm old new n 1 1 x x rfl (by omega) (by omega)) (fun res hr => ⟨?_, by rw [hr.2]; exact hf⟩)
          rw [hr.1, hx, List.drop_one]; rfl
  · rw [c1, c2] at e
    refine ws_l (ws_l (ws_le (fun e1 => ws_s ⟨?_, hf⟩) (fun e1 => ws_s ⟨?_, hf⟩)))
    · rw [c1, c2] at e1
      rw [if_neg (show ¬ xl.length < (wyH i N).length by omega), if_pos (show (wyH i N).length < xl.length by omega)]
    · rw [c1, c2] at e1
      rw [if_pos (show xl.length < (wyH i N).length by omega)]
theorem RWL_st {α : hp_T} {a b : Nat} {v : Int32} {l : List Int32} (h : RWL α a l) : RWL (hp_sI α 600 b v) a l := ⟨h.1, by rw [hI_sI, if_neg (fun z => absurd z.1 (by decide))]; exact h.2.1, fun k hk => h.2.2 k hk⟩
/-! ===== growth by a record: both sides ===== -/
theorem wyG_in : ∀ (e i f m : Nat) (w : Bool), 1 ≤ i → i ≤ m → ∀ q ∈ wyG e i f m w, q.1 + q.2.1 ≤ f + m := by
  intro e
  induction e with
  | zero => intro i f m w h1 h2 q hq; rw [wyG] at hq; exact absurd hq List.not_mem_nil
  | succ e ih =>
    intro i f m w hi1 hi2 q hq
    rw [wyG] at hq
    by_cases h1 : i = m
    · rw [if_pos h1] at hq
      cases w with
      | true => exact absurd hq List.not_mem_nil
      | false => have := List.mem_singleton.mp hq; rw [this]; exact Nat.le_refl _
    · rw [if_neg h1] at hq
      have hp1 := p0_lt (show 2 ≤ m by omega)
      by_cases h2 : i ≤ p0 m
      · rw [if_pos h2] at hq
        rcases List.mem_cons.mp hq with h | h
        · rw [h]; show f + p0 m + (m - p0 m) ≤ _; omega
        · have := ih _ _ _ _ hi1 h2 q h; omega
      · rw [if_neg h2] at hq
        rcases List.mem_cons.mp hq with h | h
        · rw [h]; show f + p0 m ≤ _; omega
        · have := ih _ _ _ _ (by omega) (by omega) q h; omega
theorem wyH_in (i N : Nat) (h : i ≤ N) : ∀ q ∈ (wyH i N).reverse, q.1 + q.2.1 ≤ N := by
  intro q hq
  have hq := List.mem_reverse.mp hq
  unfold wyH at hq
  by_cases h0 : i = 0
  · rw [if_pos h0] at hq; exact absurd hq List.not_mem_nil
  · rw [if_neg h0] at hq
    have := wyG_in _ _ _ _ _ (by omega) h q hq
    omega
/-- why, by the record's own marks -/
def WBR (m : Int32) (L : List Int32) (i : Nat) (old : Int32) (N : Nat) (new : Int32) : Int32 := WHY m (fun k => (mkl m L (wyH i N).reverse).getD k 0) (wyH i N).length i old N new
theorem v_whyByRecord (n : Nat) (σ : ms_T) (hC : rC (ms_E σ 40)) (r : Nat) (hr : r < 4) (rI : Int32) (hrI : rI.toInt = (r : Int)) (i N : Nat) (iI NI old new : Int32) (hi : iI.toInt = (i : Int)) (hN : NI.toInt = (N : Int)) (hiN : i ≤ N) (hL : N ≤ (EL (ms_E σ 40) r).length) : pr (f_X12_whyByRecord n σ rI iI old NI new) (fun res => res.1 = WBR (ms_E σ 40 1) (EL (ms_E σ 40) r) i old N new ∧ fr [657, 658, 659, 660] [42, 43, 44] σ res.2) := by
  have hNb := ib_hi NI
  unfold f_X12_whyByRecord WBR
  refine pr_b (fun τ hτ => (⟨v_growth n σ iI NI (by omega) (by omega) τ hτ, v_growth_fr n σ iI NI τ hτ⟩ : WS τ _ ∧ fr [657] [42, 43] σ τ)) (fun τ hτ => ?_)
  rw [hi, hN, Int.toNat_natCast, Int.toNat_natCast] at hτ
  have e40 : ms_E τ 40 = ms_E σ 40 := funext (hτ.2.2 40 (by decide))
  refine pr_b (v_fetches n τ (by rw [e40]; exact hC) r hr rI hrI (wyH i N).reverse hτ.1 (fun q hq => by rw [e40]; exact Nat.le_trans (wyH_in i N hiN q hq) hL)) (fun υ hυ => ?_)
  obtain ⟨u1, u2, u3⟩ := hυ
  have f40 : ms_E υ 40 = ms_E σ 40 := (funext (u3.2 40 (by decide))).trans e40
  rw [e40] at u1
  have hlen := u2.1
  rw [List.length_reverse] at hlen
  refine pr_c (v_whyGrown n υ (wyH i N).length (ms_I υ 657) hlen i N iI NI old new hi hN hiN) (fun v ρ hρ => pr_s ⟨?_, fr_tr (fr_sb hτ.2 (by decide) (by decide)) (fr_tr (fr_sb u3 (by decide) (by decide)) (fr_sb hρ.2 (by decide) (by decide)))⟩)
  have h1 := hρ.1
  rw [f40] at h1
  refine h1.trans (WHY_c _ _ _ _ _ _ (fun j hj => ?_))
  have := u1 j (by rw [mkl_len, List.length_reverse]; exact hj)
  rw [List.getD_eq_getElem?_getD, ← this]
  rfl
theorem WC_qf {α β : hp_T} {w a wy : Nat} {l : List (Nat × Nat × Bool)} (h : WC α wy l) (f : qf w a α β) : WC β wy l := by
  obtain ⟨f1, -, -, -, f5, f6⟩ := f
  refine ⟨by rw [f5 453 wy (by omega)]; exact h.1, fun k q hq => ?_⟩
  rw [f1, f6 21 _ _ (by omega) (by omega), f6 22 _ _ (by omega) (by omega), f6 23 _ _ (by omega) (by omega)]
  exact h.2 k q hq
theorem k_marks_L (n : Nat) (hn : 70000 ≤ n) (w a wy : Nat) (α : hp_T) (m : Int32) (hm : 0 < m.toInt) (hmα : hp_I α 550 w = m) (lg : Nat) (L : List Int32) (hL : LM α lg L) (l : List (Nat × Nat × Bool)) (hW : WC α wy l) (hl : l.length ≤ 64) (hin : ∀ q ∈ l, q.1 + q.2.1 ≤ L.length) : ∀ (d k : Nat) (β : hp_T) (kI : Int32), kI.toInt = (k : Int) → k ≤ l.length → qf w a α β → RWL β a (mkl m L (l.take k)) → l.length + 1 - k ≤ d → ws (f_X10_marksAlongs_L8 n w d β wy lg a kI) (fun γ => RWL γ a (mkl m L l) ∧ qf w a α γ) := by
  intro d
  induction d with
  | zero => intro k β kI h1 h2 hf hR h3; omega
  | succ d ih =>
    intro k β kI h1 h2 hf hR h3
    have hWβ := WC_qf hW hf
    rw [f_X10_marksAlongs_L8.eq_2]
    refine ws_l (ws_le (fun e => ws_s ⟨?_, hf⟩) (fun e => ?_))
    · rw [hWβ.1] at e
      rw [List.take_of_length_le (by omega)] at hR
      exact hR
    · rw [hWβ.1] at e
      have hk : k < l.length := by omega
      have i550 : hp_I β 550 w = m := by rw [hf.2.2.2.2.1 550 w (by omega)]; exact hmα
      refine ws_b (k_firstAt n β wy l hWβ hl k kI h1 hk) (fun x hx => ws_b (k_manyAt n β wy l hWβ hl k kI h1 hk) (fun y hy => ws_hc (k_treeMark n hn w β m hm i550 lg L (LM_qf hL hf) l[k].1 l[k].2.1 (hin _ (List.getElem_mem hk)) x y hx hy) (fun v γ hv => ws_b (k_rput n (RWL_jf hR hv.2) (by rw [mkl_len, List.length_take]; omega) v) (fun δ hδ => ws_l ?_))))
      refine ih (k + 1) δ _ ?_ (by omega) (qf_tr hf (qf_tr (qf_j hv.2) (qf_e hδ.2))) ?_ (by omega)
      · rw [ii_add (by rw [lt1]; omega) (by rw [lt1]; omega), h1, lt1]; omega
      · have hv1 : v = TMK m L l[k].1 l[k].2.1 := hv.1
        have e2 : mkl m L (l.take (k + 1)) = mkl m L (l.take k) ++ [v] := by
          unfold mkl
          rw [List.take_succ_eq_append_getElem hk, List.map_append, hv1]
          rfl
        rw [e2]
        exact hδ.1
theorem k_marksAlong (n : Nat) (hn : 70000 ≤ n) (w a wy : Nat) (α : hp_T) (m : Int32) (hm : 0 < m.toInt) (hmα : hp_I α 550 w = m) (lg : Nat) (L : List Int32) (hL : LM α lg L) (l : List (Nat × Nat × Bool)) (hW : WC α wy l) (hl : l.length ≤ 64) (hin : ∀ q ∈ l, q.1 + q.2.1 ≤ L.length) (rl : List Int32) (hR : RWL α a rl) : ws (f_X10_marksAlong n α w wy (some lg) a) (fun γ => RWL γ a (mkl m L l) ∧ qf w a α γ) := by
  show ws (ms_b _ _) _
  refine ws_b (k_rshort n hR 0 (Nat.zero_le _) 0 rfl) (fun β hβ => ?_)
  rw [List.take_zero] at hβ
  exact k_marks_L n hn w a wy α m hm hmα lg L hL l hW hl hin n 0 β 0 rfl (Nat.zero_le _) (qf_e hβ.2) hβ.1 (by omega)
theorem RWL_m {α : hp_T} {a : Nat} {l : List Int32} (h : RWL α a l) : 0 ≤ (hp_I α 301 a).toInt ∧ (hp_I α 301 a).toInt ≤ 64 := by
  have := h.1
  rw [h.2.1]; omega
/-- what the class may change while it looks whether a record has grown -/
def gf (w : Nat) (α β : hp_T) : Prop := hp_R β = hp_R α ∧ hp_K β = hp_K α ∧ hp_Q β = hp_Q α ∧ hp_N β = hp_N α ∧ (∀ φ b, ¬ (b = w + 5 ∧ φ = 301) → ¬ (b = w + 7 ∧ (φ = 453 ∨ φ = 454)) → hp_I β φ b = hp_I α φ b) ∧ ∀ κ b j, ¬ (κ = 33 ∧ b = w + 4) → ¬ (κ = 20 ∧ b = w + 6) → ¬ ((κ = 21 ∧ b = w + 8) ∨ (κ = 22 ∧ b = w + 9) ∨ (κ = 23 ∧ b = w + 10)) → hp_E β κ b j = hp_E α κ b j
theorem gf_tr {w : Nat} {α β γ : hp_T} (h : gf w α β) (g : gf w β γ) : gf w α γ := by
  obtain ⟨h1, h2, h3, h4, h5, h6⟩ := h
  obtain ⟨g1, g2, g3, g4, g5, g6⟩ := g
  exact ⟨g1.trans h1, g2.trans h2, g3.trans h3, g4.trans h4, fun φ b q1 q2 => (g5 φ b q1 q2).trans (h5 φ b q1 q2), fun κ b j q1 q2 q3 => (g6 κ b j q1 q2 q3).trans (h6 κ b j q1 q2 q3)⟩
theorem gf_w {w : Nat} {α β : hp_T} (hS : SHW α w) (h : wf (w + 7) α β) : gf w α β := by
  obtain ⟨h1, h2, h3, h4, h5, h6⟩ := h
  have hs := hS.2.2.2.2.2.2.2.2.2.2.1
  rw [hs.1, hs.2.1, hs.2.2] at h6
  exact ⟨h1, h2, h3, h4, fun φ b _ q => h5 φ b q, fun κ b j _ _ q => h6 κ b j q⟩
theorem gf_q {w : Nat} {α β : hp_T} (hS : SHW α w) (h : qf w (w + 5) α β) : gf w α β := by
  obtain ⟨h1, h2, h3, h4, h5, h6⟩ := h
  rw [hS.2.2.2.1, hS.2.2.2.2.2.2.2.2.2.1] at h6
  exact ⟨h1, h2, h3, h4, fun φ b q _ => h5 φ b q, fun κ b j q1 q2 _ => h6 κ b j q1 q2⟩
theorem gf_j {w : Nat} {α β : hp_T} (hS : SHW α w) (h : jf w α β) : gf w α β := gf_q hS (qf_j h)
theorem WR_f2 {α β : hp_T} {w : Nat} {f : Nat → Int32} (h : WR α w f) (hC : rC f) (eR : hp_R β = hp_R α) (eQ : hp_Q β = hp_Q α) (eI : ∀ φ b, w ≤ b → b < w + 459 → (φ = 550 ∨ φ = 552 ∨ φ = 554 ∨ φ = 556 ∨ φ = 152 ∨ φ = 501 ∨ (100 ≤ φ ∧ φ ≤ 103) ∨ (φ = 301 ∧ w + 407 ≤ b) ∨ (400 ≤ φ ∧ φ ≤ 403)) → hp_I β φ b = hp_I α φ b) (eE : ∀ κ b j, w ≤ b → b < w + 459 → (κ = 27 ∨ κ = 29 ∨ (κ = 20 ∧ w + 407 ≤ b)) → hp_E β κ b j = hp_E α κ b j) : WR β w f := by
  have h4 := hC.1.2
  have h16 := hC.2.2.2.1.2
  obtain ⟨h1, h2, h3, hF, hW, hX⟩ := h
  refine ⟨SHW_e h1 eR eQ, ⟨?_, ?_, ?_, ?_⟩, fun r hr => ?_, fun i hi => ?_, fun i hi => ?_, fun i hi => by rw [eI 301 _ (by unfold fzA; omega) (by unfold fzA; omega) (by unfold fzA; omega)]; exact hX i hi⟩
  · rw [eI 550 w (by omega) (by omega) (by omega)]; exact h2.1
  · rw [eI 552 w (by omega) (by omega) (by omega)]; exact h2.2.1
  · rw [eI 554 w (by omega) (by omega) (by omega)]; exact h2.2.2.1
  · rw [eI 556 w (by omega) (by omega) (by omega)]; exact h2.2.2.2
  · obtain ⟨a1, a2⟩ := h3 r hr
    have hs := hC.2.2.2.2.1 r (by omega)
    refine ⟨by rw [eI 152 _ (by unfold lpA; omega) (by unfold lpA; omega) (by omega)]; exact a1, fun i hi => ?_⟩
    obtain ⟨⟨b1, b2, b3, b4⟩, b5⟩ := a2 i hi
    have hsh := (h1.2.2.2.2.2.2.2.2.2.2.2.1 r (by omega)).2.2 i (by omega)
    refine ⟨⟨b1, by rw [eI 501 _ (by unfold wdA; omega) (by unfold wdA; omega) (by omega)]; exact b2, fun k hk => ?_, b4⟩, ?_⟩
    · rw [eR, hsh.2, eE 27 _ k (by unfold wdA; omega) (by unfold wdA; omega) (Or.inl rfl), ← hsh.2]; exact b3 k hk
    · rw [eE 29 _ i (by unfold lpA; omega) (by unfold lpA; omega) (Or.inr (Or.inl rfl))]; exact b5
  · obtain ⟨b1, b2, b3, b4, b5, b6⟩ := hF i hi
    refine ⟨?_, ?_, ?_, ?_, ?_, fun k hk => ?_⟩
    · rw [eI 100 _ (by unfold fzA; omega) (by unfold fzA; omega) (by omega)]; exact b1
    · rw [eI 101 _ (by unfold fzA; omega) (by unfold fzA; omega) (by omega)]; exact b2
    · rw [eI 102 _ (by unfold fzA; omega) (by unfold fzA; omega) (by omega)]; exact b3
    · rw [eI 103 _ (by unfold fzA; omega) (by unfold fzA; omega) (by omega)]; exact b4
    · rw [eI 301 _ (by unfold fzA; omega) (by unfold fzA; omega) (by unfold fzA; omega)]; exact b5
    · rw [eE 20 _ k (by unfold fzA; omega) (by unfold fzA; omega) (Or.inr (Or.inr ⟨rfl, by unfold fzA; omega⟩))]; exact b6 k hk
  · obtain ⟨b1, b2, b3, b4⟩ := hW i hi
    refine ⟨?_, ?_, ?_, ?_⟩
    · rw [eI 400 _ (by unfold wtA; omega) (by unfold wtA; omega) (by omega)]; exact b1
    · rw [eI 401 _ (by unfold wtA; omega) (by unfold wtA; omega) (by omega)]; exact b2
    · rw [eI 403 _ (by unfold wtA; omega) (by unfold wtA; omega) (by omega)]; exact b3
    · rw [eI 402 _ (by unfold wtA; omega) (by unfold wtA; omega) (by omega)]; exact b4
theorem WR_gf {α β : hp_T} {w : Nat} {f : Nat → Int32} (h : WR α w f) (hC : rC f) (g : gf w α β) : WR β w f := by
  obtain ⟨g1, g2, g3, g4, g5, g6⟩ := g
  exact WR_f2 h hC g1 g3 (fun φ b _ _ q => g5 φ b (by omega) (by omega)) (fun κ b j _ _ q => g6 κ b j (by omega) (by omega) (by omega))
