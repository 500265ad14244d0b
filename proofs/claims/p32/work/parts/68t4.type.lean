set_option maxRecDepth 100000
/-! ===== type: what it leaves, on both sides ===== -/
def ty_L (a b : Int32) : Nat → Int32 → List Int32
  | 0, _ => []
  | m + 1, v => if ty_l a b v = 0 then [] else ty_l a b v :: ty_L a b m (v + 1)
theorem ty_l31 (a b v : Int32) : (ty_l a b v).toInt < 32 := by
  unfold ty_l
  split
  · exact (and31 _).2
  · exact (and31 _).2
/-- letters handed so far -/
def LT46 (τ : ms_T) (l : List Int32) : Prop := ∀ j, j < l.length → some (ms_E τ 46 j) = l[j]?
def k4 (σ τ : ms_T) : Prop := ∀ κ, (κ == 40 || κ == 47) = true → ∀ j, ms_E τ κ j = ms_E σ κ j
theorem k4_sI {σ τ : ms_T} {φ : Nat} {v : Int32} (h : k4 σ τ) : k4 σ (ms_sI τ φ v) := h
theorem k4_sE {σ τ : ms_T} {κ i : Nat} {v : Int32} (hκ : (κ == 40 || κ == 47) = false) (h : k4 σ τ) : k4 σ (ms_sE τ κ i v) := fun ψ hψ j => by
  rw [mE_sE, if_neg (fun e => by rw [e.1, hκ] at hψ; cases hψ)]
  exact h ψ hψ j
theorem kq_k4 {σ τ : ms_T} (h : kq σ τ) : k4 σ τ := fun κ hκ j => h.2 κ (by
  have : κ = 40 ∨ κ = 47 := by simpa using hκ
  rcases this with rfl | rfl <;> rfl) j
def TPo (σ : ms_T) (L : List Int32) (res : Int32 × ms_T) : Prop := (res.1 = -1 ∧ kq σ res.2) ∨ (¬ res.1 = -1 ∧ TYS res.2 L ∧ k4 σ res.2)
theorem v_tyC (n : Nat) (σ : ms_T) (l : List Int32) (mI : Int32) (hl : l.length ≤ 8) (hm : mI.toInt = (l.length : Int)) : ∀ (k : Nat) (τ : ms_T) (v : Nat) (vI : Int32), vI.toInt = (v : Int) → LT46 τ l → k4 σ τ → (∀ j, j < v → j < l.length → some (ms_E τ 45 j) = l[j]?) → pr (f_X12_type_L102 n k τ mI vI) (fun res => TPo σ l res) := by
  intro k
  induction k with
  | zero => intro τ v vI _ _ _ _; rw [f_X12_type_L102.eq_1]; exact pr_0
  | succ k ih =>
    intro τ v vI hv hL h4 hc
    rw [f_X12_type_L102.eq_2]
    refine pr_le (fun e => pr_l (pr_s (Or.inr ⟨fun q => ?_, ⟨hl, ?_, fun j hj => ?_⟩, k4_sI h4⟩))) (fun e => pr_g (fun g0 g1 => pr_g (fun _ _ => pr_l (pr_l ?_))))
    · have q2 : mI = -1 := q
      rw [q2] at hm
      have : ((-1 : Int32)).toInt = -1 := by decide
      omega
    · show (ms_I (ms_sI τ 664 mI) 664).toInt = _
      rw [mI_sI, if_pos rfl]; exact hm
    · show some (ms_E (ms_sI τ 664 mI) 45 j) = _
      exact hc j (by omega) hj
    · rw [cl_n hv]
      have e1 : (vI + 1).toInt = ((v + 1 : Nat) : Int) := by rw [iw_add, lt1]; omega
      refine ih _ (v + 1) _ e1 (fun j hj => ?_) (k4_sE rfl h4) (fun j hj hj2 => ?_)
      · rw [mE_sE, if_neg (fun q => absurd q.1 (by decide))]; exact hL j hj
      · rw [mE_sE]
        by_cases e : j = v
        · rw [if_pos ⟨rfl, e⟩, ← e]; exact hL j hj2
        · rw [if_neg (fun q => e q.2)]; exact hc j (by omega) hj2
theorem v_tyL (n : Nat) (σ : ms_T) (a b : Int32) : ∀ (k : Nat) (τ : ms_T) (l : List Int32) (x y v : Int32), x.toInt = (l.length : Int) → l.length ≤ 8 → LT46 τ l → kq σ τ → (y = 0 ∨ (y = 1 ∧ v = x)) → pr (f_X12_type_L13 n k τ a b x y v) (fun res => TPo σ (if y = 0 then l else l ++ ty_L a b (8 - l.length) v) res) := by
  intro k
  induction k with
  | zero => intro τ l x y v _ _ _ _ _; rw [f_X12_type_L13.eq_1]; exact pr_0
  | succ k ih =>
    intro τ l x y v hx hl hL hq hy
    have L := lits
    rw [f_X12_type_L13.eq_2]
    have h9 : pr (f_X12_type_J99 n τ x) (fun res => TPo σ l res) := by
      unfold f_X12_type_J99
      exact v_tyC n σ l x hl hx n τ 0 0 rfl hL (kq_k4 hq) (fun j hj => by omega)
    rcases hy with hy | ⟨hy, hvx⟩
    · refine pr_m (P := fun res => TPo σ l res) ?_ (fun r h => by rw [if_pos hy]; exact h)
      exact pr_le (fun _ => h9) (fun _ => pr_i (fun _ => h9) (fun e => absurd hy e))
    · subst hy; subst hvx
      refine pr_m (P := fun res => TPo σ (l ++ ty_L a b (8 - l.length) v) res) ?_ (fun r h => by rw [if_neg (by decide)]; exact h)
      refine pr_le (fun h8 => ?_) (fun h8 => pr_i (fun e => absurd e (by decide)) (fun _ => ?_))
      · rw [show 8 - l.length = 0 by omega, ty_L, List.append_nil]
        exact h9
      · have hlt : l.length < 8 := by omega
        have hq8 : 8 - l.length = (8 - (l.length + 1)) + 1 := by omega
        have hJ : ∀ w, (((w).toUInt32 >>> ((((5 : Int32) * (v - v / (6 : Int32) * (6 : Int32)))).toUInt32 &&& Int32.toUInt32 31)).toInt32 &&& (31 : Int32)) = ty_l a b v → pr (f_X12_type_J37 n (f_X12_type_L13 n k) τ a b v v w) (fun res => TPo σ (l ++ ty_L a b (8 - l.length) v) res) := by
          intro w hw
          unfold f_X12_type_J37
          rw [hw]
          have h0 := ty_l0 a b v
          have hw8 : ∀ u : Int32, LT46 (ms_sE τ 46 v.toNatClampNeg u) l := fun u j hj => by
            rw [cl_n hx, mE_sE, if_neg (fun q => by omega)]; exact hL j hj
          refine pr_l (pr_le (fun h26 => pr_le (fun hz => ?_) (fun hz => ?_)) (fun h26 => pr_s (Or.inl ⟨rfl, hq⟩)))
          · have hz2 : ty_l a b v = 0 := Int32.toInt_inj.mp (by rw [lt0]; omega)
            unfold f_X12_type_J69 f_X12_type_J91
            refine pr_g (fun _ _ => pr_l (pr_i (fun _ => pr_l (pr_l ?_)) (fun e => absurd rfl e)))
            have := ih (ms_sE τ 46 v.toNatClampNeg (ty_l a b v)) l (v + 0) 0 (v + 1) (by rw [iw_add, lt0]; omega) hl (hw8 _) (kq_sE rfl hq) (Or.inl rfl)
            rw [if_pos rfl] at this
            rw [hq8, ty_L, if_pos hz2, List.append_nil]
            exact this
          · have hz2 : ¬ ty_l a b v = 0 := fun e => by rw [e, lt0] at hz; omega
            unfold f_X12_type_J69 f_X12_type_J91
            refine pr_g (fun _ _ => pr_l (pr_i (fun e => absurd e (by decide)) (fun _ => pr_l (pr_l ?_))))
            have e1 : (v + 1).toInt = ((l ++ [ty_l a b v]).length : Int) := by rw [iw_add, lt1, List.length_append]; simp; omega
            have := ih (ms_sE τ 46 v.toNatClampNeg (ty_l a b v)) (l ++ [ty_l a b v]) (v + 1) 1 (v + 1) e1 (by rw [List.length_append]; simp; omega) (fun j hj => ?_) (kq_sE rfl hq) (Or.inr ⟨rfl, rfl⟩)
            · rw [if_neg (by decide), List.length_append, List.append_assoc] at this
              rw [hq8, ty_L, if_neg hz2]
              exact this
            · rw [List.length_append] at hj
              simp only [List.length_cons, List.length_nil] at hj
              by_cases e : j < l.length
              · rw [hw8 _ j e, List.getElem?_append_left e]
              · have ej : j = l.length := by omega
                rw [cl_n hx, mE_sE, if_pos ⟨rfl, ej⟩, ej, List.getElem?_append_right (Nat.le_refl _), Nat.sub_self]
                rfl
        refine pr_le (fun h6 => hJ _ ?_) (fun h6 => hJ _ ?_)
        · rw [ty_v v (by omega) (by omega), if_pos (Int32.le_iff_toInt_le.mpr h6)]
          unfold ty_l
          rw [if_pos (Int32.le_iff_toInt_le.mpr h6)]
        · have h7 : ¬ (6 : Int32) ≤ v := fun e => by have := il_le e; omega
          rw [ty_v v (by omega) (by omega), if_neg h7]
          unfold ty_l
          rw [if_neg h7]
theorem v_type2 (n : Nat) (σ : ms_T) (a b : Int32) : pr (f_X12_type n σ a b) (fun res => TPo σ (ty_L a b 8 0) res) := by
  unfold f_X12_type
  have := v_tyL n σ a b n (ms_sI σ 653 0) [] 0 1 0 rfl (by simp) (fun j hj => absurd hj (by simp)) (kq_sI rfl kq_rf) (Or.inr ⟨rfl, rfl⟩)
  rw [if_neg (by decide), List.nil_append] at this
  exact pr_l this
def CPo (uw x : Nat) (α : hp_T) (L : List Int32) (res : Int32 × hp_T) : Prop := (res.1 = -1 ∧ df uw α res.2) ∨ (¬ res.1 = -1 ∧ ∃ γ, df uw α γ ∧ WD γ uw L ∧ res.2 = hp_sR (hp_sR γ 606 x uw) 607 x (hp_R γ 606 x))
theorem k_tyL (n : Nat) (x uw : Nat) (a b : Int32) (α0 : hp_T) (hu : hp_R α0 607 x = uw) : ∀ (k : Nat) (α : hp_T) (l : List Int32) (v : Int32), df uw α0 α → WD α uw l → v.toInt = (l.length : Int) → 9 - l.length ≤ k → ws (f_X11_type_L9 n x k α a b v) (fun res => CPo uw x α0 (l ++ ty_L a b (8 - l.length) v) res) := by
  intro k
  induction k with
  | zero => intro α l v hd hW hv hk; have := hW.1; omega
  | succ k ih =>
    intro α l v hd hW hv hk
    have L := lits
    have hl := hW.1
    have hu2 : hp_R α 607 x = uw := by rw [hd.1]; exact hu
    rw [f_X11_type_L9.eq_2]
    have h7 : ws (f_X11_type_J77 n x α) (fun res => CPo uw x α0 l res) := by
      unfold f_X11_type_J77
      refine ws_l (ws_l (ws_l (ws_l (ws_l (ws_l (ws_s (Or.inr ⟨fun q => ?_, α, hd, hW, ?_⟩)))))))
      · rw [hu2] at q
        have q2 : hp_I α 501 (hp_R (hp_sR (hp_sR α 606 x uw) 607 x (hp_R α 606 x)) 606 x) = -1 := q
        rw [hR_sR, if_neg (fun h => absurd h.1 (by decide)), hR_sR, if_pos ⟨rfl, rfl⟩] at q2
        have h5 := hW.2.1
        rw [q2] at h5
        have : ((-1 : Int32)).toInt = -1 := by decide
        omega
      · rw [hu2]
    refine ws_le (fun h8 => ?_) (fun h8 => ?_)
    · rw [show 8 - l.length = 0 by omega, ty_L, List.append_nil]
      exact h7
    · have hq8 : 8 - l.length = (8 - (l.length + 1)) + 1 := by omega
      have hJ : ∀ w, w = ty_l a b v → ws (f_X11_type_J43 n x (f_X11_type_L9 n x k) α a b v w) (fun res => CPo uw x α0 (l ++ ty_L a b (8 - l.length) v) res) := by
        intro w hw
        subst hw
        unfold f_X11_type_J43
        rw [hq8, ty_L]
        refine ws_i (fun hz => ?_) (fun hz => ?_)
        · rw [if_pos hz, List.append_nil]; exact h7
        · rw [if_neg hz]
          refine ws_i (fun h26 => ?_) (fun h26 => ws_s (Or.inl ⟨rfl, hd⟩))
          have h26' := il_le h26
          refine ws_l ?_
          rw [hu2]
          refine ws_b (k_wput n hW (by omega) _ (ty_l0 a b v) (by have := ty_l31 a b v; omega)) (fun β hβ => ws_l ?_)
          have e1 : (v + 1).toInt = ((l ++ [ty_l a b v]).length : Int) := by rw [iw_add, lt1, List.length_append]; simp; omega
          have := ih β (l ++ [ty_l a b v]) (v + 1) (df_tr hd hβ.2) hβ.1 e1 (by rw [List.length_append]; simp; omega)
          rw [List.length_append, List.append_assoc] at this
          exact this
      refine ws_le (fun h6 => hJ _ ?_) (fun h6 => hJ _ ?_)
      · unfold ty_l
        rw [if_pos (Int32.le_iff_toInt_le.mpr h6)]
      · unfold ty_l
        rw [if_neg (fun e => by have := il_le e; omega)]
theorem k_type2 (n : Nat) (hn : 70000 ≤ n) (α : hp_T) (x : Nat) (a b : Int32) : ws (f_X11_type n α x a b) (fun res => CPo (hp_R α 607 x) x α (ty_L a b 8 0) res) := by
  unfold f_X11_type
  refine ws_l (ws_b (k_wclear n α (hp_R α 607 x)) (fun β hβ => ?_))
  have := k_tyL n x (hp_R α 607 x) a b α rfl n β [] 0 hβ.2 hβ.1 rfl (by simp; omega)
  rw [List.nil_append] at this
  exact this
