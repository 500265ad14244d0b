def F_X5_init_0 (α : hp_T) (h a0 : Nat) : hp_T := α
def F_X5_init_1 (α : hp_T) (h a0 : Nat) : hp_T := hp_nw (F_X5_init_0 α h a0) (h + (0)) 20
def F_X5_init_2 (α : hp_T) (h a0 : Nat) : hp_T := hp_sN (F_X5_init_1 α h a0) 300 a0 (some (h + (0)))
def F_X5_init_3 (α : hp_T) (h a0 : Nat) : hp_T := hp_sI (F_X5_init_2 α h a0) 301 a0 0
def F_X5_init (α : hp_T) (h a0 : Nat) : hp_T := hp_cv (F_X5_init_3 α h a0) a0 6
set_option maxRecDepth 100000 in
set_option maxHeartbeats 4000000 in
theorem u_X5_init (Γ : hp_G) (l : Launch) (α : hp_T) (g : GC α) (Hs : Heap) (a0 : Nat) (k0 : hp_K α a0 = 106) (z0 : ∀ φ, hp_I α φ a0 = 0) : Met l yX5_init (hp_ws yX5_init cX5_init 1 none) (hp_rm 1 1 64) (hp_PcH Γ α Hs [.ref a0]) (hp_QZ Γ (Hs.size + 1) (fun β => (gx a0 α β ∧ hp_K β a0 = 6 ∧ (∀ q ∈ ([(301, 0)] : List (Nat × Int32)), hp_I β q.1 a0 = q.2)) ∧ β = F_X5_init α Hs.size a0)) 1 64 (hp_A Γ) := by
  refine hp_startZ (by decide) ?_
  intro p e s m below meth c C hr hlk B0 hnm hHs
  have Z : s.heap.size = Hs.size + 0 := by rw [hHs]; rfl
  have E : α = F_X5_init_0 α Hs.size a0 := rfl
  have C : hp_C Γ p m c cX5_init 1 s ([.ref a0] : List Value).toArray RX5 := C
  have hx := C.1.1
  have hb := C.1.2.1
  have hown := C.1.2.2.2.1
  have hts := C.1.2.2.2.2
  have B : hp_B Γ (gx a0) s α α s.heap [] := ⟨B0.1, B0.2.1, gx_rf g⟩
  have O : co α a0 6 α [] [] := co_0 k0 z0
  have hl := lv_entry ([.ref a0]) (n := 1) (Nat.le_of_ble_eq_true rfl)
  show W p l e (hp_rm 1 1 64) s m ([.ref a0] : List Value).toArray below meth c s.heap [] 0 0 (MQ below (hp_QZ Γ (Hs.size + 1) (fun β => (gx a0 α β ∧ hp_K β a0 = 6 ∧ (∀ q ∈ ([(301, 0)] : List (Nat × Int32)), hp_I β q.1 a0 = q.2)) ∧ β = F_X5_init α Hs.size a0)) ([.ref a0] : List Value).toArray s 1 64 (hp_A Γ)) (entryFrame m ([.ref a0] : List Value).toArray 1)
  rw [lg_entry_eq]
  generalize (lg_sl ([.ref a0]) ++ List.replicate (1 - (lg_sl ([.ref a0])).length) Slot.unset).toArray = ls at hl ⊢
  have hl : lv_has ls 1 [(0, .ref a0)] := hl
  refine lv_aload_n hx hb dX5_init_0 rfl (lv_at hl 0 rfl) (hp_n (n := 1) rfl ?_)
  refine q_obj (pc' := 4) C ol_X5 hl.1 rfl (by decide) dX5_init_1 rfl ?_
  refine lv_aload_n hx hb dX5_init_4 rfl (lv_at hl 0 rfl) (hp_n (n := 5) rfl ?_)
  refine lv_bipush (v := 64) hx hb dX5_init_5 (by decide) (hp_n (n := 7) rfl ?_)
  refine q_newaZ (κ := 20) (t := 0) (n := 64) (atype := .int) (ty := .int) (dv := .int 0) (pc' := 9) C B ac_int rfl (by decide) rfl rfl (fun _ _ q => q) rfl (fun _ cA => nw_cx (by decide) cA) (by decide) (by decide +kernel) (Nat.le_of_ble_eq_true rfl) rfl (Nat.le_of_ble_eq_true rfl) (Nat.le_of_ble_eq_true rfl) dX5_init_7 rfl (fun q hq => gx_nw B.2.2 (by decide) hq) (fun βh1 ah1 Hh1 fh1 wh1 yh1 eh1 Bh1 => ?_)
  have uh1 : ah1 = Hs.size + (0) := by rw [wh1, Z]
  have nh1 := gx_new B.2.2 O fh1
  have Oh1 : co α a0 6 βh1 [] [] := by rw [eh1]; exact co_nw O fh1
  have kh1 : hp_K βh1 ah1 = 20 := by rw [eh1]; exact nw_k
  have Eh1 : βh1 = (F_X5_init_1 α Hs.size a0) := by rw [eh1, E, uh1]; try rfl
  have Zh1 : Hh1.size = Hs.size + (1) := zzk yh1 Z rfl
  refine W.widen (k := 1) (n := 64) (Nat.le_of_ble_eq_true rfl) (Nat.le_of_ble_eq_true rfl) ?_
  refine q_putnFZ (κ := 106) (k := 0) (φ := 300) (pc' := 12) C Bh1 Oh1.1 fl_X5_9 rfl rfl rfl hnm rfl rfl rfl rfl (gx_sN Bh1.2.2 Oh1) dX5_init_9 rfl (fun βh2 Hh2 Lh2 eh2 yh2 Bh2 => ?_)
  have Oh2 : co α a0 6 βh2 [300] [] := by rw [eh2]; exact co_sN Oh1 ⟨(Or.inl (by rw [kh1]; rfl)), by rw [kh1]; decide, by rw [kh1]; decide, nh1.1, (fun _ j => by rw [eh1]; exact nw_e)⟩
  have Eh2 : βh2 = (F_X5_init_2 α Hs.size a0) := by rw [eh2, Eh1, uh1]; try rfl
  have Zh2 : Hh2.size = Hs.size + (1) := yh2.trans Zh1
  refine lv_aload_n hx hb dX5_init_12 rfl (lv_at hl 0 rfl) (hp_n (n := 13) rfl ?_)
  refine lv_iconst (v := 0) hx hb dX5_init_13 (by decide) (hp_n (n := 14) rfl ?_)
  refine q_putiZ (κ := 106) (k := 1) (φ := 301) (pc' := 17) C Bh2 Oh2.1 fl_X5_15 rfl rfl rfl rfl rfl rfl (gx_sI Bh2.2.2 (gc_i0 _)) dX5_init_14 rfl (fun βh3 Hh3 Lh3 eh3 yh3 Bh3 => ?_)
  have Oh3 : co α a0 6 βh3 [300] [(301, 0)] := by rw [eh3]; exact co_sI Oh2 (by decide)
  have Eh3 : βh3 = (F_X5_init_3 α Hs.size a0) := by rw [eh3, Eh2]; try rfl
  have Zh3 : Hh3.size = Hs.size + (1) := yh3.trans Zh2
  obtain ⟨Bh4, kh4, fh4, -⟩ := co_fin Bh3 Oh3 (by decide) (by decide) (by decide) (fun q => absurd q (by decide))
  refine W.widen (k := 1) (n := 64) (Nat.le_of_ble_eq_true rfl) (Nat.le_of_ble_eq_true rfl) ?_
  exact q_vretZ C Bh4 Zh3 hr hlk ⟨⟨Bh4.2.2, kh4, fh4⟩, by rw [Eh3]; try rfl⟩ dX5_init_17
def F_X9_init_0 (α : hp_T) (h a0 : Nat) : hp_T := α
def F_X9_init_1 (α : hp_T) (h a0 : Nat) : hp_T := hp_nw (F_X9_init_0 α h a0) (h + (0)) 27
def F_X9_init_2 (α : hp_T) (h a0 : Nat) : hp_T := hp_sN (F_X9_init_1 α h a0) 500 a0 (some (h + (0)))
def F_X9_init_3 (α : hp_T) (h a0 : Nat) : hp_T := hp_sI (F_X9_init_2 α h a0) 501 a0 0
def F_X9_init (α : hp_T) (h a0 : Nat) : hp_T := hp_cv (F_X9_init_3 α h a0) a0 10
set_option maxRecDepth 100000 in
set_option maxHeartbeats 4000000 in
theorem u_X9_init (Γ : hp_G) (l : Launch) (α : hp_T) (g : GC α) (Hs : Heap) (a0 : Nat) (k0 : hp_K α a0 = 110) (z0 : ∀ φ, hp_I α φ a0 = 0) : Met l yX9_init (hp_ws yX9_init cX9_init 1 none) (hp_rm 1 1 8) (hp_PcH Γ α Hs [.ref a0]) (hp_QZ Γ (Hs.size + 1) (fun β => (gx a0 α β ∧ hp_K β a0 = 10 ∧ (∀ q ∈ ([(501, 0)] : List (Nat × Int32)), hp_I β q.1 a0 = q.2)) ∧ β = F_X9_init α Hs.size a0)) 1 8 (hp_A Γ) := by
  refine hp_startZ (by decide) ?_
  intro p e s m below meth c C hr hlk B0 hnm hHs
  have Z : s.heap.size = Hs.size + 0 := by rw [hHs]; rfl
  have E : α = F_X9_init_0 α Hs.size a0 := rfl
  have C : hp_C Γ p m c cX9_init 1 s ([.ref a0] : List Value).toArray RX9 := C
  have hx := C.1.1
  have hb := C.1.2.1
  have hown := C.1.2.2.2.1
  have hts := C.1.2.2.2.2
  have B : hp_B Γ (gx a0) s α α s.heap [] := ⟨B0.1, B0.2.1, gx_rf g⟩
  have O : co α a0 10 α [] [] := co_0 k0 z0
  have hl := lv_entry ([.ref a0]) (n := 1) (Nat.le_of_ble_eq_true rfl)
  show W p l e (hp_rm 1 1 8) s m ([.ref a0] : List Value).toArray below meth c s.heap [] 0 0 (MQ below (hp_QZ Γ (Hs.size + 1) (fun β => (gx a0 α β ∧ hp_K β a0 = 10 ∧ (∀ q ∈ ([(501, 0)] : List (Nat × Int32)), hp_I β q.1 a0 = q.2)) ∧ β = F_X9_init α Hs.size a0)) ([.ref a0] : List Value).toArray s 1 8 (hp_A Γ)) (entryFrame m ([.ref a0] : List Value).toArray 1)
  rw [lg_entry_eq]
  generalize (lg_sl ([.ref a0]) ++ List.replicate (1 - (lg_sl ([.ref a0])).length) Slot.unset).toArray = ls at hl ⊢
  have hl : lv_has ls 1 [(0, .ref a0)] := hl
  refine lv_aload_n hx hb dX9_init_0 rfl (lv_at hl 0 rfl) (hp_n (n := 1) rfl ?_)
  refine q_obj (pc' := 4) C ol_X9 hl.1 rfl (by decide) dX9_init_1 rfl ?_
  refine lv_aload_n hx hb dX9_init_4 rfl (lv_at hl 0 rfl) (hp_n (n := 5) rfl ?_)
  refine lv_bipush (v := 8) hx hb dX9_init_5 (by decide) (hp_n (n := 7) rfl ?_)
  refine q_newaZ (κ := 27) (t := 1) (n := 8) (atype := .byte) (ty := .byte) (dv := .int 0) (pc' := 9) C B ac_byte rfl (by decide) rfl rfl (fun _ _ q => q) rfl (fun _ cA => nw_cx (by decide) cA) (by decide) (by decide +kernel) (Nat.le_of_ble_eq_true rfl) rfl (Nat.le_of_ble_eq_true rfl) (Nat.le_of_ble_eq_true rfl) dX9_init_7 rfl (fun q hq => gx_nw B.2.2 (by decide) hq) (fun βh1 ah1 Hh1 fh1 wh1 yh1 eh1 Bh1 => ?_)
  have uh1 : ah1 = Hs.size + (0) := by rw [wh1, Z]
  have nh1 := gx_new B.2.2 O fh1
  have Oh1 : co α a0 10 βh1 [] [] := by rw [eh1]; exact co_nw O fh1
  have kh1 : hp_K βh1 ah1 = 27 := by rw [eh1]; exact nw_k
  have Eh1 : βh1 = (F_X9_init_1 α Hs.size a0) := by rw [eh1, E, uh1]; try rfl
  have Zh1 : Hh1.size = Hs.size + (1) := zzk yh1 Z rfl
  refine W.widen (k := 1) (n := 8) (Nat.le_of_ble_eq_true rfl) (Nat.le_of_ble_eq_true rfl) ?_
  refine q_putnFZ (κ := 110) (k := 0) (φ := 500) (pc' := 12) C Bh1 Oh1.1 fl_X9_9 rfl rfl rfl hnm rfl rfl rfl rfl (gx_sN Bh1.2.2 Oh1) dX9_init_9 rfl (fun βh2 Hh2 Lh2 eh2 yh2 Bh2 => ?_)
  have Oh2 : co α a0 10 βh2 [500] [] := by rw [eh2]; exact co_sN Oh1 ⟨(Or.inl (by rw [kh1]; rfl)), by rw [kh1]; decide, by rw [kh1]; decide, nh1.1, (fun _ j => by rw [eh1]; exact nw_e)⟩
  have Eh2 : βh2 = (F_X9_init_2 α Hs.size a0) := by rw [eh2, Eh1, uh1]; try rfl
  have Zh2 : Hh2.size = Hs.size + (1) := yh2.trans Zh1
  refine lv_aload_n hx hb dX9_init_12 rfl (lv_at hl 0 rfl) (hp_n (n := 13) rfl ?_)
  refine lv_iconst (v := 0) hx hb dX9_init_13 (by decide) (hp_n (n := 14) rfl ?_)
  refine q_putiZ (κ := 110) (k := 1) (φ := 501) (pc' := 17) C Bh2 Oh2.1 fl_X9_15 rfl rfl rfl rfl rfl rfl (gx_sI Bh2.2.2 (gc_i0 _)) dX9_init_14 rfl (fun βh3 Hh3 Lh3 eh3 yh3 Bh3 => ?_)
  have Oh3 : co α a0 10 βh3 [500] [(501, 0)] := by rw [eh3]; exact co_sI Oh2 (by decide)
  have Eh3 : βh3 = (F_X9_init_3 α Hs.size a0) := by rw [eh3, Eh2]; try rfl
  have Zh3 : Hh3.size = Hs.size + (1) := yh3.trans Zh2
  obtain ⟨Bh4, kh4, fh4, -⟩ := co_fin Bh3 Oh3 (by decide) (by decide) (by decide) (fun q => absurd q (by decide))
  refine W.widen (k := 1) (n := 8) (Nat.le_of_ble_eq_true rfl) (Nat.le_of_ble_eq_true rfl) ?_
  exact q_vretZ C Bh4 Zh3 hr hlk ⟨⟨Bh4.2.2, kh4, fh4⟩, by rw [Eh3]; try rfl⟩ dX9_init_17
def F_X7_init_0 (α : hp_T) (h a0 : Nat) : hp_T := α
def F_X7_init_1 (α : hp_T) (h a0 : Nat) : hp_T := hp_sI (F_X7_init_0 α h a0) 400 a0 0
def F_X7_init_2 (α : hp_T) (h a0 : Nat) : hp_T := hp_sI (F_X7_init_1 α h a0) 401 a0 0
def F_X7_init_3 (α : hp_T) (h a0 : Nat) : hp_T := hp_sI (F_X7_init_2 α h a0) 402 a0 0
def F_X7_init_4 (α : hp_T) (h a0 : Nat) : hp_T := hp_sI (F_X7_init_3 α h a0) 403 a0 0
def F_X7_init (α : hp_T) (h a0 : Nat) : hp_T := hp_cv (F_X7_init_4 α h a0) a0 8
set_option maxRecDepth 100000 in
set_option maxHeartbeats 4000000 in
theorem u_X7_init (Γ : hp_G) (l : Launch) (α : hp_T) (g : GC α) (Hs : Heap) (a0 : Nat) (k0 : hp_K α a0 = 108) (z0 : ∀ φ, hp_I α φ a0 = 0) : Met l yX7_init (hp_ws yX7_init cX7_init 1 none) (hp_rm 1 0 0) (hp_PcH Γ α Hs [.ref a0]) (hp_QZ Γ (Hs.size + 0) (fun β => (gx a0 α β ∧ hp_K β a0 = 8 ∧ (∀ q ∈ ([(403, 0), (402, 0), (401, 0), (400, 0)] : List (Nat × Int32)), hp_I β q.1 a0 = q.2)) ∧ β = F_X7_init α Hs.size a0)) 0 0 (hp_A Γ) := by
  refine hp_startZ (by decide) ?_
  intro p e s m below meth c C hr hlk B0 hnm hHs
  have Z : s.heap.size = Hs.size + 0 := by rw [hHs]; rfl
  have E : α = F_X7_init_0 α Hs.size a0 := rfl
  have C : hp_C Γ p m c cX7_init 1 s ([.ref a0] : List Value).toArray RX7 := C
  have hx := C.1.1
  have hb := C.1.2.1
  have hown := C.1.2.2.2.1
  have hts := C.1.2.2.2.2
  have B : hp_B Γ (gx a0) s α α s.heap [] := ⟨B0.1, B0.2.1, gx_rf g⟩
  have O : co α a0 8 α [] [] := co_0 k0 z0
  have hl := lv_entry ([.ref a0]) (n := 1) (Nat.le_of_ble_eq_true rfl)
  show W p l e (hp_rm 1 0 0) s m ([.ref a0] : List Value).toArray below meth c s.heap [] 0 0 (MQ below (hp_QZ Γ (Hs.size + 0) (fun β => (gx a0 α β ∧ hp_K β a0 = 8 ∧ (∀ q ∈ ([(403, 0), (402, 0), (401, 0), (400, 0)] : List (Nat × Int32)), hp_I β q.1 a0 = q.2)) ∧ β = F_X7_init α Hs.size a0)) ([.ref a0] : List Value).toArray s 0 0 (hp_A Γ)) (entryFrame m ([.ref a0] : List Value).toArray 1)
  rw [lg_entry_eq]
  generalize (lg_sl ([.ref a0]) ++ List.replicate (1 - (lg_sl ([.ref a0])).length) Slot.unset).toArray = ls at hl ⊢
  have hl : lv_has ls 1 [(0, .ref a0)] := hl
  refine lv_aload_n hx hb dX7_init_0 rfl (lv_at hl 0 rfl) (hp_n (n := 1) rfl ?_)
  refine q_obj (pc' := 4) C ol_X7 hl.1 rfl (by decide) dX7_init_1 rfl ?_
  refine lv_aload_n hx hb dX7_init_4 rfl (lv_at hl 0 rfl) (hp_n (n := 5) rfl ?_)
  refine lv_iconst (v := 0) hx hb dX7_init_5 (by decide) (hp_n (n := 6) rfl ?_)
  refine q_putiZ (κ := 108) (k := 0) (φ := 400) (pc' := 9) C B O.1 fl_X7_9 rfl rfl rfl rfl rfl rfl (gx_sI B.2.2 (gc_i0 _)) dX7_init_6 rfl (fun βh1 Hh1 Lh1 eh1 yh1 Bh1 => ?_)
  have Oh1 : co α a0 8 βh1 [] [(400, 0)] := by rw [eh1]; exact co_sI O (by decide)
  have Eh1 : βh1 = (F_X7_init_1 α Hs.size a0) := by rw [eh1, E]; try rfl
  have Zh1 : Hh1.size = Hs.size + (0) := yh1.trans Z
  refine lv_aload_n hx hb dX7_init_9 rfl (lv_at hl 0 rfl) (hp_n (n := 10) rfl ?_)
  refine lv_iconst (v := 0) hx hb dX7_init_10 (by decide) (hp_n (n := 11) rfl ?_)
  refine q_putiZ (κ := 108) (k := 1) (φ := 401) (pc' := 14) C Bh1 Oh1.1 fl_X7_15 rfl rfl rfl rfl rfl rfl (gx_sI Bh1.2.2 (gc_i0 _)) dX7_init_11 rfl (fun βh2 Hh2 Lh2 eh2 yh2 Bh2 => ?_)
  have Oh2 : co α a0 8 βh2 [] [(401, 0), (400, 0)] := by rw [eh2]; exact co_sI Oh1 (by decide)
  have Eh2 : βh2 = (F_X7_init_2 α Hs.size a0) := by rw [eh2, Eh1]; try rfl
  have Zh2 : Hh2.size = Hs.size + (0) := yh2.trans Zh1
  refine lv_aload_n hx hb dX7_init_14 rfl (lv_at hl 0 rfl) (hp_n (n := 15) rfl ?_)
  refine lv_iconst (v := 0) hx hb dX7_init_15 (by decide) (hp_n (n := 16) rfl ?_)
  refine q_putiZ (κ := 108) (k := 2) (φ := 402) (pc' := 19) C Bh2 Oh2.1 fl_X7_18 rfl rfl rfl rfl rfl rfl (gx_sI Bh2.2.2 (gc_i0 _)) dX7_init_16 rfl (fun βh3 Hh3 Lh3 eh3 yh3 Bh3 => ?_)
  have Oh3 : co α a0 8 βh3 [] [(402, 0), (401, 0), (400, 0)] := by rw [eh3]; exact co_sI Oh2 (by decide)
  have Eh3 : βh3 = (F_X7_init_3 α Hs.size a0) := by rw [eh3, Eh2]; try rfl
  have Zh3 : Hh3.size = Hs.size + (0) := yh3.trans Zh2
  refine lv_aload_n hx hb dX7_init_19 rfl (lv_at hl 0 rfl) (hp_n (n := 20) rfl ?_)
  refine lv_iconst (v := 0) hx hb dX7_init_20 (by decide) (hp_n (n := 21) rfl ?_)
  refine q_putiZ (κ := 108) (k := 3) (φ := 403) (pc' := 24) C Bh3 Oh3.1 fl_X7_21 rfl rfl rfl rfl rfl rfl (gx_sI Bh3.2.2 (gc_i0 _)) dX7_init_21 rfl (fun βh4 Hh4 Lh4 eh4 yh4 Bh4 => ?_)
  have Oh4 : co α a0 8 βh4 [] [(403, 0), (402, 0), (401, 0), (400, 0)] := by rw [eh4]; exact co_sI Oh3 (by decide)
  have Eh4 : βh4 = (F_X7_init_4 α Hs.size a0) := by rw [eh4, Eh3]; try rfl
  have Zh4 : Hh4.size = Hs.size + (0) := yh4.trans Zh3
  obtain ⟨Bh5, kh5, fh5, -⟩ := co_fin Bh4 Oh4 (by decide) (by decide) (by decide) (fun q => absurd q (by decide))
  refine W.widen (k := 0) (n := 0) (Nat.le_of_ble_eq_true rfl) (Nat.le_of_ble_eq_true rfl) ?_
  exact q_vretZ C Bh5 Zh4 hr hlk ⟨⟨Bh5.2.2, kh5, fh5⟩, by rw [Eh4]; try rfl⟩ dX7_init_24
def F_X8_init_0 (α : hp_T) (h a0 : Nat) : hp_T := α
def F_X8_init_1 (α : hp_T) (h a0 : Nat) : hp_T := hp_nw (F_X8_init_0 α h a0) (h + (0)) 21
def F_X8_init_2 (α : hp_T) (h a0 : Nat) : hp_T := hp_sN (F_X8_init_1 α h a0) 450 a0 (some (h + (0)))
def F_X8_init_3 (α : hp_T) (h a0 : Nat) : hp_T := hp_nw (F_X8_init_2 α h a0) (h + (1)) 22
def F_X8_init_4 (α : hp_T) (h a0 : Nat) : hp_T := hp_sN (F_X8_init_3 α h a0) 451 a0 (some (h + (1)))
def F_X8_init_5 (α : hp_T) (h a0 : Nat) : hp_T := hp_nw (F_X8_init_4 α h a0) (h + (2)) 23
def F_X8_init_6 (α : hp_T) (h a0 : Nat) : hp_T := hp_sN (F_X8_init_5 α h a0) 452 a0 (some (h + (2)))
def F_X8_init_7 (α : hp_T) (h a0 : Nat) : hp_T := hp_sI (F_X8_init_6 α h a0) 453 a0 0
def F_X8_init_8 (α : hp_T) (h a0 : Nat) : hp_T := hp_sI (F_X8_init_7 α h a0) 454 a0 0
def F_X8_init (α : hp_T) (h a0 : Nat) : hp_T := hp_cv (F_X8_init_8 α h a0) a0 9
set_option maxRecDepth 100000 in
set_option maxHeartbeats 4000000 in
theorem u_X8_init (Γ : hp_G) (l : Launch) (α : hp_T) (g : GC α) (Hs : Heap) (a0 : Nat) (k0 : hp_K α a0 = 109) (z0 : ∀ φ, hp_I α φ a0 = 0) : Met l yX8_init (hp_ws yX8_init cX8_init 1 none) (hp_rm 1 3 192) (hp_PcH Γ α Hs [.ref a0]) (hp_QZ Γ (Hs.size + 3) (fun β => (gx a0 α β ∧ hp_K β a0 = 9 ∧ (∀ q ∈ ([(454, 0), (453, 0)] : List (Nat × Int32)), hp_I β q.1 a0 = q.2)) ∧ β = F_X8_init α Hs.size a0)) 3 192 (hp_A Γ) := by
  refine hp_startZ (by decide) ?_
  intro p e s m below meth c C hr hlk B0 hnm hHs
  have Z : s.heap.size = Hs.size + 0 := by rw [hHs]; rfl
  have E : α = F_X8_init_0 α Hs.size a0 := rfl
  have C : hp_C Γ p m c cX8_init 1 s ([.ref a0] : List Value).toArray RX8 := C
  have hx := C.1.1
  have hb := C.1.2.1
  have hown := C.1.2.2.2.1
  have hts := C.1.2.2.2.2
  have B : hp_B Γ (gx a0) s α α s.heap [] := ⟨B0.1, B0.2.1, gx_rf g⟩
  have O : co α a0 9 α [] [] := co_0 k0 z0
  have hl := lv_entry ([.ref a0]) (n := 1) (Nat.le_of_ble_eq_true rfl)
  show W p l e (hp_rm 1 3 192) s m ([.ref a0] : List Value).toArray below meth c s.heap [] 0 0 (MQ below (hp_QZ Γ (Hs.size + 3) (fun β => (gx a0 α β ∧ hp_K β a0 = 9 ∧ (∀ q ∈ ([(454, 0), (453, 0)] : List (Nat × Int32)), hp_I β q.1 a0 = q.2)) ∧ β = F_X8_init α Hs.size a0)) ([.ref a0] : List Value).toArray s 3 192 (hp_A Γ)) (entryFrame m ([.ref a0] : List Value).toArray 1)
  rw [lg_entry_eq]
  generalize (lg_sl ([.ref a0]) ++ List.replicate (1 - (lg_sl ([.ref a0])).length) Slot.unset).toArray = ls at hl ⊢
  have hl : lv_has ls 1 [(0, .ref a0)] := hl
  refine lv_aload_n hx hb dX8_init_0 rfl (lv_at hl 0 rfl) (hp_n (n := 1) rfl ?_)
  refine q_obj (pc' := 4) C ol_X8 hl.1 rfl (by decide) dX8_init_1 rfl ?_
  refine lv_aload_n hx hb dX8_init_4 rfl (lv_at hl 0 rfl) (hp_n (n := 5) rfl ?_)
  refine lv_bipush (v := 64) hx hb dX8_init_5 (by decide) (hp_n (n := 7) rfl ?_)
  refine q_newaZ (κ := 21) (t := 0) (n := 64) (atype := .int) (ty := .int) (dv := .int 0) (pc' := 9) C B ac_int rfl (by decide) rfl rfl (fun _ _ q => q) rfl (fun _ cA => nw_cx (by decide) cA) (by decide) (by decide +kernel) (Nat.le_of_ble_eq_true rfl) rfl (Nat.le_of_ble_eq_true rfl) (Nat.le_of_ble_eq_true rfl) dX8_init_7 rfl (fun q hq => gx_nw B.2.2 (by decide) hq) (fun βh1 ah1 Hh1 fh1 wh1 yh1 eh1 Bh1 => ?_)
  have uh1 : ah1 = Hs.size + (0) := by rw [wh1, Z]
  have nh1 := gx_new B.2.2 O fh1
  have Oh1 : co α a0 9 βh1 [] [] := by rw [eh1]; exact co_nw O fh1
  have kh1 : hp_K βh1 ah1 = 21 := by rw [eh1]; exact nw_k
  have Eh1 : βh1 = (F_X8_init_1 α Hs.size a0) := by rw [eh1, E, uh1]; try rfl
  have Zh1 : Hh1.size = Hs.size + (1) := zzk yh1 Z rfl
  refine W.widen (k := 1) (n := 64) (Nat.le_of_ble_eq_true rfl) (Nat.le_of_ble_eq_true rfl) ?_
  refine q_putnFZ (κ := 109) (k := 0) (φ := 450) (pc' := 12) C Bh1 Oh1.1 fl_X8_9 rfl rfl rfl hnm rfl rfl rfl rfl (gx_sN Bh1.2.2 Oh1) dX8_init_9 rfl (fun βh2 Hh2 Lh2 eh2 yh2 Bh2 => ?_)
  have Oh2 : co α a0 9 βh2 [450] [] := by rw [eh2]; exact co_sN Oh1 ⟨(Or.inl (by rw [kh1]; rfl)), by rw [kh1]; decide, by rw [kh1]; decide, nh1.1, (fun _ j => by rw [eh1]; exact nw_e)⟩
  have Eh2 : βh2 = (F_X8_init_2 α Hs.size a0) := by rw [eh2, Eh1, uh1]; try rfl
  have Zh2 : Hh2.size = Hs.size + (1) := yh2.trans Zh1
  refine lv_aload_n hx hb dX8_init_12 rfl (lv_at hl 0 rfl) (hp_n (n := 13) rfl ?_)
  refine lv_bipush (v := 64) hx hb dX8_init_13 (by decide) (hp_n (n := 15) rfl ?_)
  refine q_newaZ (κ := 22) (t := 0) (n := 64) (atype := .int) (ty := .int) (dv := .int 0) (pc' := 17) C Bh2 ac_int rfl (by decide) rfl rfl (fun _ _ q => q) rfl (fun _ cA => nw_cx (by decide) cA) (by decide) (by decide +kernel) (Nat.le_of_ble_eq_true rfl) rfl (Nat.le_of_ble_eq_true rfl) (Nat.le_of_ble_eq_true rfl) dX8_init_15 rfl (fun q hq => gx_nw Bh2.2.2 (by decide) hq) (fun βh3 ah3 Hh3 fh3 wh3 yh3 eh3 Bh3 => ?_)
  have uh3 : ah3 = Hs.size + (1) := by rw [wh3, Zh2]
  have nh3 := gx_new Bh2.2.2 Oh2 fh3
  have Oh3 : co α a0 9 βh3 [450] [] := by rw [eh3]; exact co_nw Oh2 fh3
  have kh3 : hp_K βh3 ah3 = 22 := by rw [eh3]; exact nw_k
  have Eh3 : βh3 = (F_X8_init_3 α Hs.size a0) := by rw [eh3, Eh2, uh3]; try rfl
  have Zh3 : Hh3.size = Hs.size + (2) := zzk yh3 Zh2 rfl
  refine W.widen (k := 2) (n := 128) (Nat.le_of_ble_eq_true rfl) (Nat.le_of_ble_eq_true rfl) ?_
  refine q_putnFZ (κ := 109) (k := 1) (φ := 451) (pc' := 20) C Bh3 Oh3.1 fl_X8_15 rfl rfl rfl hnm rfl rfl rfl rfl (gx_sN Bh3.2.2 Oh3) dX8_init_17 rfl (fun βh4 Hh4 Lh4 eh4 yh4 Bh4 => ?_)
  have Oh4 : co α a0 9 βh4 [451, 450] [] := by rw [eh4]; exact co_sN Oh3 ⟨(Or.inl (by rw [kh3]; rfl)), by rw [kh3]; decide, by rw [kh3]; decide, nh3.1, (fun _ j => by rw [eh3]; exact nw_e)⟩
  have Eh4 : βh4 = (F_X8_init_4 α Hs.size a0) := by rw [eh4, Eh3, uh3]; try rfl
  have Zh4 : Hh4.size = Hs.size + (2) := yh4.trans Zh3
  refine lv_aload_n hx hb dX8_init_20 rfl (lv_at hl 0 rfl) (hp_n (n := 21) rfl ?_)
  refine lv_bipush (v := 64) hx hb dX8_init_21 (by decide) (hp_n (n := 23) rfl ?_)
  refine q_newaZ (κ := 23) (t := 2) (n := 64) (atype := .boolean) (ty := .boolean) (dv := .int 0) (pc' := 25) C Bh4 ac_boolean rfl (by decide) rfl rfl (fun _ _ q => q) rfl (fun _ cA => nw_cx (by decide) cA) (by decide) (by decide +kernel) (Nat.le_of_ble_eq_true rfl) rfl (Nat.le_of_ble_eq_true rfl) (Nat.le_of_ble_eq_true rfl) dX8_init_23 rfl (fun q hq => gx_nw Bh4.2.2 (by decide) hq) (fun βh5 ah5 Hh5 fh5 wh5 yh5 eh5 Bh5 => ?_)
  have uh5 : ah5 = Hs.size + (2) := by rw [wh5, Zh4]
  have nh5 := gx_new Bh4.2.2 Oh4 fh5
  have Oh5 : co α a0 9 βh5 [451, 450] [] := by rw [eh5]; exact co_nw Oh4 fh5
  have kh5 : hp_K βh5 ah5 = 23 := by rw [eh5]; exact nw_k
  have Eh5 : βh5 = (F_X8_init_5 α Hs.size a0) := by rw [eh5, Eh4, uh5]; try rfl
  have Zh5 : Hh5.size = Hs.size + (3) := zzk yh5 Zh4 rfl
  refine W.widen (k := 3) (n := 192) (Nat.le_of_ble_eq_true rfl) (Nat.le_of_ble_eq_true rfl) ?_
  refine q_putnFZ (κ := 109) (k := 2) (φ := 452) (pc' := 28) C Bh5 Oh5.1 fl_X8_18 rfl rfl rfl hnm rfl rfl rfl rfl (gx_sN Bh5.2.2 Oh5) dX8_init_25 rfl (fun βh6 Hh6 Lh6 eh6 yh6 Bh6 => ?_)
  have Oh6 : co α a0 9 βh6 [452, 451, 450] [] := by rw [eh6]; exact co_sN Oh5 ⟨(Or.inl (by rw [kh5]; rfl)), by rw [kh5]; decide, by rw [kh5]; decide, nh5.1, (fun _ j => by rw [eh5]; exact nw_e)⟩
  have Eh6 : βh6 = (F_X8_init_6 α Hs.size a0) := by rw [eh6, Eh5, uh5]; try rfl
  have Zh6 : Hh6.size = Hs.size + (3) := yh6.trans Zh5
  refine lv_aload_n hx hb dX8_init_28 rfl (lv_at hl 0 rfl) (hp_n (n := 29) rfl ?_)
  refine lv_iconst (v := 0) hx hb dX8_init_29 (by decide) (hp_n (n := 30) rfl ?_)
  refine q_putiZ (κ := 109) (k := 3) (φ := 453) (pc' := 33) C Bh6 Oh6.1 fl_X8_22 rfl rfl rfl rfl rfl rfl (gx_sI Bh6.2.2 (gc_i0 _)) dX8_init_30 rfl (fun βh7 Hh7 Lh7 eh7 yh7 Bh7 => ?_)
  have Oh7 : co α a0 9 βh7 [452, 451, 450] [(453, 0)] := by rw [eh7]; exact co_sI Oh6 (by decide)
  have Eh7 : βh7 = (F_X8_init_7 α Hs.size a0) := by rw [eh7, Eh6]; try rfl
  have Zh7 : Hh7.size = Hs.size + (3) := yh7.trans Zh6
  refine lv_aload_n hx hb dX8_init_33 rfl (lv_at hl 0 rfl) (hp_n (n := 34) rfl ?_)
  refine lv_iconst (v := 0) hx hb dX8_init_34 (by decide) (hp_n (n := 35) rfl ?_)
  refine q_putiZ (κ := 109) (k := 4) (φ := 454) (pc' := 38) C Bh7 Oh7.1 fl_X8_26 rfl rfl rfl rfl rfl rfl (gx_sI Bh7.2.2 (gc_i0 _)) dX8_init_35 rfl (fun βh8 Hh8 Lh8 eh8 yh8 Bh8 => ?_)
  have Oh8 : co α a0 9 βh8 [452, 451, 450] [(454, 0), (453, 0)] := by rw [eh8]; exact co_sI Oh7 (by decide)
  have Eh8 : βh8 = (F_X8_init_8 α Hs.size a0) := by rw [eh8, Eh7]; try rfl
  have Zh8 : Hh8.size = Hs.size + (3) := yh8.trans Zh7
  obtain ⟨Bh9, kh9, fh9, -⟩ := co_fin Bh8 Oh8 (by decide) (by decide) (by decide) (fun q => absurd q (by decide))
  refine W.widen (k := 3) (n := 192) (Nat.le_of_ble_eq_true rfl) (Nat.le_of_ble_eq_true rfl) ?_
  exact q_vretZ C Bh9 Zh8 hr hlk ⟨⟨Bh9.2.2, kh9, fh9⟩, by rw [Eh8]; try rfl⟩ dX8_init_38
def F_X2_init_0 (α : hp_T) (h a0 : Nat) : hp_T := α
def F_X2_init_1 (α : hp_T) (h a0 : Nat) : hp_T := hp_nw (F_X2_init_0 α h a0) (h + (0)) 28
def F_X2_init_2 (α : hp_T) (h a0 : Nat) : hp_T := hp_sN (F_X2_init_1 α h a0) 150 a0 (some (h + (0)))
def F_X2_init_3 (α : hp_T) (h a0 : Nat) : hp_T := hp_nw (F_X2_init_2 α h a0) (h + (1)) 29
def F_X2_init_4 (α : hp_T) (h a0 : Nat) : hp_T := hp_sN (F_X2_init_3 α h a0) 151 a0 (some (h + (1)))
def F_X2_init_5 (α : hp_T) (h a0 : Nat) : hp_T := hp_sI (F_X2_init_4 α h a0) 152 a0 0
def FL_X2_init_28 (α : hp_T) (h a0 : Nat) : Nat → hp_T
  | 0 => (F_X2_init_5 α h a0)
  | j28 + 1 => (hp_sQ (F_X9_init (hp_nw (FL_X2_init_28 α h a0 j28) (h + (2 + 2 * j28)) 110) (h + (2 + 2 * j28 + 1)) (h + (2 + 2 * j28))) 28 ((hp_N (FL_X2_init_28 α h a0 j28) 150 a0).getD 0) (j28) (some (h + (2 + 2 * j28))))
def F_X2_init (α : hp_T) (h a0 : Nat) : hp_T := hp_cv (FL_X2_init_28 α h a0 48) a0 3
set_option maxRecDepth 100000 in
set_option maxHeartbeats 4000000 in
theorem u_X2_init (Γ : hp_G) (l : Launch) (α : hp_T) (g : GC α) (Hs : Heap) (a0 : Nat) (k0 : hp_K α a0 = 103) (z0 : ∀ φ, hp_I α φ a0 = 0) : Met l yX2_init (hp_ws yX2_init cX2_init 2 none) (hp_rm 2 98 576) (hp_PcH Γ α Hs [.ref a0]) (hp_QZ Γ (Hs.size + 98) (fun β => (gx a0 α β ∧ hp_K β a0 = 3 ∧ (∀ q ∈ ([(152, 0)] : List (Nat × Int32)), hp_I β q.1 a0 = q.2)) ∧ β = F_X2_init α Hs.size a0)) 98 576 (hp_A Γ) := by
  refine hp_startZ (by decide) ?_
  intro p e s m below meth c C hr hlk B0 hnm hHs
  have Z : s.heap.size = Hs.size + 0 := by rw [hHs]; rfl
  have E : α = F_X2_init_0 α Hs.size a0 := rfl
  have C : hp_C Γ p m c cX2_init 2 s ([.ref a0] : List Value).toArray RX2 := C
  have hx := C.1.1
  have hb := C.1.2.1
  have hown := C.1.2.2.2.1
  have hts := C.1.2.2.2.2
  have B : hp_B Γ (gx a0) s α α s.heap [] := ⟨B0.1, B0.2.1, gx_rf g⟩
  have O : co α a0 3 α [] [] := co_0 k0 z0
  have hl := lv_entry ([.ref a0]) (n := 2) (Nat.le_of_ble_eq_true rfl)
  show W p l e (hp_rm 2 98 576) s m ([.ref a0] : List Value).toArray below meth c s.heap [] 0 0 (MQ below (hp_QZ Γ (Hs.size + 98) (fun β => (gx a0 α β ∧ hp_K β a0 = 3 ∧ (∀ q ∈ ([(152, 0)] : List (Nat × Int32)), hp_I β q.1 a0 = q.2)) ∧ β = F_X2_init α Hs.size a0)) ([.ref a0] : List Value).toArray s 98 576 (hp_A Γ)) (entryFrame m ([.ref a0] : List Value).toArray 2)
  rw [lg_entry_eq]
  generalize (lg_sl ([.ref a0]) ++ List.replicate (2 - (lg_sl ([.ref a0])).length) Slot.unset).toArray = ls at hl ⊢
  have hl : lv_has ls 2 [(0, .ref a0)] := hl
  refine lv_aload_n hx hb dX2_init_0 rfl (lv_at hl 0 rfl) (hp_n (n := 1) rfl ?_)
  refine q_obj (pc' := 4) C ol_X2 hl.1 rfl (by decide) dX2_init_1 rfl ?_
  refine lv_aload_n hx hb dX2_init_4 rfl (lv_at hl 0 rfl) (hp_n (n := 5) rfl ?_)
  refine lv_bipush (v := 48) hx hb dX2_init_5 (by decide) (hp_n (n := 7) rfl ?_)
  refine q_anewZ (κ := 28) (t := 7) (n := 48) (Cn := "ProvenRecord$Word") (pc' := 10) C B cl_X2_9 ao_X9 (by decide) rfl (by decide) rfl (by decide) (by decide +kernel) (Nat.le_of_ble_eq_true rfl) rfl (Nat.le_of_ble_eq_true rfl) (Nat.le_of_ble_eq_true rfl) dX2_init_7 rfl (fun q hq => gx_nw B.2.2 (by decide) hq) (fun βh1 ah1 Hh1 fh1 wh1 yh1 eh1 Bh1 => ?_)
  have uh1 : ah1 = Hs.size + (0) := by rw [wh1, Z]
  have nh1 := gx_new B.2.2 O fh1
  have Oh1 : co α a0 3 βh1 [] [] := by rw [eh1]; exact co_nw O fh1
  have kh1 : hp_K βh1 ah1 = 28 := by rw [eh1]; exact nw_k
  have Eh1 : βh1 = (F_X2_init_1 α Hs.size a0) := by rw [eh1, E, uh1]; try rfl
  have Zh1 : Hh1.size = Hs.size + (1) := zzk yh1 Z rfl
  refine W.widen (k := 1) (n := 48) (Nat.le_of_ble_eq_true rfl) (Nat.le_of_ble_eq_true rfl) ?_
  refine q_putnFZ (κ := 103) (k := 0) (φ := 150) (pc' := 13) C Bh1 Oh1.1 fl_X2_11 rfl rfl rfl hnm rfl rfl rfl rfl (gx_sN Bh1.2.2 Oh1) dX2_init_10 rfl (fun βh2 Hh2 Lh2 eh2 yh2 Bh2 => ?_)
  have Oh2 : co α a0 3 βh2 [150] [] := by rw [eh2]; exact co_sN Oh1 ⟨(Or.inl (by rw [kh1]; rfl)), by rw [kh1]; decide, by rw [kh1]; decide, nh1.1, (fun _ j => by rw [eh1]; exact nw_e)⟩
  have Eh2 : βh2 = (F_X2_init_2 α Hs.size a0) := by rw [eh2, Eh1, uh1]; try rfl
  have Zh2 : Hh2.size = Hs.size + (1) := yh2.trans Zh1
  refine lv_aload_n hx hb dX2_init_13 rfl (lv_at hl 0 rfl) (hp_n (n := 14) rfl ?_)
  refine lv_bipush (v := 48) hx hb dX2_init_14 (by decide) (hp_n (n := 16) rfl ?_)
  refine q_newaZ (κ := 29) (t := 0) (n := 48) (atype := .int) (ty := .int) (dv := .int 0) (pc' := 18) C Bh2 ac_int rfl (by decide) rfl rfl (fun _ _ q => q) rfl (fun _ cA => nw_cx (by decide) cA) (by decide) (by decide +kernel) (Nat.le_of_ble_eq_true rfl) rfl (Nat.le_of_ble_eq_true rfl) (Nat.le_of_ble_eq_true rfl) dX2_init_16 rfl (fun q hq => gx_nw Bh2.2.2 (by decide) hq) (fun βh3 ah3 Hh3 fh3 wh3 yh3 eh3 Bh3 => ?_)
  have uh3 : ah3 = Hs.size + (1) := by rw [wh3, Zh2]
  have nh3 := gx_new Bh2.2.2 Oh2 fh3
  have Oh3 : co α a0 3 βh3 [150] [] := by rw [eh3]; exact co_nw Oh2 fh3
  have kh3 : hp_K βh3 ah3 = 29 := by rw [eh3]; exact nw_k
  have Eh3 : βh3 = (F_X2_init_3 α Hs.size a0) := by rw [eh3, Eh2, uh3]; try rfl
  have Zh3 : Hh3.size = Hs.size + (2) := zzk yh3 Zh2 rfl
  refine W.widen (k := 2) (n := 96) (Nat.le_of_ble_eq_true rfl) (Nat.le_of_ble_eq_true rfl) ?_
  refine q_putnFZ (κ := 103) (k := 1) (φ := 151) (pc' := 21) C Bh3 Oh3.1 fl_X2_17 rfl rfl rfl hnm rfl rfl rfl rfl (gx_sN Bh3.2.2 Oh3) dX2_init_18 rfl (fun βh4 Hh4 Lh4 eh4 yh4 Bh4 => ?_)
  have Oh4 : co α a0 3 βh4 [151, 150] [] := by rw [eh4]; exact co_sN Oh3 ⟨(Or.inl (by rw [kh3]; rfl)), by rw [kh3]; decide, by rw [kh3]; decide, nh3.1, (fun _ j => by rw [eh3]; exact nw_e)⟩
  have Eh4 : βh4 = (F_X2_init_4 α Hs.size a0) := by rw [eh4, Eh3, uh3]; try rfl
  have Zh4 : Hh4.size = Hs.size + (2) := yh4.trans Zh3
  refine lv_aload_n hx hb dX2_init_21 rfl (lv_at hl 0 rfl) (hp_n (n := 22) rfl ?_)
  refine lv_iconst (v := 0) hx hb dX2_init_22 (by decide) (hp_n (n := 23) rfl ?_)
  refine q_putiZ (κ := 103) (k := 2) (φ := 152) (pc' := 26) C Bh4 Oh4.1 fl_X2_21 rfl rfl rfl rfl rfl rfl (gx_sI Bh4.2.2 (gc_i0 _)) dX2_init_23 rfl (fun βh5 Hh5 Lh5 eh5 yh5 Bh5 => ?_)
  have Oh5 : co α a0 3 βh5 [151, 150] [(152, 0)] := by rw [eh5]; exact co_sI Oh4 (by decide)
  have Eh5 : βh5 = (F_X2_init_5 α Hs.size a0) := by rw [eh5, Eh4]; try rfl
  have Zh5 : Hh5.size = Hs.size + (2) := yh5.trans Zh4
  refine lv_iconst (v := 0) hx hb dX2_init_26 (by decide) (hp_n (n := 27) rfl ?_)
  refine lv_istore_n (lv' := [(1, .int 0), (0, .ref a0)]) hx hb dX2_init_27 rfl hl (by decide) rfl (fun ls hl => hp_n (n := 28) rfl ?_)
  have J28 : ∀ (nq : Nat) (βh6 : hp_T) (Hh6 : Heap) (Lh6 : List Loc) (Bh6 : hp_B Γ (gx a0) s α βh6 Hh6 Lh6) (Oh6 : co α a0 3 βh6 [151, 150] [(152, 0)]) (vh6 : Int32) (j28 : Nat) (Eh6 : βh6 = FL_X2_init_28 α Hs.size a0 j28) (Zh6 : Hh6.size = Hs.size + (2 + 2 * j28)) (hk28 : vh6.toInt = (j28 : Int)) (hj28 : j28 ≤ 48) (hm28 : 48 - j28 = nq) (ls : Array Slot) (hl : lv_has ls 2 [(0, .ref a0), (1, .int vh6)]), W p l e (hp_rm 2 98 576) s m ([.ref a0] : List Value).toArray below meth c Hh6 Lh6 (2 + 2 * j28) (96 + 10 * j28) (MQ below (hp_QZ Γ (Hs.size + 98) (fun β => (gx a0 α β ∧ hp_K β a0 = 3 ∧ (∀ q ∈ ([(152, 0)] : List (Nat × Int32)), hp_I β q.1 a0 = q.2)) ∧ β = F_X2_init α Hs.size a0)) ([.ref a0] : List Value).toArray s 98 576 (hp_A Γ)) (F0 m 28 ls []) := by
    intro nq
    induction nq using Nat.strongRecOn with
    | ind nq ih28 =>
    intro βh6 Hh6 Lh6 Bh6 Oh6 vh6 j28 Eh6 Zh6 hk28 hj28 hm28 ls hl
    have litn : (48 : Int32).toInt = 48 := by decide
    obtain ⟨xh6, x1h6, x2h6, x3h6, -, x5h6, -⟩ := Oh6.2.1 150 (by decide)
    have kxh6 : hp_K βh6 xh6 = 28 := by rcases x2h6 with q | q; exact q; exact absurd q.1 (by decide)
    have lth6 : hp_K βh6 xh6 ≠ 0 ∧ True := ⟨x3h6, trivial⟩
    have cch6 : vh6.toNatClampNeg = j28 := cl_n hk28
    have xxh6 : (hp_N (FL_X2_init_28 α Hs.size a0 j28) 150 a0).getD 0 = xh6 := by rw [← Eh6, x1h6]; rfl
    refine lv_iload_n hx hb dX2_init_28 rfl (lv_at hl 1 rfl) (hp_n (n := 29) rfl ?_)
    refine lv_aload_n hx hb dX2_init_29 rfl (lv_at hl 0 rfl) (hp_n (n := 30) rfl ?_)
    refine q_get (v := .ref xh6) (κ := 103) (k := 0) (t := 3) (pc' := 33) C Bh6 Oh6.1 fl_X2_11 rfl rfl (by show va_rf (hp_N βh6 150 a0) = _; rw [x1h6]; rfl) dX2_init_30 rfl ?_
    refine q_alen (κ := 28) (t := 7) (n := 48) (x := 48) (ty := .object "ProvenRecord$Word") (pc' := 34) C Bh6 kxh6 (by decide) rfl rfl rfl dX2_init_33 rfl ?_
    refine lv_icmp_ge (tgt := 56) hx hb dX2_init_34 (by decide) (fun cq => ?_) (fun cq => hp_n (n := 37) rfl ?_)
    · have cq := il_le cq
      rw [litn] at cq
      have jn : j28 = 48 := by omega
      have Eq7 : βh6 = FL_X2_init_28 α Hs.size a0 48 := by rw [Eh6, jn]
      have Zq7 : Hh6.size = Hs.size + (98) := by rw [Zh6, jn]
      refine W.widen (k := 98) (n := 576) (by omega) (by omega) ?_
      obtain ⟨Bh8, kh8, fh8, -⟩ := co_fin Bh6 Oh6 (by decide) (by decide) (by decide) (fun q => absurd q (by decide))
      refine W.widen (k := 98) (n := 576) (by omega) (by omega) ?_
      exact q_vretZ C Bh8 Zq7 hr hlk ⟨⟨Bh8.2.2, kh8, fh8⟩, by rw [Eq7]; try rfl⟩ dX2_init_56
    have cq := il_nle cq
    rw [litn] at cq
    refine lv_aload_n hx hb dX2_init_37 rfl (lv_at hl 0 rfl) (hp_n (n := 38) rfl ?_)
    refine q_get (v := .ref xh6) (κ := 103) (k := 0) (t := 3) (pc' := 41) C Bh6 Oh6.1 fl_X2_11 rfl rfl (by show va_rf (hp_N βh6 150 a0) = _; rw [x1h6]; rfl) dX2_init_38 rfl ?_
    refine lv_iload_n hx hb dX2_init_41 rfl (lv_at hl 1 rfl) (hp_n (n := 42) rfl ?_)
    refine q_newZ (κ := 10) (N := 2) (pc' := 45) C Bh6 cl_X2_9 it_X9 iz_X9 rfl in_10 tyX9_ok df_10 (by decide) rfl rfl rfl (by omega) (by omega) dX2_init_42 rfl (fun q hq => gx_nw Bh6.2.2 (by decide) hq) (fun βh9 ah9 Hh9 fh9 wh9 yh9 eh9 Bh9 => ?_)
    have uh9 : ah9 = Hs.size + (2 + 2 * j28) := by rw [wh9, Zh6]
    have nh9 := gx_new Bh6.2.2 Oh6 fh9
    have Oh9 : co α a0 3 βh9 [151, 150] [(152, 0)] := by rw [eh9]; exact co_nw Oh6 fh9
    have kh9 : hp_K βh9 ah9 = 110 := by rw [eh9]; exact nw_k
    have zh9 : ∀ φ, hp_I βh9 φ ah9 = 0 := fun φ => by rw [eh9]; exact nw_i
    have sh9 : sa βh6 βh9 xh6 := by rw [eh9]; exact sa_nw (fun q => lth6.1 (by rw [q]; exact fh9))
    have Eh9 : βh9 = (hp_nw (FL_X2_init_28 α Hs.size a0 j28) (Hs.size + (2 + 2 * j28)) 110) := by rw [eh9, Eh6, uh9]; try rfl
    have Zh9 : Hh9.size = Hs.size + (2 + 2 * j28 + 1) := zzk yh9 Zh6 rfl
    refine W.widen (k := 2 + 2 * j28 + 1) (n := 96 + 10 * j28 + 2) (by omega) (by omega) ?_
    refine lv_dup hx hb dX2_init_45 rfl (hp_n (n := 46) rfl ?_)
    refine q_cvZ (pc' := 49) Bh9 (hp_runIZ (As := []) (rest := [.ref ah9, .int vh6, .ref xh6]) C Bh9 (u_X9_init Γ l βh9 Bh9.2.2.1 Hh9 ah9 kh9 zh9) lb_X9_init rfl li_X9_init lk_X2_25 rfl (by decide) rfl hl.1 rfl (Nat.le_of_ble_eq_true rfl) dX2_init_46 ⟨by omega, by omega⟩) (fun q hq => gx_call Bh9.2.2 hq.1.1 nh9.1) rfl (fun βh10 Hh10 Lh10 yh10 pph10 Bh10 => ?_)
    have ph10 := pph10.1
    have Eh10 : βh10 = (F_X9_init (hp_nw (FL_X2_init_28 α Hs.size a0 j28) (Hs.size + (2 + 2 * j28)) 110) (Hs.size + (2 + 2 * j28 + 1)) (Hs.size + (2 + 2 * j28))) := by rw [pph10.2, Eh9, Zh9, uh9]; try rfl
    have Zh10 : Hh10.size = Hs.size + (2 + 2 * j28 + 1 + 1) := zzk yh10 Zh9 rfl
    have Oh10 : co α a0 3 βh10 [151, 150] [(152, 0)] := co_call Oh9 ph10.1 nh9.2 (by rw [kh9]; decide)
    have kh10 : hp_K βh10 ah9 = 10 := ph10.2.1
    have sh10 : sa βh9 βh10 xh6 := ph10.1.2 xh6 (fun q => by have := kh9; rw [← q, sh9.1, kxh6] at this; cases this) (by rw [sh9.1]; exact lth6.1)
    have krh10 : hp_K βh10 xh6 = 28 := by rw [sh10.1, sh9.1]; exact kxh6
    refine W.widen (k := 2 + 2 * j28 + 2) (n := 96 + 10 * j28 + 10) (by omega) (by omega) ?_
    refine q_aasZ (κ := 28) (t := 7) (n := 48) (κv := 10) (r := hp_q 10) (pc' := 50) C Bh10 krh10 (by decide) rfl (by decide) kh10 rfl rfl rfl (vi_of (by omega) (by omega)) rfl (gx_sQ Bh10.2.2 x5h6 (by rw [kh10]; rfl)) dX2_init_49 rfl (fun βh11 Hh11 Lh11 eh11 yh11 Bh11 => ?_)
    have Oh11 : co α a0 3 βh11 [151, 150] [(152, 0)] := by rw [eh11]; exact co_sQ Oh10
    have Eh11 : βh11 = (hp_sQ (F_X9_init (hp_nw (FL_X2_init_28 α Hs.size a0 j28) (Hs.size + (2 + 2 * j28)) 110) (Hs.size + (2 + 2 * j28 + 1)) (Hs.size + (2 + 2 * j28))) 28 ((hp_N (FL_X2_init_28 α Hs.size a0 j28) 150 a0).getD 0) (j28) (some (Hs.size + (2 + 2 * j28)))) := by rw [eh11, Eh10, uh9, cch6, xxh6]; try rfl
    have Zh11 : Hh11.size = Hs.size + (2 + 2 * j28 + 1 + 1) := yh11.trans Zh10
    obtain ⟨v12, ev12⟩ : ∃ y : Int32, y = vh6 + 1 := ⟨_, rfl⟩
    have qv12 : v12.toInt = vh6.toInt + 1 := by rw [ev12]; exact ii_add (x := vh6) (y := 1) (by rw [show (1 : Int32).toInt = 1 from rfl]; omega) (by rw [show (1 : Int32).toInt = 1 from rfl]; omega)
    refine lv_iinc (v := v12) (lv' := [(1, .int v12), (0, .ref a0)]) hx hb dX2_init_50 hl (k := 1) rfl (by rw [ev12]; rfl) (by decide) rfl (fun ls hl => hp_n (n := 53) rfl ?_)
    refine lv_goto (tgt := 28) hx hb dX2_init_53 (by decide) ?_
    refine W.widen (k := 2 + 2 * (j28 + 1)) (n := 96 + 10 * (j28 + 1)) (by omega) (by omega) ?_
    exact ih28 _ (by omega) βh11 Hh11 Lh11 Bh11 Oh11 v12 (j28 + 1) (by rw [Eh11]; rfl) (by omega) (by omega) (by omega) rfl ls (lv_sub hl [1, 0] rfl)
  exact J28 _ βh5 Hh5 Lh5 Bh5 Oh5 0 0 (by rw [Eh5]; rfl) (by omega) rfl (by decide) rfl ls (lv_sub hl [1, 0] rfl)
def F_X1_init_0 (α : hp_T) (h a0 : Nat) : hp_T := α
def F_X1_init_1 (α : hp_T) (h a0 : Nat) : hp_T := hp_sI (F_X1_init_0 α h a0) 100 a0 0
def F_X1_init_2 (α : hp_T) (h a0 : Nat) : hp_T := hp_sI (F_X1_init_1 α h a0) 101 a0 0
def F_X1_init_3 (α : hp_T) (h a0 : Nat) : hp_T := hp_sI (F_X1_init_2 α h a0) 102 a0 0
def F_X1_init_4 (α : hp_T) (h a0 : Nat) : hp_T := hp_sI (F_X1_init_3 α h a0) 103 a0 0
def F_X1_init_5 (α : hp_T) (h a0 : Nat) : hp_T := hp_nw (F_X1_init_4 α h a0) (h + (0)) 106
def F_X1_init_6 (α : hp_T) (h a0 : Nat) : hp_T := F_X5_init (F_X1_init_5 α h a0) (h + (1)) (h + (0))
def F_X1_init_7 (α : hp_T) (h a0 : Nat) : hp_T := hp_sN (F_X1_init_6 α h a0) 104 a0 (some (h + (0)))
def F_X1_init (α : hp_T) (h a0 : Nat) : hp_T := hp_cv (F_X1_init_7 α h a0) a0 2
set_option maxRecDepth 100000 in
set_option maxHeartbeats 4000000 in
theorem u_X1_init (Γ : hp_G) (l : Launch) (α : hp_T) (g : GC α) (Hs : Heap) (a0 : Nat) (k0 : hp_K α a0 = 102) (z0 : ∀ φ, hp_I α φ a0 = 0) : Met l yX1_init (hp_ws yX1_init cX1_init 1 none) (hp_rm 2 2 66) (hp_PcH Γ α Hs [.ref a0]) (hp_QZ Γ (Hs.size + 2) (fun β => (gx a0 α β ∧ hp_K β a0 = 2 ∧ (∀ q ∈ ([(103, 0), (102, 0), (101, 0), (100, 0)] : List (Nat × Int32)), hp_I β q.1 a0 = q.2)) ∧ β = F_X1_init α Hs.size a0)) 2 66 (hp_A Γ) := by
  refine hp_startZ (by decide) ?_
  intro p e s m below meth c C hr hlk B0 hnm hHs
  have Z : s.heap.size = Hs.size + 0 := by rw [hHs]; rfl
  have E : α = F_X1_init_0 α Hs.size a0 := rfl
  have C : hp_C Γ p m c cX1_init 1 s ([.ref a0] : List Value).toArray RX1 := C
  have hx := C.1.1
  have hb := C.1.2.1
  have hown := C.1.2.2.2.1
  have hts := C.1.2.2.2.2
  have B : hp_B Γ (gx a0) s α α s.heap [] := ⟨B0.1, B0.2.1, gx_rf g⟩
  have O : co α a0 2 α [] [] := co_0 k0 z0
  have hl := lv_entry ([.ref a0]) (n := 1) (Nat.le_of_ble_eq_true rfl)
  show W p l e (hp_rm 2 2 66) s m ([.ref a0] : List Value).toArray below meth c s.heap [] 0 0 (MQ below (hp_QZ Γ (Hs.size + 2) (fun β => (gx a0 α β ∧ hp_K β a0 = 2 ∧ (∀ q ∈ ([(103, 0), (102, 0), (101, 0), (100, 0)] : List (Nat × Int32)), hp_I β q.1 a0 = q.2)) ∧ β = F_X1_init α Hs.size a0)) ([.ref a0] : List Value).toArray s 2 66 (hp_A Γ)) (entryFrame m ([.ref a0] : List Value).toArray 1)
  rw [lg_entry_eq]
  generalize (lg_sl ([.ref a0]) ++ List.replicate (1 - (lg_sl ([.ref a0])).length) Slot.unset).toArray = ls at hl ⊢
  have hl : lv_has ls 1 [(0, .ref a0)] := hl
  refine lv_aload_n hx hb dX1_init_0 rfl (lv_at hl 0 rfl) (hp_n (n := 1) rfl ?_)
  refine q_obj (pc' := 4) C ol_X1 hl.1 rfl (by decide) dX1_init_1 rfl ?_
  refine lv_aload_n hx hb dX1_init_4 rfl (lv_at hl 0 rfl) (hp_n (n := 5) rfl ?_)
  refine lv_iconst (v := 0) hx hb dX1_init_5 (by decide) (hp_n (n := 6) rfl ?_)
  refine q_putiZ (κ := 102) (k := 0) (φ := 100) (pc' := 9) C B O.1 fl_X1_7 rfl rfl rfl rfl rfl rfl (gx_sI B.2.2 (gc_i0 _)) dX1_init_6 rfl (fun βh1 Hh1 Lh1 eh1 yh1 Bh1 => ?_)
  have Oh1 : co α a0 2 βh1 [] [(100, 0)] := by rw [eh1]; exact co_sI O (by decide)
  have Eh1 : βh1 = (F_X1_init_1 α Hs.size a0) := by rw [eh1, E]; try rfl
  have Zh1 : Hh1.size = Hs.size + (0) := yh1.trans Z
  refine lv_aload_n hx hb dX1_init_9 rfl (lv_at hl 0 rfl) (hp_n (n := 10) rfl ?_)
  refine lv_iconst (v := 0) hx hb dX1_init_10 (by decide) (hp_n (n := 11) rfl ?_)
  refine q_putiZ (κ := 102) (k := 1) (φ := 101) (pc' := 14) C Bh1 Oh1.1 fl_X1_13 rfl rfl rfl rfl rfl rfl (gx_sI Bh1.2.2 (gc_i0 _)) dX1_init_11 rfl (fun βh2 Hh2 Lh2 eh2 yh2 Bh2 => ?_)
  have Oh2 : co α a0 2 βh2 [] [(101, 0), (100, 0)] := by rw [eh2]; exact co_sI Oh1 (by decide)
  have Eh2 : βh2 = (F_X1_init_2 α Hs.size a0) := by rw [eh2, Eh1]; try rfl
  have Zh2 : Hh2.size = Hs.size + (0) := yh2.trans Zh1
  refine lv_aload_n hx hb dX1_init_14 rfl (lv_at hl 0 rfl) (hp_n (n := 15) rfl ?_)
  refine lv_iconst (v := 0) hx hb dX1_init_15 (by decide) (hp_n (n := 16) rfl ?_)
  refine q_putiZ (κ := 102) (k := 2) (φ := 102) (pc' := 19) C Bh2 Oh2.1 fl_X1_16 rfl rfl rfl rfl rfl rfl (gx_sI Bh2.2.2 (gc_i0 _)) dX1_init_16 rfl (fun βh3 Hh3 Lh3 eh3 yh3 Bh3 => ?_)
  have Oh3 : co α a0 2 βh3 [] [(102, 0), (101, 0), (100, 0)] := by rw [eh3]; exact co_sI Oh2 (by decide)
  have Eh3 : βh3 = (F_X1_init_3 α Hs.size a0) := by rw [eh3, Eh2]; try rfl
  have Zh3 : Hh3.size = Hs.size + (0) := yh3.trans Zh2
  refine lv_aload_n hx hb dX1_init_19 rfl (lv_at hl 0 rfl) (hp_n (n := 20) rfl ?_)
  refine lv_iconst (v := 0) hx hb dX1_init_20 (by decide) (hp_n (n := 21) rfl ?_)
  refine q_putiZ (κ := 102) (k := 3) (φ := 103) (pc' := 24) C Bh3 Oh3.1 fl_X1_19 rfl rfl rfl rfl rfl rfl (gx_sI Bh3.2.2 (gc_i0 _)) dX1_init_21 rfl (fun βh4 Hh4 Lh4 eh4 yh4 Bh4 => ?_)
  have Oh4 : co α a0 2 βh4 [] [(103, 0), (102, 0), (101, 0), (100, 0)] := by rw [eh4]; exact co_sI Oh3 (by decide)
  have Eh4 : βh4 = (F_X1_init_4 α Hs.size a0) := by rw [eh4, Eh3]; try rfl
  have Zh4 : Hh4.size = Hs.size + (0) := yh4.trans Zh3
  refine lv_aload_n hx hb dX1_init_24 rfl (lv_at hl 0 rfl) (hp_n (n := 25) rfl ?_)
  refine q_newZ (κ := 6) (N := 2) (pc' := 28) C Bh4 cl_X1_22 it_X5 iz_X5 rfl in_6 tyX5_ok df_6 (by decide) rfl rfl rfl (Nat.le_of_ble_eq_true rfl) (Nat.le_of_ble_eq_true rfl) dX1_init_25 rfl (fun q hq => gx_nw Bh4.2.2 (by decide) hq) (fun βh5 ah5 Hh5 fh5 wh5 yh5 eh5 Bh5 => ?_)
  have uh5 : ah5 = Hs.size + (0) := by rw [wh5, Zh4]
  have nh5 := gx_new Bh4.2.2 Oh4 fh5
  have Oh5 : co α a0 2 βh5 [] [(103, 0), (102, 0), (101, 0), (100, 0)] := by rw [eh5]; exact co_nw Oh4 fh5
  have kh5 : hp_K βh5 ah5 = 106 := by rw [eh5]; exact nw_k
  have zh5 : ∀ φ, hp_I βh5 φ ah5 = 0 := fun φ => by rw [eh5]; exact nw_i
  have Eh5 : βh5 = (F_X1_init_5 α Hs.size a0) := by rw [eh5, Eh4, uh5]; try rfl
  have Zh5 : Hh5.size = Hs.size + (1) := zzk yh5 Zh4 rfl
  refine W.widen (k := 1) (n := 2) (Nat.le_of_ble_eq_true rfl) (Nat.le_of_ble_eq_true rfl) ?_
  refine lv_dup hx hb dX1_init_28 rfl (hp_n (n := 29) rfl ?_)
  refine q_cvZ (pc' := 32) Bh5 (hp_runIZ (As := []) (rest := [.ref ah5, .ref a0]) C Bh5 (u_X5_init Γ l βh5 Bh5.2.2.1 Hh5 ah5 kh5 zh5) lb_X5_init rfl li_X5_init lk_X1_24 rfl (by decide) rfl hl.1 rfl (Nat.le_of_ble_eq_true rfl) dX1_init_29 ⟨(Nat.le_of_ble_eq_true rfl), (Nat.le_of_ble_eq_true rfl)⟩) (fun q hq => gx_call Bh5.2.2 hq.1.1 nh5.1) rfl (fun βh6 Hh6 Lh6 yh6 pph6 Bh6 => ?_)
  have ph6 := pph6.1
  have Eh6 : βh6 = (F_X1_init_6 α Hs.size a0) := by rw [pph6.2, Eh5, Zh5, uh5]; try rfl
  have Zh6 : Hh6.size = Hs.size + (2) := zzk yh6 Zh5 rfl
  have Oh6 : co α a0 2 βh6 [] [(103, 0), (102, 0), (101, 0), (100, 0)] := co_call Oh5 ph6.1 nh5.2 (by rw [kh5]; decide)
  have kh6 : hp_K βh6 ah5 = 6 := ph6.2.1
  refine W.widen (k := 2) (n := 66) (Nat.le_of_ble_eq_true rfl) (Nat.le_of_ble_eq_true rfl) ?_
  refine q_putnFZ (κ := 102) (k := 4) (φ := 104) (pc' := 35) C Bh6 Oh6.1 fl_X1_25 rfl rfl rfl hnm rfl rfl rfl rfl (gx_sN Bh6.2.2 Oh6) dX1_init_32 rfl (fun βh7 Hh7 Lh7 eh7 yh7 Bh7 => ?_)
  have Oh7 : co α a0 2 βh7 [104] [(103, 0), (102, 0), (101, 0), (100, 0)] := by rw [eh7]; exact co_sN Oh6 ⟨(Or.inl (by rw [kh6]; rfl)), by rw [kh6]; decide, by rw [kh6]; decide, nh5.1, (by rw [kh6]; intro q; exact absurd q (by decide))⟩
  have Eh7 : βh7 = (F_X1_init_7 α Hs.size a0) := by rw [eh7, Eh6, uh5]; try rfl
  have Zh7 : Hh7.size = Hs.size + (2) := yh7.trans Zh6
  obtain ⟨Bh8, kh8, fh8, -⟩ := co_fin Bh7 Oh7 (by decide) (by decide) (by decide) (fun q => absurd q (by decide))
  refine W.widen (k := 2) (n := 66) (Nat.le_of_ble_eq_true rfl) (Nat.le_of_ble_eq_true rfl) ?_
  exact q_vretZ C Bh8 Zh7 hr hlk ⟨⟨Bh8.2.2, kh8, fh8⟩, by rw [Eh7]; try rfl⟩ dX1_init_35
def F_X0_init_0 (α : hp_T) (h a0 : Nat) : hp_T := α
def F_X0_init_1 (α : hp_T) (h a0 : Nat) : hp_T := hp_sI (F_X0_init_0 α h a0) 50 a0 101
def F_X0_init_2 (α : hp_T) (h a0 : Nat) : hp_T := hp_nw (F_X0_init_1 α h a0) (h + (0)) 106
def F_X0_init_3 (α : hp_T) (h a0 : Nat) : hp_T := F_X5_init (F_X0_init_2 α h a0) (h + (1)) (h + (0))
def F_X0_init_4 (α : hp_T) (h a0 : Nat) : hp_T := hp_sN (F_X0_init_3 α h a0) 51 a0 (some (h + (0)))
def F_X0_init_5 (α : hp_T) (h a0 : Nat) : hp_T := hp_sI (F_X0_init_4 α h a0) 52 a0 0
def F_X0_init_6 (α : hp_T) (h a0 : Nat) : hp_T := hp_sI (F_X0_init_5 α h a0) 53 a0 0
def F_X0_init_7 (α : hp_T) (h a0 : Nat) : hp_T := hp_sI (F_X0_init_6 α h a0) 54 a0 0
def F_X0_init (α : hp_T) (h a0 : Nat) : hp_T := hp_cv (F_X0_init_7 α h a0) a0 1
set_option maxRecDepth 100000 in
set_option maxHeartbeats 4000000 in
theorem u_X0_init (Γ : hp_G) (l : Launch) (α : hp_T) (g : GC α) (Hs : Heap) (a0 : Nat) (k0 : hp_K α a0 = 101) (z0 : ∀ φ, hp_I α φ a0 = 0) : Met l yX0_init (hp_ws yX0_init cX0_init 1 none) (hp_rm 2 2 66) (hp_PcH Γ α Hs [.ref a0]) (hp_QZ Γ (Hs.size + 2) (fun β => (gx a0 α β ∧ hp_K β a0 = 1 ∧ (∀ q ∈ ([(54, 0), (53, 0), (52, 0), (50, 101)] : List (Nat × Int32)), hp_I β q.1 a0 = q.2)) ∧ β = F_X0_init α Hs.size a0)) 2 66 (hp_A Γ) := by
  refine hp_startZ (by decide) ?_
  intro p e s m below meth c C hr hlk B0 hnm hHs
  have Z : s.heap.size = Hs.size + 0 := by rw [hHs]; rfl
  have E : α = F_X0_init_0 α Hs.size a0 := rfl
  have C : hp_C Γ p m c cX0_init 1 s ([.ref a0] : List Value).toArray RX0 := C
  have hx := C.1.1
  have hb := C.1.2.1
  have hown := C.1.2.2.2.1
  have hts := C.1.2.2.2.2
  have B : hp_B Γ (gx a0) s α α s.heap [] := ⟨B0.1, B0.2.1, gx_rf g⟩
  have O : co α a0 1 α [] [] := co_0 k0 z0
  have hl := lv_entry ([.ref a0]) (n := 1) (Nat.le_of_ble_eq_true rfl)
  show W p l e (hp_rm 2 2 66) s m ([.ref a0] : List Value).toArray below meth c s.heap [] 0 0 (MQ below (hp_QZ Γ (Hs.size + 2) (fun β => (gx a0 α β ∧ hp_K β a0 = 1 ∧ (∀ q ∈ ([(54, 0), (53, 0), (52, 0), (50, 101)] : List (Nat × Int32)), hp_I β q.1 a0 = q.2)) ∧ β = F_X0_init α Hs.size a0)) ([.ref a0] : List Value).toArray s 2 66 (hp_A Γ)) (entryFrame m ([.ref a0] : List Value).toArray 1)
  rw [lg_entry_eq]
  generalize (lg_sl ([.ref a0]) ++ List.replicate (1 - (lg_sl ([.ref a0])).length) Slot.unset).toArray = ls at hl ⊢
  have hl : lv_has ls 1 [(0, .ref a0)] := hl
  refine lv_aload_n hx hb dX0_init_0 rfl (lv_at hl 0 rfl) (hp_n (n := 1) rfl ?_)
  refine q_obj (pc' := 4) C ol_X0 hl.1 rfl (by decide) dX0_init_1 rfl ?_
  refine lv_aload_n hx hb dX0_init_4 rfl (lv_at hl 0 rfl) (hp_n (n := 5) rfl ?_)
  refine lv_bipush (v := 101) hx hb dX0_init_5 (by decide) (hp_n (n := 7) rfl ?_)
  refine q_putiZ (κ := 101) (k := 0) (φ := 50) (pc' := 10) C B O.1 fl_X0_9 rfl rfl rfl rfl rfl rfl (gx_sI B.2.2 (fun q => absurd q (by decide))) dX0_init_7 rfl (fun βh1 Hh1 Lh1 eh1 yh1 Bh1 => ?_)
  have Oh1 : co α a0 1 βh1 [] [(50, 101)] := by rw [eh1]; exact co_sI O (by decide)
  have Eh1 : βh1 = (F_X0_init_1 α Hs.size a0) := by rw [eh1, E]; try rfl
  have Zh1 : Hh1.size = Hs.size + (0) := yh1.trans Z
  refine lv_aload_n hx hb dX0_init_10 rfl (lv_at hl 0 rfl) (hp_n (n := 11) rfl ?_)
  refine q_newZ (κ := 6) (N := 2) (pc' := 14) C Bh1 cl_X0_15 it_X5 iz_X5 rfl in_6 tyX5_ok df_6 (by decide) rfl rfl rfl (Nat.le_of_ble_eq_true rfl) (Nat.le_of_ble_eq_true rfl) dX0_init_11 rfl (fun q hq => gx_nw Bh1.2.2 (by decide) hq) (fun βh2 ah2 Hh2 fh2 wh2 yh2 eh2 Bh2 => ?_)
  have uh2 : ah2 = Hs.size + (0) := by rw [wh2, Zh1]
  have nh2 := gx_new Bh1.2.2 Oh1 fh2
  have Oh2 : co α a0 1 βh2 [] [(50, 101)] := by rw [eh2]; exact co_nw Oh1 fh2
  have kh2 : hp_K βh2 ah2 = 106 := by rw [eh2]; exact nw_k
  have zh2 : ∀ φ, hp_I βh2 φ ah2 = 0 := fun φ => by rw [eh2]; exact nw_i
  have Eh2 : βh2 = (F_X0_init_2 α Hs.size a0) := by rw [eh2, Eh1, uh2]; try rfl
  have Zh2 : Hh2.size = Hs.size + (1) := zzk yh2 Zh1 rfl
  refine W.widen (k := 1) (n := 2) (Nat.le_of_ble_eq_true rfl) (Nat.le_of_ble_eq_true rfl) ?_
  refine lv_dup hx hb dX0_init_14 rfl (hp_n (n := 15) rfl ?_)
  refine q_cvZ (pc' := 18) Bh2 (hp_runIZ (As := []) (rest := [.ref ah2, .ref a0]) C Bh2 (u_X5_init Γ l βh2 Bh2.2.2.1 Hh2 ah2 kh2 zh2) lb_X5_init rfl li_X5_init lk_X0_17 rfl (by decide) rfl hl.1 rfl (Nat.le_of_ble_eq_true rfl) dX0_init_15 ⟨(Nat.le_of_ble_eq_true rfl), (Nat.le_of_ble_eq_true rfl)⟩) (fun q hq => gx_call Bh2.2.2 hq.1.1 nh2.1) rfl (fun βh3 Hh3 Lh3 yh3 pph3 Bh3 => ?_)
  have ph3 := pph3.1
  have Eh3 : βh3 = (F_X0_init_3 α Hs.size a0) := by rw [pph3.2, Eh2, Zh2, uh2]; try rfl
  have Zh3 : Hh3.size = Hs.size + (2) := zzk yh3 Zh2 rfl
  have Oh3 : co α a0 1 βh3 [] [(50, 101)] := co_call Oh2 ph3.1 nh2.2 (by rw [kh2]; decide)
  have kh3 : hp_K βh3 ah2 = 6 := ph3.2.1
  refine W.widen (k := 2) (n := 66) (Nat.le_of_ble_eq_true rfl) (Nat.le_of_ble_eq_true rfl) ?_
  refine q_putnZ (κ := 101) (k := 1) (φ := 51) (pc' := 21) C Bh3 Oh3.1 fl_X0_18 rfl rfl rfl rfl rfl rfl (gx_sN Bh3.2.2 Oh3) dX0_init_18 rfl (fun βh4 Hh4 Lh4 eh4 yh4 Bh4 => ?_)
  have Oh4 : co α a0 1 βh4 [51] [(50, 101)] := by rw [eh4]; exact co_sN Oh3 ⟨(Or.inl (by rw [kh3]; rfl)), by rw [kh3]; decide, by rw [kh3]; decide, nh2.1, (by rw [kh3]; intro q; exact absurd q (by decide))⟩
  have Eh4 : βh4 = (F_X0_init_4 α Hs.size a0) := by rw [eh4, Eh3, uh2]; try rfl
  have Zh4 : Hh4.size = Hs.size + (2) := yh4.trans Zh3
  refine lv_aload_n hx hb dX0_init_21 rfl (lv_at hl 0 rfl) (hp_n (n := 22) rfl ?_)
  refine lv_iconst (v := 0) hx hb dX0_init_22 (by decide) (hp_n (n := 23) rfl ?_)
  refine q_putiZ (κ := 101) (k := 2) (φ := 52) (pc' := 26) C Bh4 Oh4.1 fl_X0_22 rfl rfl rfl rfl rfl rfl (gx_sI Bh4.2.2 (gc_i0 _)) dX0_init_23 rfl (fun βh5 Hh5 Lh5 eh5 yh5 Bh5 => ?_)
  have Oh5 : co α a0 1 βh5 [51] [(52, 0), (50, 101)] := by rw [eh5]; exact co_sI Oh4 (by decide)
  have Eh5 : βh5 = (F_X0_init_5 α Hs.size a0) := by rw [eh5, Eh4]; try rfl
  have Zh5 : Hh5.size = Hs.size + (2) := yh5.trans Zh4
  refine lv_aload_n hx hb dX0_init_26 rfl (lv_at hl 0 rfl) (hp_n (n := 27) rfl ?_)
  refine lv_iconst (v := 0) hx hb dX0_init_27 (by decide) (hp_n (n := 28) rfl ?_)
  refine q_putiZ (κ := 101) (k := 3) (φ := 53) (pc' := 31) C Bh5 Oh5.1 fl_X0_25 rfl rfl rfl rfl rfl rfl (gx_sI Bh5.2.2 (gc_i0 _)) dX0_init_28 rfl (fun βh6 Hh6 Lh6 eh6 yh6 Bh6 => ?_)
  have Oh6 : co α a0 1 βh6 [51] [(53, 0), (52, 0), (50, 101)] := by rw [eh6]; exact co_sI Oh5 (by decide)
  have Eh6 : βh6 = (F_X0_init_6 α Hs.size a0) := by rw [eh6, Eh5]; try rfl
  have Zh6 : Hh6.size = Hs.size + (2) := yh6.trans Zh5
  refine lv_aload_n hx hb dX0_init_31 rfl (lv_at hl 0 rfl) (hp_n (n := 32) rfl ?_)
  refine lv_iconst (v := 0) hx hb dX0_init_32 (by decide) (hp_n (n := 33) rfl ?_)
  refine q_putiZ (κ := 101) (k := 4) (φ := 54) (pc' := 36) C Bh6 Oh6.1 fl_X0_28 rfl rfl rfl rfl rfl rfl (gx_sI Bh6.2.2 (gc_i0 _)) dX0_init_33 rfl (fun βh7 Hh7 Lh7 eh7 yh7 Bh7 => ?_)
  have Oh7 : co α a0 1 βh7 [51] [(54, 0), (53, 0), (52, 0), (50, 101)] := by rw [eh7]; exact co_sI Oh6 (by decide)
  have Eh7 : βh7 = (F_X0_init_7 α Hs.size a0) := by rw [eh7, Eh6]; try rfl
  have Zh7 : Hh7.size = Hs.size + (2) := yh7.trans Zh6
  obtain ⟨Bh8, kh8, fh8, -⟩ := co_fin Bh7 Oh7 (by decide) (by decide) (by decide) (fun q => absurd q (by decide))
  refine W.widen (k := 2) (n := 66) (Nat.le_of_ble_eq_true rfl) (Nat.le_of_ble_eq_true rfl) ?_
  exact q_vretZ C Bh8 Zh7 hr hlk ⟨⟨Bh8.2.2, kh8, fh8⟩, by rw [Eh7]; try rfl⟩ dX0_init_36
def F_X6_init_0 (α : hp_T) (h a0 : Nat) : hp_T := α
def F_X6_init_1 (α : hp_T) (h a0 : Nat) : hp_T := hp_nw (F_X6_init_0 α h a0) (h + (0)) 36
def F_X6_init_2 (α : hp_T) (h a0 : Nat) : hp_T := hp_sN (F_X6_init_1 α h a0) 350 a0 (some (h + (0)))
def F_X6_init_3 (α : hp_T) (h a0 : Nat) : hp_T := hp_sI (F_X6_init_2 α h a0) 351 a0 0
def F_X6_init_4 (α : hp_T) (h a0 : Nat) : hp_T := hp_sI (F_X6_init_3 α h a0) 352 a0 0
def F_X6_init_5 (α : hp_T) (h a0 : Nat) : hp_T := hp_sI (F_X6_init_4 α h a0) 353 a0 0
def F_X6_init_6 (α : hp_T) (h a0 : Nat) : hp_T := hp_sI (F_X6_init_5 α h a0) 354 a0 0
def F_X6_init_7 (α : hp_T) (h a0 : Nat) : hp_T := hp_sI (F_X6_init_6 α h a0) 355 a0 0
def F_X6_init_8 (α : hp_T) (h a0 : Nat) : hp_T := hp_sI (F_X6_init_7 α h a0) 356 a0 0
def F_X6_init (α : hp_T) (h a0 : Nat) : hp_T := hp_cv (F_X6_init_8 α h a0) a0 7
set_option maxRecDepth 100000 in
set_option maxHeartbeats 4000000 in
theorem u_X6_init (Γ : hp_G) (l : Launch) (α : hp_T) (g : GC α) (Hs : Heap) (a0 : Nat) (k0 : hp_K α a0 = 107) (z0 : ∀ φ, hp_I α φ a0 = 0) : Met l yX6_init (hp_ws yX6_init cX6_init 1 none) (hp_rm 1 1 0) (hp_PcH Γ α Hs [.ref a0]) (hp_QZ Γ (Hs.size + 1) (fun β => (gx a0 α β ∧ hp_K β a0 = 7 ∧ (∀ q ∈ ([(356, 0), (355, 0), (354, 0), (353, 0), (352, 0), (351, 0)] : List (Nat × Int32)), hp_I β q.1 a0 = q.2)) ∧ β = F_X6_init α Hs.size a0)) 1 0 (hp_A Γ) := by
  refine hp_startZ (by decide) ?_
  intro p e s m below meth c C hr hlk B0 hnm hHs
  have Z : s.heap.size = Hs.size + 0 := by rw [hHs]; rfl
  have E : α = F_X6_init_0 α Hs.size a0 := rfl
  have C : hp_C Γ p m c cX6_init 1 s ([.ref a0] : List Value).toArray RX6 := C
  have hx := C.1.1
  have hb := C.1.2.1
  have hown := C.1.2.2.2.1
  have hts := C.1.2.2.2.2
  have B : hp_B Γ (gx a0) s α α s.heap [] := ⟨B0.1, B0.2.1, gx_rf g⟩
  have O : co α a0 7 α [] [] := co_0 k0 z0
  have hl := lv_entry ([.ref a0]) (n := 1) (Nat.le_of_ble_eq_true rfl)
  show W p l e (hp_rm 1 1 0) s m ([.ref a0] : List Value).toArray below meth c s.heap [] 0 0 (MQ below (hp_QZ Γ (Hs.size + 1) (fun β => (gx a0 α β ∧ hp_K β a0 = 7 ∧ (∀ q ∈ ([(356, 0), (355, 0), (354, 0), (353, 0), (352, 0), (351, 0)] : List (Nat × Int32)), hp_I β q.1 a0 = q.2)) ∧ β = F_X6_init α Hs.size a0)) ([.ref a0] : List Value).toArray s 1 0 (hp_A Γ)) (entryFrame m ([.ref a0] : List Value).toArray 1)
  rw [lg_entry_eq]
  generalize (lg_sl ([.ref a0]) ++ List.replicate (1 - (lg_sl ([.ref a0])).length) Slot.unset).toArray = ls at hl ⊢
  have hl : lv_has ls 1 [(0, .ref a0)] := hl
  refine lv_aload_n hx hb dX6_init_0 rfl (lv_at hl 0 rfl) (hp_n (n := 1) rfl ?_)
  refine q_obj (pc' := 4) C ol_X6 hl.1 rfl (by decide) dX6_init_1 rfl ?_
  refine lv_aload_n hx hb dX6_init_4 rfl (lv_at hl 0 rfl) (hp_n (n := 5) rfl ?_)
  refine lv_iconst (v := 0) hx hb dX6_init_5 (by decide) (hp_n (n := 6) rfl ?_)
  refine q_newaZ (κ := 36) (t := 1) (n := 0) (atype := .byte) (ty := .byte) (dv := .int 0) (pc' := 8) C B ac_byte rfl (by decide) rfl rfl (fun _ _ q => q) rfl (fun _ cA => nw_cx (by decide) cA) (by decide) (by decide +kernel) (Nat.le_of_ble_eq_true rfl) rfl (Nat.le_of_ble_eq_true rfl) (Nat.le_of_ble_eq_true rfl) dX6_init_6 rfl (fun q hq => gx_nw B.2.2 (by decide) hq) (fun βh1 ah1 Hh1 fh1 wh1 yh1 eh1 Bh1 => ?_)
  have uh1 : ah1 = Hs.size + (0) := by rw [wh1, Z]
  have nh1 := gx_new B.2.2 O fh1
  have Oh1 : co α a0 7 βh1 [] [] := by rw [eh1]; exact co_nw O fh1
  have kh1 : hp_K βh1 ah1 = 36 := by rw [eh1]; exact nw_k
  have Eh1 : βh1 = (F_X6_init_1 α Hs.size a0) := by rw [eh1, E, uh1]; try rfl
  have Zh1 : Hh1.size = Hs.size + (1) := zzk yh1 Z rfl
  refine W.widen (k := 1) (n := 0) (Nat.le_of_ble_eq_true rfl) (Nat.le_of_ble_eq_true rfl) ?_
  refine q_putnZ (κ := 107) (k := 0) (φ := 350) (pc' := 11) C Bh1 Oh1.1 fl_X6_9 rfl rfl rfl rfl rfl rfl (gx_sN Bh1.2.2 Oh1) dX6_init_8 rfl (fun βh2 Hh2 Lh2 eh2 yh2 Bh2 => ?_)
  have Oh2 : co α a0 7 βh2 [350] [] := by rw [eh2]; exact co_sN Oh1 ⟨(Or.inr ⟨rfl, by rw [kh1]⟩), by rw [kh1]; decide, by rw [kh1]; decide, nh1.1, (fun _ j => by rw [eh1]; exact nw_e)⟩
  have Eh2 : βh2 = (F_X6_init_2 α Hs.size a0) := by rw [eh2, Eh1, uh1]; try rfl
  have Zh2 : Hh2.size = Hs.size + (1) := yh2.trans Zh1
  refine lv_aload_n hx hb dX6_init_11 rfl (lv_at hl 0 rfl) (hp_n (n := 12) rfl ?_)
  refine lv_iconst (v := 0) hx hb dX6_init_12 (by decide) (hp_n (n := 13) rfl ?_)
  refine q_putiZ (κ := 107) (k := 1) (φ := 351) (pc' := 16) C Bh2 Oh2.1 fl_X6_15 rfl rfl rfl rfl rfl rfl (gx_sI Bh2.2.2 (gc_i0 _)) dX6_init_13 rfl (fun βh3 Hh3 Lh3 eh3 yh3 Bh3 => ?_)
  have Oh3 : co α a0 7 βh3 [350] [(351, 0)] := by rw [eh3]; exact co_sI Oh2 (by decide)
  have Eh3 : βh3 = (F_X6_init_3 α Hs.size a0) := by rw [eh3, Eh2]; try rfl
  have Zh3 : Hh3.size = Hs.size + (1) := yh3.trans Zh2
  refine lv_aload_n hx hb dX6_init_16 rfl (lv_at hl 0 rfl) (hp_n (n := 17) rfl ?_)
  refine lv_iconst (v := 0) hx hb dX6_init_17 (by decide) (hp_n (n := 18) rfl ?_)
  refine q_putiZ (κ := 107) (k := 2) (φ := 352) (pc' := 21) C Bh3 Oh3.1 fl_X6_19 rfl rfl rfl rfl rfl rfl (gx_sI Bh3.2.2 (gc_i0 _)) dX6_init_18 rfl (fun βh4 Hh4 Lh4 eh4 yh4 Bh4 => ?_)
  have Oh4 : co α a0 7 βh4 [350] [(352, 0), (351, 0)] := by rw [eh4]; exact co_sI Oh3 (by decide)
  have Eh4 : βh4 = (F_X6_init_4 α Hs.size a0) := by rw [eh4, Eh3]; try rfl
  have Zh4 : Hh4.size = Hs.size + (1) := yh4.trans Zh3
  refine lv_aload_n hx hb dX6_init_21 rfl (lv_at hl 0 rfl) (hp_n (n := 22) rfl ?_)
  refine lv_iconst (v := 0) hx hb dX6_init_22 (by decide) (hp_n (n := 23) rfl ?_)
  refine q_putiZ (κ := 107) (k := 3) (φ := 353) (pc' := 26) C Bh4 Oh4.1 fl_X6_22 rfl rfl rfl rfl rfl rfl (gx_sI Bh4.2.2 (gc_i0 _)) dX6_init_23 rfl (fun βh5 Hh5 Lh5 eh5 yh5 Bh5 => ?_)
  have Oh5 : co α a0 7 βh5 [350] [(353, 0), (352, 0), (351, 0)] := by rw [eh5]; exact co_sI Oh4 (by decide)
  have Eh5 : βh5 = (F_X6_init_5 α Hs.size a0) := by rw [eh5, Eh4]; try rfl
  have Zh5 : Hh5.size = Hs.size + (1) := yh5.trans Zh4
  refine lv_aload_n hx hb dX6_init_26 rfl (lv_at hl 0 rfl) (hp_n (n := 27) rfl ?_)
  refine lv_iconst (v := 0) hx hb dX6_init_27 (by decide) (hp_n (n := 28) rfl ?_)
  refine q_putiZ (κ := 107) (k := 4) (φ := 354) (pc' := 31) C Bh5 Oh5.1 fl_X6_25 rfl rfl rfl rfl rfl rfl (gx_sI Bh5.2.2 (gc_i0 _)) dX6_init_28 rfl (fun βh6 Hh6 Lh6 eh6 yh6 Bh6 => ?_)
  have Oh6 : co α a0 7 βh6 [350] [(354, 0), (353, 0), (352, 0), (351, 0)] := by rw [eh6]; exact co_sI Oh5 (by decide)
  have Eh6 : βh6 = (F_X6_init_6 α Hs.size a0) := by rw [eh6, Eh5]; try rfl
  have Zh6 : Hh6.size = Hs.size + (1) := yh6.trans Zh5
  refine lv_aload_n hx hb dX6_init_31 rfl (lv_at hl 0 rfl) (hp_n (n := 32) rfl ?_)
  refine lv_iconst (v := 0) hx hb dX6_init_32 (by decide) (hp_n (n := 33) rfl ?_)
  refine q_putiZ (κ := 107) (k := 5) (φ := 355) (pc' := 36) C Bh6 Oh6.1 fl_X6_28 rfl rfl rfl rfl rfl rfl (gx_sI Bh6.2.2 (gc_i0 _)) dX6_init_33 rfl (fun βh7 Hh7 Lh7 eh7 yh7 Bh7 => ?_)
  have Oh7 : co α a0 7 βh7 [350] [(355, 0), (354, 0), (353, 0), (352, 0), (351, 0)] := by rw [eh7]; exact co_sI Oh6 (by decide)
  have Eh7 : βh7 = (F_X6_init_7 α Hs.size a0) := by rw [eh7, Eh6]; try rfl
  have Zh7 : Hh7.size = Hs.size + (1) := yh7.trans Zh6
  refine lv_aload_n hx hb dX6_init_36 rfl (lv_at hl 0 rfl) (hp_n (n := 37) rfl ?_)
  refine lv_iconst (v := 0) hx hb dX6_init_37 (by decide) (hp_n (n := 38) rfl ?_)
  refine q_putiZ (κ := 107) (k := 6) (φ := 356) (pc' := 41) C Bh7 Oh7.1 fl_X6_31 rfl rfl rfl rfl rfl rfl (gx_sI Bh7.2.2 (gc_i0 _)) dX6_init_38 rfl (fun βh8 Hh8 Lh8 eh8 yh8 Bh8 => ?_)
  have Oh8 : co α a0 7 βh8 [350] [(356, 0), (355, 0), (354, 0), (353, 0), (352, 0), (351, 0)] := by rw [eh8]; exact co_sI Oh7 (by decide)
  have Eh8 : βh8 = (F_X6_init_8 α Hs.size a0) := by rw [eh8, Eh7]; try rfl
  have Zh8 : Hh8.size = Hs.size + (1) := yh8.trans Zh7
  obtain ⟨Bh9, kh9, fh9, -⟩ := co_fin Bh8 Oh8 (by decide) (by decide) (by decide) (fun q => absurd q (by decide))
  refine W.widen (k := 1) (n := 0) (Nat.le_of_ble_eq_true rfl) (Nat.le_of_ble_eq_true rfl) ?_
  exact q_vretZ C Bh9 Zh8 hr hlk ⟨⟨Bh9.2.2, kh9, fh9⟩, by rw [Eh8]; try rfl⟩ dX6_init_41
def F_X3_init_0 (α : hp_T) (h a0 : Nat) : hp_T := α
def F_X3_init_1 (α : hp_T) (h a0 : Nat) : hp_T := hp_nw (F_X3_init_0 α h a0) (h + (0)) 107
def F_X3_init_2 (α : hp_T) (h a0 : Nat) : hp_T := F_X6_init (F_X3_init_1 α h a0) (h + (1)) (h + (0))
def F_X3_init_3 (α : hp_T) (h a0 : Nat) : hp_T := hp_sN (F_X3_init_2 α h a0) 200 a0 (some (h + (0)))
def F_X3_init_4 (α : hp_T) (h a0 : Nat) : hp_T := hp_nw (F_X3_init_3 α h a0) (h + (2)) 106
def F_X3_init_5 (α : hp_T) (h a0 : Nat) : hp_T := F_X5_init (F_X3_init_4 α h a0) (h + (3)) (h + (2))
def F_X3_init_6 (α : hp_T) (h a0 : Nat) : hp_T := hp_sN (F_X3_init_5 α h a0) 201 a0 (some (h + (2)))
def F_X3_init_7 (α : hp_T) (h a0 : Nat) : hp_T := hp_nw (F_X3_init_6 α h a0) (h + (4)) 109
def F_X3_init_8 (α : hp_T) (h a0 : Nat) : hp_T := F_X8_init (F_X3_init_7 α h a0) (h + (5)) (h + (4))
def F_X3_init_9 (α : hp_T) (h a0 : Nat) : hp_T := hp_sN (F_X3_init_8 α h a0) 202 a0 (some (h + (4)))
def F_X3_init_10 (α : hp_T) (h a0 : Nat) : hp_T := hp_sI (F_X3_init_9 α h a0) 203 a0 65521
def F_X3_init_11 (α : hp_T) (h a0 : Nat) : hp_T := hp_sI (F_X3_init_10 α h a0) 204 a0 (-1)
def F_X3_init_12 (α : hp_T) (h a0 : Nat) : hp_T := hp_sI (F_X3_init_11 α h a0) 205 a0 (-1)
def F_X3_init_13 (α : hp_T) (h a0 : Nat) : hp_T := hp_sI (F_X3_init_12 α h a0) 206 a0 0
def F_X3_init_14 (α : hp_T) (h a0 : Nat) : hp_T := hp_nw (F_X3_init_13 α h a0) (h + (8)) 110
def F_X3_init_15 (α : hp_T) (h a0 : Nat) : hp_T := F_X9_init (F_X3_init_14 α h a0) (h + (9)) (h + (8))
def F_X3_init_16 (α : hp_T) (h a0 : Nat) : hp_T := hp_sN (F_X3_init_15 α h a0) 207 a0 (some (h + (8)))
def F_X3_init_17 (α : hp_T) (h a0 : Nat) : hp_T := hp_sI (F_X3_init_16 α h a0) 208 a0 0
def F_X3_init_18 (α : hp_T) (h a0 : Nat) : hp_T := hp_sI (F_X3_init_17 α h a0) 209 a0 0
def F_X3_init (α : hp_T) (h a0 : Nat) : hp_T := hp_cv (F_X3_init_18 α h a0) a0 4
set_option maxRecDepth 100000 in
set_option maxHeartbeats 4000000 in
theorem u_X3_init (Γ : hp_G) (l : Launch) (α : hp_T) (g : GC α) (Hs : Heap) (a0 : Nat) (k0 : hp_K α a0 = 104) (z0 : ∀ φ, hp_I α φ a0 = 0) : Met l yX3_init (hp_ws yX3_init cX3_init 1 none) (hp_rm 2 10 280) (hp_PcH Γ α Hs [.ref a0]) (hp_QZ Γ (Hs.size + 10) (fun β => (gx a0 α β ∧ hp_K β a0 = 4 ∧ (∀ q ∈ ([(209, 0), (208, 0), (206, 0), (205, (-1)), (204, (-1)), (203, 65521)] : List (Nat × Int32)), hp_I β q.1 a0 = q.2)) ∧ β = F_X3_init α Hs.size a0)) 10 280 (hp_A Γ) := by
  refine hp_startZ (by decide) ?_
  intro p e s m below meth c C hr hlk B0 hnm hHs
  have Z : s.heap.size = Hs.size + 0 := by rw [hHs]; rfl
  have E : α = F_X3_init_0 α Hs.size a0 := rfl
  have C : hp_C Γ p m c cX3_init 1 s ([.ref a0] : List Value).toArray RX3 := C
  have hx := C.1.1
  have hb := C.1.2.1
  have hown := C.1.2.2.2.1
  have hts := C.1.2.2.2.2
  have B : hp_B Γ (gx a0) s α α s.heap [] := ⟨B0.1, B0.2.1, gx_rf g⟩
  have O : co α a0 4 α [] [] := co_0 k0 z0
  have hl := lv_entry ([.ref a0]) (n := 1) (Nat.le_of_ble_eq_true rfl)
  show W p l e (hp_rm 2 10 280) s m ([.ref a0] : List Value).toArray below meth c s.heap [] 0 0 (MQ below (hp_QZ Γ (Hs.size + 10) (fun β => (gx a0 α β ∧ hp_K β a0 = 4 ∧ (∀ q ∈ ([(209, 0), (208, 0), (206, 0), (205, (-1)), (204, (-1)), (203, 65521)] : List (Nat × Int32)), hp_I β q.1 a0 = q.2)) ∧ β = F_X3_init α Hs.size a0)) ([.ref a0] : List Value).toArray s 10 280 (hp_A Γ)) (entryFrame m ([.ref a0] : List Value).toArray 1)
  rw [lg_entry_eq]
  generalize (lg_sl ([.ref a0]) ++ List.replicate (1 - (lg_sl ([.ref a0])).length) Slot.unset).toArray = ls at hl ⊢
  have hl : lv_has ls 1 [(0, .ref a0)] := hl
  refine lv_aload_n hx hb dX3_init_0 rfl (lv_at hl 0 rfl) (hp_n (n := 1) rfl ?_)
  refine q_obj (pc' := 4) C ol_X3 hl.1 rfl (by decide) dX3_init_1 rfl ?_
  refine lv_aload_n hx hb dX3_init_4 rfl (lv_at hl 0 rfl) (hp_n (n := 5) rfl ?_)
  refine q_newZ (κ := 7) (N := 7) (pc' := 8) C B cl_X3_9 it_X6 iz_X6 rfl in_7 tyX6_ok df_7 (by decide) rfl rfl rfl (Nat.le_of_ble_eq_true rfl) (Nat.le_of_ble_eq_true rfl) dX3_init_5 rfl (fun q hq => gx_nw B.2.2 (by decide) hq) (fun βh1 ah1 Hh1 fh1 wh1 yh1 eh1 Bh1 => ?_)
  have uh1 : ah1 = Hs.size + (0) := by rw [wh1, Z]
  have nh1 := gx_new B.2.2 O fh1
  have Oh1 : co α a0 4 βh1 [] [] := by rw [eh1]; exact co_nw O fh1
  have kh1 : hp_K βh1 ah1 = 107 := by rw [eh1]; exact nw_k
  have zh1 : ∀ φ, hp_I βh1 φ ah1 = 0 := fun φ => by rw [eh1]; exact nw_i
  have Eh1 : βh1 = (F_X3_init_1 α Hs.size a0) := by rw [eh1, E, uh1]; try rfl
  have Zh1 : Hh1.size = Hs.size + (1) := zzk yh1 Z rfl
  refine W.widen (k := 1) (n := 7) (Nat.le_of_ble_eq_true rfl) (Nat.le_of_ble_eq_true rfl) ?_
  refine lv_dup hx hb dX3_init_8 rfl (hp_n (n := 9) rfl ?_)
  refine q_cvZ (pc' := 12) Bh1 (hp_runIZ (As := []) (rest := [.ref ah1, .ref a0]) C Bh1 (u_X6_init Γ l βh1 Bh1.2.2.1 Hh1 ah1 kh1 zh1) lb_X6_init rfl li_X6_init lk_X3_11 rfl (by decide) rfl hl.1 rfl (Nat.le_of_ble_eq_true rfl) dX3_init_9 ⟨(Nat.le_of_ble_eq_true rfl), (Nat.le_of_ble_eq_true rfl)⟩) (fun q hq => gx_call Bh1.2.2 hq.1.1 nh1.1) rfl (fun βh2 Hh2 Lh2 yh2 pph2 Bh2 => ?_)
  have ph2 := pph2.1
  have Eh2 : βh2 = (F_X3_init_2 α Hs.size a0) := by rw [pph2.2, Eh1, Zh1, uh1]; try rfl
  have Zh2 : Hh2.size = Hs.size + (2) := zzk yh2 Zh1 rfl
  have Oh2 : co α a0 4 βh2 [] [] := co_call Oh1 ph2.1 nh1.2 (by rw [kh1]; decide)
  have kh2 : hp_K βh2 ah1 = 7 := ph2.2.1
  refine W.widen (k := 2) (n := 7) (Nat.le_of_ble_eq_true rfl) (Nat.le_of_ble_eq_true rfl) ?_
  refine q_putnFZ (κ := 104) (k := 0) (φ := 200) (pc' := 15) C Bh2 Oh2.1 fl_X3_12 rfl rfl rfl hnm rfl rfl rfl rfl (gx_sN Bh2.2.2 Oh2) dX3_init_12 rfl (fun βh3 Hh3 Lh3 eh3 yh3 Bh3 => ?_)
  have Oh3 : co α a0 4 βh3 [200] [] := by rw [eh3]; exact co_sN Oh2 ⟨(Or.inl (by rw [kh2]; rfl)), by rw [kh2]; decide, by rw [kh2]; decide, nh1.1, (by rw [kh2]; intro q; exact absurd q (by decide))⟩
  have Eh3 : βh3 = (F_X3_init_3 α Hs.size a0) := by rw [eh3, Eh2, uh1]; try rfl
  have Zh3 : Hh3.size = Hs.size + (2) := yh3.trans Zh2
  refine lv_aload_n hx hb dX3_init_15 rfl (lv_at hl 0 rfl) (hp_n (n := 16) rfl ?_)
  refine q_newZ (κ := 6) (N := 2) (pc' := 19) C Bh3 cl_X3_18 it_X5 iz_X5 rfl in_6 tyX5_ok df_6 (by decide) rfl rfl rfl (Nat.le_of_ble_eq_true rfl) (Nat.le_of_ble_eq_true rfl) dX3_init_16 rfl (fun q hq => gx_nw Bh3.2.2 (by decide) hq) (fun βh4 ah4 Hh4 fh4 wh4 yh4 eh4 Bh4 => ?_)
  have uh4 : ah4 = Hs.size + (2) := by rw [wh4, Zh3]
  have nh4 := gx_new Bh3.2.2 Oh3 fh4
  have Oh4 : co α a0 4 βh4 [200] [] := by rw [eh4]; exact co_nw Oh3 fh4
  have kh4 : hp_K βh4 ah4 = 106 := by rw [eh4]; exact nw_k
  have zh4 : ∀ φ, hp_I βh4 φ ah4 = 0 := fun φ => by rw [eh4]; exact nw_i
  have Eh4 : βh4 = (F_X3_init_4 α Hs.size a0) := by rw [eh4, Eh3, uh4]; try rfl
  have Zh4 : Hh4.size = Hs.size + (3) := zzk yh4 Zh3 rfl
  refine W.widen (k := 3) (n := 9) (Nat.le_of_ble_eq_true rfl) (Nat.le_of_ble_eq_true rfl) ?_
  refine lv_dup hx hb dX3_init_19 rfl (hp_n (n := 20) rfl ?_)
  refine q_cvZ (pc' := 23) Bh4 (hp_runIZ (As := []) (rest := [.ref ah4, .ref a0]) C Bh4 (u_X5_init Γ l βh4 Bh4.2.2.1 Hh4 ah4 kh4 zh4) lb_X5_init rfl li_X5_init lk_X3_20 rfl (by decide) rfl hl.1 rfl (Nat.le_of_ble_eq_true rfl) dX3_init_20 ⟨(Nat.le_of_ble_eq_true rfl), (Nat.le_of_ble_eq_true rfl)⟩) (fun q hq => gx_call Bh4.2.2 hq.1.1 nh4.1) rfl (fun βh5 Hh5 Lh5 yh5 pph5 Bh5 => ?_)
  have ph5 := pph5.1
  have Eh5 : βh5 = (F_X3_init_5 α Hs.size a0) := by rw [pph5.2, Eh4, Zh4, uh4]; try rfl
  have Zh5 : Hh5.size = Hs.size + (4) := zzk yh5 Zh4 rfl
  have Oh5 : co α a0 4 βh5 [200] [] := co_call Oh4 ph5.1 nh4.2 (by rw [kh4]; decide)
  have kh5 : hp_K βh5 ah4 = 6 := ph5.2.1
  refine W.widen (k := 4) (n := 73) (Nat.le_of_ble_eq_true rfl) (Nat.le_of_ble_eq_true rfl) ?_
  refine q_putnFZ (κ := 104) (k := 1) (φ := 201) (pc' := 26) C Bh5 Oh5.1 fl_X3_21 rfl rfl rfl hnm rfl rfl rfl rfl (gx_sN Bh5.2.2 Oh5) dX3_init_23 rfl (fun βh6 Hh6 Lh6 eh6 yh6 Bh6 => ?_)
  have Oh6 : co α a0 4 βh6 [201, 200] [] := by rw [eh6]; exact co_sN Oh5 ⟨(Or.inl (by rw [kh5]; rfl)), by rw [kh5]; decide, by rw [kh5]; decide, nh4.1, (by rw [kh5]; intro q; exact absurd q (by decide))⟩
  have Eh6 : βh6 = (F_X3_init_6 α Hs.size a0) := by rw [eh6, Eh5, uh4]; try rfl
  have Zh6 : Hh6.size = Hs.size + (4) := yh6.trans Zh5
  refine lv_aload_n hx hb dX3_init_26 rfl (lv_at hl 0 rfl) (hp_n (n := 27) rfl ?_)
  refine q_newZ (κ := 9) (N := 5) (pc' := 30) C Bh6 cl_X3_25 it_X8 iz_X8 rfl in_9 tyX8_ok df_9 (by decide) rfl rfl rfl (Nat.le_of_ble_eq_true rfl) (Nat.le_of_ble_eq_true rfl) dX3_init_27 rfl (fun q hq => gx_nw Bh6.2.2 (by decide) hq) (fun βh7 ah7 Hh7 fh7 wh7 yh7 eh7 Bh7 => ?_)
  have uh7 : ah7 = Hs.size + (4) := by rw [wh7, Zh6]
  have nh7 := gx_new Bh6.2.2 Oh6 fh7
  have Oh7 : co α a0 4 βh7 [201, 200] [] := by rw [eh7]; exact co_nw Oh6 fh7
  have kh7 : hp_K βh7 ah7 = 109 := by rw [eh7]; exact nw_k
  have zh7 : ∀ φ, hp_I βh7 φ ah7 = 0 := fun φ => by rw [eh7]; exact nw_i
  have Eh7 : βh7 = (F_X3_init_7 α Hs.size a0) := by rw [eh7, Eh6, uh7]; try rfl
  have Zh7 : Hh7.size = Hs.size + (5) := zzk yh7 Zh6 rfl
  refine W.widen (k := 5) (n := 78) (Nat.le_of_ble_eq_true rfl) (Nat.le_of_ble_eq_true rfl) ?_
  refine lv_dup hx hb dX3_init_30 rfl (hp_n (n := 31) rfl ?_)
  refine q_cvZ (pc' := 34) Bh7 (hp_runIZ (As := []) (rest := [.ref ah7, .ref a0]) C Bh7 (u_X8_init Γ l βh7 Bh7.2.2.1 Hh7 ah7 kh7 zh7) lb_X8_init rfl li_X8_init lk_X3_27 rfl (by decide) rfl hl.1 rfl (Nat.le_of_ble_eq_true rfl) dX3_init_31 ⟨(Nat.le_of_ble_eq_true rfl), (Nat.le_of_ble_eq_true rfl)⟩) (fun q hq => gx_call Bh7.2.2 hq.1.1 nh7.1) rfl (fun βh8 Hh8 Lh8 yh8 pph8 Bh8 => ?_)
  have ph8 := pph8.1
  have Eh8 : βh8 = (F_X3_init_8 α Hs.size a0) := by rw [pph8.2, Eh7, Zh7, uh7]; try rfl
  have Zh8 : Hh8.size = Hs.size + (8) := zzk yh8 Zh7 rfl
  have Oh8 : co α a0 4 βh8 [201, 200] [] := co_call Oh7 ph8.1 nh7.2 (by rw [kh7]; decide)
  have kh8 : hp_K βh8 ah7 = 9 := ph8.2.1
  refine W.widen (k := 8) (n := 270) (Nat.le_of_ble_eq_true rfl) (Nat.le_of_ble_eq_true rfl) ?_
  refine q_putnFZ (κ := 104) (k := 2) (φ := 202) (pc' := 37) C Bh8 Oh8.1 fl_X3_28 rfl rfl rfl hnm rfl rfl rfl rfl (gx_sN Bh8.2.2 Oh8) dX3_init_34 rfl (fun βh9 Hh9 Lh9 eh9 yh9 Bh9 => ?_)
  have Oh9 : co α a0 4 βh9 [202, 201, 200] [] := by rw [eh9]; exact co_sN Oh8 ⟨(Or.inl (by rw [kh8]; rfl)), by rw [kh8]; decide, by rw [kh8]; decide, nh7.1, (by rw [kh8]; intro q; exact absurd q (by decide))⟩
  have Eh9 : βh9 = (F_X3_init_9 α Hs.size a0) := by rw [eh9, Eh8, uh7]; try rfl
  have Zh9 : Hh9.size = Hs.size + (8) := yh9.trans Zh8
  refine lv_aload_n hx hb dX3_init_37 rfl (lv_at hl 0 rfl) (hp_n (n := 38) rfl ?_)
  refine lv_ldc hx hb hown (hts _ kc_X3_32) dX3_init_38 (hp_n (n := 40) rfl ?_)
  refine q_putiZ (κ := 104) (k := 3) (φ := 203) (pc' := 43) C Bh9 Oh9.1 fl_X3_33 rfl rfl rfl rfl rfl rfl (gx_sI Bh9.2.2 (fun q => absurd q (by decide))) dX3_init_40 rfl (fun βh10 Hh10 Lh10 eh10 yh10 Bh10 => ?_)
  have Oh10 : co α a0 4 βh10 [202, 201, 200] [(203, 65521)] := by rw [eh10]; exact co_sI Oh9 (by decide)
  have Eh10 : βh10 = (F_X3_init_10 α Hs.size a0) := by rw [eh10, Eh9]; try rfl
  have Zh10 : Hh10.size = Hs.size + (8) := yh10.trans Zh9
  refine lv_aload_n hx hb dX3_init_43 rfl (lv_at hl 0 rfl) (hp_n (n := 44) rfl ?_)
  refine lv_iconst (v := (-1)) hx hb dX3_init_44 (by decide) (hp_n (n := 45) rfl ?_)
  refine q_putiZ (κ := 104) (k := 4) (φ := 204) (pc' := 48) C Bh10 Oh10.1 fl_X3_37 rfl rfl rfl rfl rfl rfl (gx_sI Bh10.2.2 (fun q => absurd q (by decide))) dX3_init_45 rfl (fun βh11 Hh11 Lh11 eh11 yh11 Bh11 => ?_)
  have Oh11 : co α a0 4 βh11 [202, 201, 200] [(204, (-1)), (203, 65521)] := by rw [eh11]; exact co_sI Oh10 (by decide)
  have Eh11 : βh11 = (F_X3_init_11 α Hs.size a0) := by rw [eh11, Eh10]; try rfl
  have Zh11 : Hh11.size = Hs.size + (8) := yh11.trans Zh10
  refine lv_aload_n hx hb dX3_init_48 rfl (lv_at hl 0 rfl) (hp_n (n := 49) rfl ?_)
  refine lv_iconst (v := (-1)) hx hb dX3_init_49 (by decide) (hp_n (n := 50) rfl ?_)
  refine q_putiZ (κ := 104) (k := 5) (φ := 205) (pc' := 53) C Bh11 Oh11.1 fl_X3_40 rfl rfl rfl rfl rfl rfl (gx_sI Bh11.2.2 (fun q => absurd q (by decide))) dX3_init_50 rfl (fun βh12 Hh12 Lh12 eh12 yh12 Bh12 => ?_)
  have Oh12 : co α a0 4 βh12 [202, 201, 200] [(205, (-1)), (204, (-1)), (203, 65521)] := by rw [eh12]; exact co_sI Oh11 (by decide)
  have Eh12 : βh12 = (F_X3_init_12 α Hs.size a0) := by rw [eh12, Eh11]; try rfl
  have Zh12 : Hh12.size = Hs.size + (8) := yh12.trans Zh11
  refine lv_aload_n hx hb dX3_init_53 rfl (lv_at hl 0 rfl) (hp_n (n := 54) rfl ?_)
  refine lv_iconst (v := 0) hx hb dX3_init_54 (by decide) (hp_n (n := 55) rfl ?_)
  refine q_putiZ (κ := 104) (k := 6) (φ := 206) (pc' := 58) C Bh12 Oh12.1 fl_X3_43 rfl rfl rfl rfl rfl rfl (gx_sI Bh12.2.2 (gc_i0 _)) dX3_init_55 rfl (fun βh13 Hh13 Lh13 eh13 yh13 Bh13 => ?_)
  have Oh13 : co α a0 4 βh13 [202, 201, 200] [(206, 0), (205, (-1)), (204, (-1)), (203, 65521)] := by rw [eh13]; exact co_sI Oh12 (by decide)
  have Eh13 : βh13 = (F_X3_init_13 α Hs.size a0) := by rw [eh13, Eh12]; try rfl
  have Zh13 : Hh13.size = Hs.size + (8) := yh13.trans Zh12
  refine lv_aload_n hx hb dX3_init_58 rfl (lv_at hl 0 rfl) (hp_n (n := 59) rfl ?_)
  refine q_newZ (κ := 10) (N := 2) (pc' := 62) C Bh13 cl_X3_46 it_X9 iz_X9 rfl in_10 tyX9_ok df_10 (by decide) rfl rfl rfl (Nat.le_of_ble_eq_true rfl) (Nat.le_of_ble_eq_true rfl) dX3_init_59 rfl (fun q hq => gx_nw Bh13.2.2 (by decide) hq) (fun βh14 ah14 Hh14 fh14 wh14 yh14 eh14 Bh14 => ?_)
  have uh14 : ah14 = Hs.size + (8) := by rw [wh14, Zh13]
  have nh14 := gx_new Bh13.2.2 Oh13 fh14
  have Oh14 : co α a0 4 βh14 [202, 201, 200] [(206, 0), (205, (-1)), (204, (-1)), (203, 65521)] := by rw [eh14]; exact co_nw Oh13 fh14
  have kh14 : hp_K βh14 ah14 = 110 := by rw [eh14]; exact nw_k
  have zh14 : ∀ φ, hp_I βh14 φ ah14 = 0 := fun φ => by rw [eh14]; exact nw_i
  have Eh14 : βh14 = (F_X3_init_14 α Hs.size a0) := by rw [eh14, Eh13, uh14]; try rfl
  have Zh14 : Hh14.size = Hs.size + (9) := zzk yh14 Zh13 rfl
  refine W.widen (k := 9) (n := 272) (Nat.le_of_ble_eq_true rfl) (Nat.le_of_ble_eq_true rfl) ?_
  refine lv_dup hx hb dX3_init_62 rfl (hp_n (n := 63) rfl ?_)
  refine q_cvZ (pc' := 66) Bh14 (hp_runIZ (As := []) (rest := [.ref ah14, .ref a0]) C Bh14 (u_X9_init Γ l βh14 Bh14.2.2.1 Hh14 ah14 kh14 zh14) lb_X9_init rfl li_X9_init lk_X3_48 rfl (by decide) rfl hl.1 rfl (Nat.le_of_ble_eq_true rfl) dX3_init_63 ⟨(Nat.le_of_ble_eq_true rfl), (Nat.le_of_ble_eq_true rfl)⟩) (fun q hq => gx_call Bh14.2.2 hq.1.1 nh14.1) rfl (fun βh15 Hh15 Lh15 yh15 pph15 Bh15 => ?_)
  have ph15 := pph15.1
  have Eh15 : βh15 = (F_X3_init_15 α Hs.size a0) := by rw [pph15.2, Eh14, Zh14, uh14]; try rfl
  have Zh15 : Hh15.size = Hs.size + (10) := zzk yh15 Zh14 rfl
  have Oh15 : co α a0 4 βh15 [202, 201, 200] [(206, 0), (205, (-1)), (204, (-1)), (203, 65521)] := co_call Oh14 ph15.1 nh14.2 (by rw [kh14]; decide)
  have kh15 : hp_K βh15 ah14 = 10 := ph15.2.1
  refine W.widen (k := 10) (n := 280) (Nat.le_of_ble_eq_true rfl) (Nat.le_of_ble_eq_true rfl) ?_
  refine q_putnFZ (κ := 104) (k := 7) (φ := 207) (pc' := 69) C Bh15 Oh15.1 fl_X3_49 rfl rfl rfl hnm rfl rfl rfl rfl (gx_sN Bh15.2.2 Oh15) dX3_init_66 rfl (fun βh16 Hh16 Lh16 eh16 yh16 Bh16 => ?_)
  have Oh16 : co α a0 4 βh16 [207, 202, 201, 200] [(206, 0), (205, (-1)), (204, (-1)), (203, 65521)] := by rw [eh16]; exact co_sN Oh15 ⟨(Or.inl (by rw [kh15]; rfl)), by rw [kh15]; decide, by rw [kh15]; decide, nh14.1, (by rw [kh15]; intro q; exact absurd q (by decide))⟩
  have Eh16 : βh16 = (F_X3_init_16 α Hs.size a0) := by rw [eh16, Eh15, uh14]; try rfl
  have Zh16 : Hh16.size = Hs.size + (10) := yh16.trans Zh15
  refine lv_aload_n hx hb dX3_init_69 rfl (lv_at hl 0 rfl) (hp_n (n := 70) rfl ?_)
  refine lv_iconst (v := 0) hx hb dX3_init_70 (by decide) (hp_n (n := 71) rfl ?_)
  refine q_putiZ (κ := 104) (k := 8) (φ := 208) (pc' := 74) C Bh16 Oh16.1 fl_X3_53 rfl rfl rfl rfl rfl rfl (gx_sI Bh16.2.2 (gc_i0 _)) dX3_init_71 rfl (fun βh17 Hh17 Lh17 eh17 yh17 Bh17 => ?_)
  have Oh17 : co α a0 4 βh17 [207, 202, 201, 200] [(208, 0), (206, 0), (205, (-1)), (204, (-1)), (203, 65521)] := by rw [eh17]; exact co_sI Oh16 (by decide)
  have Eh17 : βh17 = (F_X3_init_17 α Hs.size a0) := by rw [eh17, Eh16]; try rfl
  have Zh17 : Hh17.size = Hs.size + (10) := yh17.trans Zh16
  refine lv_aload_n hx hb dX3_init_74 rfl (lv_at hl 0 rfl) (hp_n (n := 75) rfl ?_)
  refine lv_iconst (v := 0) hx hb dX3_init_75 (by decide) (hp_n (n := 76) rfl ?_)
  refine q_putiZ (κ := 104) (k := 9) (φ := 209) (pc' := 79) C Bh17 Oh17.1 fl_X3_56 rfl rfl rfl rfl rfl rfl (gx_sI Bh17.2.2 (gc_i0 _)) dX3_init_76 rfl (fun βh18 Hh18 Lh18 eh18 yh18 Bh18 => ?_)
  have Oh18 : co α a0 4 βh18 [207, 202, 201, 200] [(209, 0), (208, 0), (206, 0), (205, (-1)), (204, (-1)), (203, 65521)] := by rw [eh18]; exact co_sI Oh17 (by decide)
  have Eh18 : βh18 = (F_X3_init_18 α Hs.size a0) := by rw [eh18, Eh17]; try rfl
  have Zh18 : Hh18.size = Hs.size + (10) := yh18.trans Zh17
  obtain ⟨Bh19, kh19, fh19, -⟩ := co_fin Bh18 Oh18 (by decide) (by decide) (by decide) (fun q => absurd q (by decide))
  refine W.widen (k := 10) (n := 280) (Nat.le_of_ble_eq_true rfl) (Nat.le_of_ble_eq_true rfl) ?_
  exact q_vretZ C Bh19 Zh18 hr hlk ⟨⟨Bh19.2.2, kh19, fh19⟩, by rw [Eh18]; try rfl⟩ dX3_init_79
def F_X10_init_0 (α : hp_T) (h a0 : Nat) : hp_T := α
def F_X10_init_1 (α : hp_T) (h a0 : Nat) : hp_T := hp_sI (F_X10_init_0 α h a0) 550 a0 65521
def F_X10_init_2 (α : hp_T) (h a0 : Nat) : hp_T := hp_nw (F_X10_init_1 α h a0) (h + (0)) 30
def F_X10_init_3 (α : hp_T) (h a0 : Nat) : hp_T := hp_sN (F_X10_init_2 α h a0) 551 a0 (some (h + (0)))
def F_X10_init_4 (α : hp_T) (h a0 : Nat) : hp_T := hp_sI (F_X10_init_3 α h a0) 552 a0 1
def F_X10_init_5 (α : hp_T) (h a0 : Nat) : hp_T := hp_nw (F_X10_init_4 α h a0) (h + (1)) 31
def F_X10_init_6 (α : hp_T) (h a0 : Nat) : hp_T := hp_sN (F_X10_init_5 α h a0) 553 a0 (some (h + (1)))
def F_X10_init_7 (α : hp_T) (h a0 : Nat) : hp_T := hp_sI (F_X10_init_6 α h a0) 554 a0 0
def F_X10_init_8 (α : hp_T) (h a0 : Nat) : hp_T := hp_nw (F_X10_init_7 α h a0) (h + (2)) 32
def F_X10_init_9 (α : hp_T) (h a0 : Nat) : hp_T := hp_sN (F_X10_init_8 α h a0) 555 a0 (some (h + (2)))
def F_X10_init_10 (α : hp_T) (h a0 : Nat) : hp_T := hp_sI (F_X10_init_9 α h a0) 556 a0 0
def F_X10_init_11 (α : hp_T) (h a0 : Nat) : hp_T := hp_nw (F_X10_init_10 α h a0) (h + (3)) 33
def F_X10_init_12 (α : hp_T) (h a0 : Nat) : hp_T := hp_sN (F_X10_init_11 α h a0) 557 a0 (some (h + (3)))
def F_X10_init_13 (α : hp_T) (h a0 : Nat) : hp_T := hp_nw (F_X10_init_12 α h a0) (h + (4)) 106
def F_X10_init_14 (α : hp_T) (h a0 : Nat) : hp_T := F_X5_init (F_X10_init_13 α h a0) (h + (5)) (h + (4))
def F_X10_init_15 (α : hp_T) (h a0 : Nat) : hp_T := hp_sN (F_X10_init_14 α h a0) 558 a0 (some (h + (4)))
def F_X10_init_16 (α : hp_T) (h a0 : Nat) : hp_T := hp_nw (F_X10_init_15 α h a0) (h + (6)) 109
def F_X10_init_17 (α : hp_T) (h a0 : Nat) : hp_T := F_X8_init (F_X10_init_16 α h a0) (h + (7)) (h + (6))
def F_X10_init_18 (α : hp_T) (h a0 : Nat) : hp_T := hp_sN (F_X10_init_17 α h a0) 559 a0 (some (h + (6)))
def FL_X10_init_82 (α : hp_T) (h a0 : Nat) : Nat → hp_T
  | 0 => (F_X10_init_18 α h a0)
  | j82 + 1 => (hp_sQ (F_X2_init (hp_nw (FL_X10_init_82 α h a0 j82) (h + (10 + 99 * j82)) 103) (h + (10 + 99 * j82 + 1)) (h + (10 + 99 * j82))) 30 ((hp_N (FL_X10_init_82 α h a0 j82) 551 a0).getD 0) (j82) (some (h + (10 + 99 * j82))))
def FL_X10_init_112 (α : hp_T) (h a0 : Nat) : Nat → hp_T
  | 0 => (FL_X10_init_82 α h a0 4)
  | j112 + 1 => (hp_sQ (F_X1_init (hp_nw (FL_X10_init_112 α h a0 j112) (h + (406 + 3 * j112)) 102) (h + (406 + 3 * j112 + 1)) (h + (406 + 3 * j112))) 31 ((hp_N (FL_X10_init_112 α h a0 j112) 553 a0).getD 0) (j112) (some (h + (406 + 3 * j112))))
def FL_X10_init_142 (α : hp_T) (h a0 : Nat) : Nat → hp_T
  | 0 => (FL_X10_init_112 α h a0 16)
  | j142 + 1 => (hp_sQ (F_X7_init (hp_nw (FL_X10_init_142 α h a0 j142) (h + (454 + 1 * j142)) 108) (h + (454 + 1 * j142 + 1)) (h + (454 + 1 * j142))) 32 ((hp_N (FL_X10_init_142 α h a0 j142) 555 a0).getD 0) (j142) (some (h + (454 + 1 * j142))))
def F_X10_init (α : hp_T) (h a0 : Nat) : hp_T := hp_cv (FL_X10_init_142 α h a0 4) a0 11
set_option maxRecDepth 100000 in
set_option maxHeartbeats 4000000 in
theorem u_X10_init (Γ : hp_G) (l : Launch) (α : hp_T) (g : GC α) (Hs : Heap) (a0 : Nat) (k0 : hp_K α a0 = 111) (z0 : ∀ φ, hp_I α φ a0 = 0) : Met l yX10_init (hp_ws yX10_init cX10_init 2 none) (hp_rm 3 458 3803) (hp_PcH Γ α Hs [.ref a0]) (hp_QZ Γ (Hs.size + 458) (fun β => (gx a0 α β ∧ hp_K β a0 = 11 ∧ (∀ q ∈ ([(556, 0), (554, 0), (552, 1), (550, 65521)] : List (Nat × Int32)), hp_I β q.1 a0 = q.2)) ∧ β = F_X10_init α Hs.size a0)) 458 3803 (hp_A Γ) := by
  refine hp_startZ (by decide) ?_
  intro p e s m below meth c C hr hlk B0 hnm hHs
  have Z : s.heap.size = Hs.size + 0 := by rw [hHs]; rfl
  have E : α = F_X10_init_0 α Hs.size a0 := rfl
  have C : hp_C Γ p m c cX10_init 2 s ([.ref a0] : List Value).toArray RX10 := C
  have hx := C.1.1
  have hb := C.1.2.1
  have hown := C.1.2.2.2.1
  have hts := C.1.2.2.2.2
  have B : hp_B Γ (gx a0) s α α s.heap [] := ⟨B0.1, B0.2.1, gx_rf g⟩
  have O : co α a0 11 α [] [] := co_0 k0 z0
  have hl := lv_entry ([.ref a0]) (n := 2) (Nat.le_of_ble_eq_true rfl)
  show W p l e (hp_rm 3 458 3803) s m ([.ref a0] : List Value).toArray below meth c s.heap [] 0 0 (MQ below (hp_QZ Γ (Hs.size + 458) (fun β => (gx a0 α β ∧ hp_K β a0 = 11 ∧ (∀ q ∈ ([(556, 0), (554, 0), (552, 1), (550, 65521)] : List (Nat × Int32)), hp_I β q.1 a0 = q.2)) ∧ β = F_X10_init α Hs.size a0)) ([.ref a0] : List Value).toArray s 458 3803 (hp_A Γ)) (entryFrame m ([.ref a0] : List Value).toArray 2)
  rw [lg_entry_eq]
  generalize (lg_sl ([.ref a0]) ++ List.replicate (2 - (lg_sl ([.ref a0])).length) Slot.unset).toArray = ls at hl ⊢
  have hl : lv_has ls 2 [(0, .ref a0)] := hl
  refine lv_aload_n hx hb dX10_init_0 rfl (lv_at hl 0 rfl) (hp_n (n := 1) rfl ?_)
  refine q_obj (pc' := 4) C ol_X10 hl.1 rfl (by decide) dX10_init_1 rfl ?_
  refine lv_aload_n hx hb dX10_init_4 rfl (lv_at hl 0 rfl) (hp_n (n := 5) rfl ?_)
  refine lv_ldc hx hb hown (hts _ kc_X10_9) dX10_init_5 (hp_n (n := 7) rfl ?_)
  refine q_putiZ (κ := 111) (k := 0) (φ := 550) (pc' := 10) C B O.1 fl_X10_10 rfl rfl rfl rfl rfl rfl (gx_sI B.2.2 (fun q => absurd q (by decide))) dX10_init_7 rfl (fun βh1 Hh1 Lh1 eh1 yh1 Bh1 => ?_)
  have Oh1 : co α a0 11 βh1 [] [(550, 65521)] := by rw [eh1]; exact co_sI O (by decide)
  have Eh1 : βh1 = (F_X10_init_1 α Hs.size a0) := by rw [eh1, E]; try rfl
  have Zh1 : Hh1.size = Hs.size + (0) := yh1.trans Z
  refine lv_aload_n hx hb dX10_init_10 rfl (lv_at hl 0 rfl) (hp_n (n := 11) rfl ?_)
  refine lv_iconst (v := 4) hx hb dX10_init_11 (by decide) (hp_n (n := 12) rfl ?_)
  refine q_anewZ (κ := 30) (t := 4) (n := 4) (Cn := "ProvenRecord$Log") (pc' := 15) C Bh1 cl_X10_16 ao_X2 (by decide) rfl (by decide) rfl (by decide) (by decide +kernel) (Nat.le_of_ble_eq_true rfl) rfl (Nat.le_of_ble_eq_true rfl) (Nat.le_of_ble_eq_true rfl) dX10_init_12 rfl (fun q hq => gx_nw Bh1.2.2 (by decide) hq) (fun βh2 ah2 Hh2 fh2 wh2 yh2 eh2 Bh2 => ?_)
  have uh2 : ah2 = Hs.size + (0) := by rw [wh2, Zh1]
  have nh2 := gx_new Bh1.2.2 Oh1 fh2
  have Oh2 : co α a0 11 βh2 [] [(550, 65521)] := by rw [eh2]; exact co_nw Oh1 fh2
  have kh2 : hp_K βh2 ah2 = 30 := by rw [eh2]; exact nw_k
  have Eh2 : βh2 = (F_X10_init_2 α Hs.size a0) := by rw [eh2, Eh1, uh2]; try rfl
  have Zh2 : Hh2.size = Hs.size + (1) := zzk yh2 Zh1 rfl
  refine W.widen (k := 1) (n := 4) (Nat.le_of_ble_eq_true rfl) (Nat.le_of_ble_eq_true rfl) ?_
  refine q_putnFZ (κ := 111) (k := 1) (φ := 551) (pc' := 18) C Bh2 Oh2.1 fl_X10_18 rfl rfl rfl hnm rfl rfl rfl rfl (gx_sN Bh2.2.2 Oh2) dX10_init_15 rfl (fun βh3 Hh3 Lh3 eh3 yh3 Bh3 => ?_)
  have Oh3 : co α a0 11 βh3 [551] [(550, 65521)] := by rw [eh3]; exact co_sN Oh2 ⟨(Or.inl (by rw [kh2]; rfl)), by rw [kh2]; decide, by rw [kh2]; decide, nh2.1, (fun _ j => by rw [eh2]; exact nw_e)⟩
  have Eh3 : βh3 = (F_X10_init_3 α Hs.size a0) := by rw [eh3, Eh2, uh2]; try rfl
  have Zh3 : Hh3.size = Hs.size + (1) := yh3.trans Zh2
  refine lv_aload_n hx hb dX10_init_18 rfl (lv_at hl 0 rfl) (hp_n (n := 19) rfl ?_)
  refine lv_iconst (v := 1) hx hb dX10_init_19 (by decide) (hp_n (n := 20) rfl ?_)
  refine q_putiZ (κ := 111) (k := 2) (φ := 552) (pc' := 23) C Bh3 Oh3.1 fl_X10_22 rfl rfl rfl rfl rfl rfl (gx_sI Bh3.2.2 (fun q => absurd q (by decide))) dX10_init_20 rfl (fun βh4 Hh4 Lh4 eh4 yh4 Bh4 => ?_)
  have Oh4 : co α a0 11 βh4 [551] [(552, 1), (550, 65521)] := by rw [eh4]; exact co_sI Oh3 (by decide)
  have Eh4 : βh4 = (F_X10_init_4 α Hs.size a0) := by rw [eh4, Eh3]; try rfl
  have Zh4 : Hh4.size = Hs.size + (1) := yh4.trans Zh3
  refine lv_aload_n hx hb dX10_init_23 rfl (lv_at hl 0 rfl) (hp_n (n := 24) rfl ?_)
  refine lv_bipush (v := 16) hx hb dX10_init_24 (by decide) (hp_n (n := 26) rfl ?_)
  refine q_anewZ (κ := 31) (t := 5) (n := 16) (Cn := "ProvenRecord$Frozen") (pc' := 29) C Bh4 cl_X10_25 ao_X1 (by decide) rfl (by decide) rfl (by decide) (by decide +kernel) (Nat.le_of_ble_eq_true rfl) rfl (Nat.le_of_ble_eq_true rfl) (Nat.le_of_ble_eq_true rfl) dX10_init_26 rfl (fun q hq => gx_nw Bh4.2.2 (by decide) hq) (fun βh5 ah5 Hh5 fh5 wh5 yh5 eh5 Bh5 => ?_)
  have uh5 : ah5 = Hs.size + (1) := by rw [wh5, Zh4]
  have nh5 := gx_new Bh4.2.2 Oh4 fh5
  have Oh5 : co α a0 11 βh5 [551] [(552, 1), (550, 65521)] := by rw [eh5]; exact co_nw Oh4 fh5
  have kh5 : hp_K βh5 ah5 = 31 := by rw [eh5]; exact nw_k
  have Eh5 : βh5 = (F_X10_init_5 α Hs.size a0) := by rw [eh5, Eh4, uh5]; try rfl
  have Zh5 : Hh5.size = Hs.size + (2) := zzk yh5 Zh4 rfl
  refine W.widen (k := 2) (n := 20) (Nat.le_of_ble_eq_true rfl) (Nat.le_of_ble_eq_true rfl) ?_
  refine q_putnFZ (κ := 111) (k := 3) (φ := 553) (pc' := 32) C Bh5 Oh5.1 fl_X10_27 rfl rfl rfl hnm rfl rfl rfl rfl (gx_sN Bh5.2.2 Oh5) dX10_init_29 rfl (fun βh6 Hh6 Lh6 eh6 yh6 Bh6 => ?_)
  have Oh6 : co α a0 11 βh6 [553, 551] [(552, 1), (550, 65521)] := by rw [eh6]; exact co_sN Oh5 ⟨(Or.inl (by rw [kh5]; rfl)), by rw [kh5]; decide, by rw [kh5]; decide, nh5.1, (fun _ j => by rw [eh5]; exact nw_e)⟩
  have Eh6 : βh6 = (F_X10_init_6 α Hs.size a0) := by rw [eh6, Eh5, uh5]; try rfl
  have Zh6 : Hh6.size = Hs.size + (2) := yh6.trans Zh5
  refine lv_aload_n hx hb dX10_init_32 rfl (lv_at hl 0 rfl) (hp_n (n := 33) rfl ?_)
  refine lv_iconst (v := 0) hx hb dX10_init_33 (by decide) (hp_n (n := 34) rfl ?_)
  refine q_putiZ (κ := 111) (k := 4) (φ := 554) (pc' := 37) C Bh6 Oh6.1 fl_X10_31 rfl rfl rfl rfl rfl rfl (gx_sI Bh6.2.2 (gc_i0 _)) dX10_init_34 rfl (fun βh7 Hh7 Lh7 eh7 yh7 Bh7 => ?_)
  have Oh7 : co α a0 11 βh7 [553, 551] [(554, 0), (552, 1), (550, 65521)] := by rw [eh7]; exact co_sI Oh6 (by decide)
  have Eh7 : βh7 = (F_X10_init_7 α Hs.size a0) := by rw [eh7, Eh6]; try rfl
  have Zh7 : Hh7.size = Hs.size + (2) := yh7.trans Zh6
  refine lv_aload_n hx hb dX10_init_37 rfl (lv_at hl 0 rfl) (hp_n (n := 38) rfl ?_)
  refine lv_iconst (v := 4) hx hb dX10_init_38 (by decide) (hp_n (n := 39) rfl ?_)
  refine q_anewZ (κ := 32) (t := 6) (n := 4) (Cn := "ProvenRecord$Watcher") (pc' := 42) C Bh7 cl_X10_34 ao_X7 (by decide) rfl (by decide) rfl (by decide) (by decide +kernel) (Nat.le_of_ble_eq_true rfl) rfl (Nat.le_of_ble_eq_true rfl) (Nat.le_of_ble_eq_true rfl) dX10_init_39 rfl (fun q hq => gx_nw Bh7.2.2 (by decide) hq) (fun βh8 ah8 Hh8 fh8 wh8 yh8 eh8 Bh8 => ?_)
  have uh8 : ah8 = Hs.size + (2) := by rw [wh8, Zh7]
  have nh8 := gx_new Bh7.2.2 Oh7 fh8
  have Oh8 : co α a0 11 βh8 [553, 551] [(554, 0), (552, 1), (550, 65521)] := by rw [eh8]; exact co_nw Oh7 fh8
  have kh8 : hp_K βh8 ah8 = 32 := by rw [eh8]; exact nw_k
  have Eh8 : βh8 = (F_X10_init_8 α Hs.size a0) := by rw [eh8, Eh7, uh8]; try rfl
  have Zh8 : Hh8.size = Hs.size + (3) := zzk yh8 Zh7 rfl
  refine W.widen (k := 3) (n := 24) (Nat.le_of_ble_eq_true rfl) (Nat.le_of_ble_eq_true rfl) ?_
  refine q_putnFZ (κ := 111) (k := 5) (φ := 555) (pc' := 45) C Bh8 Oh8.1 fl_X10_36 rfl rfl rfl hnm rfl rfl rfl rfl (gx_sN Bh8.2.2 Oh8) dX10_init_42 rfl (fun βh9 Hh9 Lh9 eh9 yh9 Bh9 => ?_)
  have Oh9 : co α a0 11 βh9 [555, 553, 551] [(554, 0), (552, 1), (550, 65521)] := by rw [eh9]; exact co_sN Oh8 ⟨(Or.inl (by rw [kh8]; rfl)), by rw [kh8]; decide, by rw [kh8]; decide, nh8.1, (fun _ j => by rw [eh8]; exact nw_e)⟩
  have Eh9 : βh9 = (F_X10_init_9 α Hs.size a0) := by rw [eh9, Eh8, uh8]; try rfl
  have Zh9 : Hh9.size = Hs.size + (3) := yh9.trans Zh8
  refine lv_aload_n hx hb dX10_init_45 rfl (lv_at hl 0 rfl) (hp_n (n := 46) rfl ?_)
  refine lv_iconst (v := 0) hx hb dX10_init_46 (by decide) (hp_n (n := 47) rfl ?_)
  refine q_putiZ (κ := 111) (k := 6) (φ := 556) (pc' := 50) C Bh9 Oh9.1 fl_X10_40 rfl rfl rfl rfl rfl rfl (gx_sI Bh9.2.2 (gc_i0 _)) dX10_init_47 rfl (fun βh10 Hh10 Lh10 eh10 yh10 Bh10 => ?_)
  have Oh10 : co α a0 11 βh10 [555, 553, 551] [(556, 0), (554, 0), (552, 1), (550, 65521)] := by rw [eh10]; exact co_sI Oh9 (by decide)
  have Eh10 : βh10 = (F_X10_init_10 α Hs.size a0) := by rw [eh10, Eh9]; try rfl
  have Zh10 : Hh10.size = Hs.size + (3) := yh10.trans Zh9
  refine lv_aload_n hx hb dX10_init_50 rfl (lv_at hl 0 rfl) (hp_n (n := 51) rfl ?_)
  refine lv_bipush (v := 48) hx hb dX10_init_51 (by decide) (hp_n (n := 53) rfl ?_)
  refine q_newaZ (κ := 33) (t := 0) (n := 48) (atype := .int) (ty := .int) (dv := .int 0) (pc' := 55) C Bh10 ac_int rfl (by decide) rfl rfl (fun _ _ q => q) rfl (fun _ cA => nw_cx (by decide) cA) (by decide) (by decide +kernel) (Nat.le_of_ble_eq_true rfl) rfl (Nat.le_of_ble_eq_true rfl) (Nat.le_of_ble_eq_true rfl) dX10_init_53 rfl (fun q hq => gx_nw Bh10.2.2 (by decide) hq) (fun βh11 ah11 Hh11 fh11 wh11 yh11 eh11 Bh11 => ?_)
  have uh11 : ah11 = Hs.size + (3) := by rw [wh11, Zh10]
  have nh11 := gx_new Bh10.2.2 Oh10 fh11
  have Oh11 : co α a0 11 βh11 [555, 553, 551] [(556, 0), (554, 0), (552, 1), (550, 65521)] := by rw [eh11]; exact co_nw Oh10 fh11
  have kh11 : hp_K βh11 ah11 = 33 := by rw [eh11]; exact nw_k
  have Eh11 : βh11 = (F_X10_init_11 α Hs.size a0) := by rw [eh11, Eh10, uh11]; try rfl
  have Zh11 : Hh11.size = Hs.size + (4) := zzk yh11 Zh10 rfl
  refine W.widen (k := 4) (n := 72) (Nat.le_of_ble_eq_true rfl) (Nat.le_of_ble_eq_true rfl) ?_
  refine q_putnFZ (κ := 111) (k := 7) (φ := 557) (pc' := 58) C Bh11 Oh11.1 fl_X10_43 rfl rfl rfl hnm rfl rfl rfl rfl (gx_sN Bh11.2.2 Oh11) dX10_init_55 rfl (fun βh12 Hh12 Lh12 eh12 yh12 Bh12 => ?_)
  have Oh12 : co α a0 11 βh12 [557, 555, 553, 551] [(556, 0), (554, 0), (552, 1), (550, 65521)] := by rw [eh12]; exact co_sN Oh11 ⟨(Or.inl (by rw [kh11]; rfl)), by rw [kh11]; decide, by rw [kh11]; decide, nh11.1, (fun _ j => by rw [eh11]; exact nw_e)⟩
  have Eh12 : βh12 = (F_X10_init_12 α Hs.size a0) := by rw [eh12, Eh11, uh11]; try rfl
  have Zh12 : Hh12.size = Hs.size + (4) := yh12.trans Zh11
  refine lv_aload_n hx hb dX10_init_58 rfl (lv_at hl 0 rfl) (hp_n (n := 59) rfl ?_)
  refine q_newZ (κ := 6) (N := 2) (pc' := 62) C Bh12 cl_X10_47 it_X5 iz_X5 rfl in_6 tyX5_ok df_6 (by decide) rfl rfl rfl (Nat.le_of_ble_eq_true rfl) (Nat.le_of_ble_eq_true rfl) dX10_init_59 rfl (fun q hq => gx_nw Bh12.2.2 (by decide) hq) (fun βh13 ah13 Hh13 fh13 wh13 yh13 eh13 Bh13 => ?_)
  have uh13 : ah13 = Hs.size + (4) := by rw [wh13, Zh12]
  have nh13 := gx_new Bh12.2.2 Oh12 fh13
  have Oh13 : co α a0 11 βh13 [557, 555, 553, 551] [(556, 0), (554, 0), (552, 1), (550, 65521)] := by rw [eh13]; exact co_nw Oh12 fh13
  have kh13 : hp_K βh13 ah13 = 106 := by rw [eh13]; exact nw_k
  have zh13 : ∀ φ, hp_I βh13 φ ah13 = 0 := fun φ => by rw [eh13]; exact nw_i
  have Eh13 : βh13 = (F_X10_init_13 α Hs.size a0) := by rw [eh13, Eh12, uh13]; try rfl
  have Zh13 : Hh13.size = Hs.size + (5) := zzk yh13 Zh12 rfl
  refine W.widen (k := 5) (n := 74) (Nat.le_of_ble_eq_true rfl) (Nat.le_of_ble_eq_true rfl) ?_
  refine lv_dup hx hb dX10_init_62 rfl (hp_n (n := 63) rfl ?_)
  refine q_cvZ (pc' := 66) Bh13 (hp_runIZ (As := []) (rest := [.ref ah13, .ref a0]) C Bh13 (u_X5_init Γ l βh13 Bh13.2.2.1 Hh13 ah13 kh13 zh13) lb_X5_init rfl li_X5_init lk_X10_49 rfl (by decide) rfl hl.1 rfl (Nat.le_of_ble_eq_true rfl) dX10_init_63 ⟨(Nat.le_of_ble_eq_true rfl), (Nat.le_of_ble_eq_true rfl)⟩) (fun q hq => gx_call Bh13.2.2 hq.1.1 nh13.1) rfl (fun βh14 Hh14 Lh14 yh14 pph14 Bh14 => ?_)
  have ph14 := pph14.1
  have Eh14 : βh14 = (F_X10_init_14 α Hs.size a0) := by rw [pph14.2, Eh13, Zh13, uh13]; try rfl
  have Zh14 : Hh14.size = Hs.size + (6) := zzk yh14 Zh13 rfl
  have Oh14 : co α a0 11 βh14 [557, 555, 553, 551] [(556, 0), (554, 0), (552, 1), (550, 65521)] := co_call Oh13 ph14.1 nh13.2 (by rw [kh13]; decide)
  have kh14 : hp_K βh14 ah13 = 6 := ph14.2.1
  refine W.widen (k := 6) (n := 138) (Nat.le_of_ble_eq_true rfl) (Nat.le_of_ble_eq_true rfl) ?_
  refine q_putnFZ (κ := 111) (k := 8) (φ := 558) (pc' := 69) C Bh14 Oh14.1 fl_X10_50 rfl rfl rfl hnm rfl rfl rfl rfl (gx_sN Bh14.2.2 Oh14) dX10_init_66 rfl (fun βh15 Hh15 Lh15 eh15 yh15 Bh15 => ?_)
  have Oh15 : co α a0 11 βh15 [558, 557, 555, 553, 551] [(556, 0), (554, 0), (552, 1), (550, 65521)] := by rw [eh15]; exact co_sN Oh14 ⟨(Or.inl (by rw [kh14]; rfl)), by rw [kh14]; decide, by rw [kh14]; decide, nh13.1, (by rw [kh14]; intro q; exact absurd q (by decide))⟩
  have Eh15 : βh15 = (F_X10_init_15 α Hs.size a0) := by rw [eh15, Eh14, uh13]; try rfl
  have Zh15 : Hh15.size = Hs.size + (6) := yh15.trans Zh14
  refine lv_aload_n hx hb dX10_init_69 rfl (lv_at hl 0 rfl) (hp_n (n := 70) rfl ?_)
  refine q_newZ (κ := 9) (N := 5) (pc' := 73) C Bh15 cl_X10_54 it_X8 iz_X8 rfl in_9 tyX8_ok df_9 (by decide) rfl rfl rfl (Nat.le_of_ble_eq_true rfl) (Nat.le_of_ble_eq_true rfl) dX10_init_70 rfl (fun q hq => gx_nw Bh15.2.2 (by decide) hq) (fun βh16 ah16 Hh16 fh16 wh16 yh16 eh16 Bh16 => ?_)
  have uh16 : ah16 = Hs.size + (6) := by rw [wh16, Zh15]
  have nh16 := gx_new Bh15.2.2 Oh15 fh16
  have Oh16 : co α a0 11 βh16 [558, 557, 555, 553, 551] [(556, 0), (554, 0), (552, 1), (550, 65521)] := by rw [eh16]; exact co_nw Oh15 fh16
  have kh16 : hp_K βh16 ah16 = 109 := by rw [eh16]; exact nw_k
  have zh16 : ∀ φ, hp_I βh16 φ ah16 = 0 := fun φ => by rw [eh16]; exact nw_i
  have Eh16 : βh16 = (F_X10_init_16 α Hs.size a0) := by rw [eh16, Eh15, uh16]; try rfl
  have Zh16 : Hh16.size = Hs.size + (7) := zzk yh16 Zh15 rfl
  refine W.widen (k := 7) (n := 143) (Nat.le_of_ble_eq_true rfl) (Nat.le_of_ble_eq_true rfl) ?_
  refine lv_dup hx hb dX10_init_73 rfl (hp_n (n := 74) rfl ?_)
  refine q_cvZ (pc' := 77) Bh16 (hp_runIZ (As := []) (rest := [.ref ah16, .ref a0]) C Bh16 (u_X8_init Γ l βh16 Bh16.2.2.1 Hh16 ah16 kh16 zh16) lb_X8_init rfl li_X8_init lk_X10_56 rfl (by decide) rfl hl.1 rfl (Nat.le_of_ble_eq_true rfl) dX10_init_74 ⟨(Nat.le_of_ble_eq_true rfl), (Nat.le_of_ble_eq_true rfl)⟩) (fun q hq => gx_call Bh16.2.2 hq.1.1 nh16.1) rfl (fun βh17 Hh17 Lh17 yh17 pph17 Bh17 => ?_)
  have ph17 := pph17.1
  have Eh17 : βh17 = (F_X10_init_17 α Hs.size a0) := by rw [pph17.2, Eh16, Zh16, uh16]; try rfl
  have Zh17 : Hh17.size = Hs.size + (10) := zzk yh17 Zh16 rfl
  have Oh17 : co α a0 11 βh17 [558, 557, 555, 553, 551] [(556, 0), (554, 0), (552, 1), (550, 65521)] := co_call Oh16 ph17.1 nh16.2 (by rw [kh16]; decide)
  have kh17 : hp_K βh17 ah16 = 9 := ph17.2.1
  refine W.widen (k := 10) (n := 335) (Nat.le_of_ble_eq_true rfl) (Nat.le_of_ble_eq_true rfl) ?_
  refine q_putnFZ (κ := 111) (k := 9) (φ := 559) (pc' := 80) C Bh17 Oh17.1 fl_X10_57 rfl rfl rfl hnm rfl rfl rfl rfl (gx_sN Bh17.2.2 Oh17) dX10_init_77 rfl (fun βh18 Hh18 Lh18 eh18 yh18 Bh18 => ?_)
  have Oh18 : co α a0 11 βh18 [559, 558, 557, 555, 553, 551] [(556, 0), (554, 0), (552, 1), (550, 65521)] := by rw [eh18]; exact co_sN Oh17 ⟨(Or.inl (by rw [kh17]; rfl)), by rw [kh17]; decide, by rw [kh17]; decide, nh16.1, (by rw [kh17]; intro q; exact absurd q (by decide))⟩
  have Eh18 : βh18 = (F_X10_init_18 α Hs.size a0) := by rw [eh18, Eh17, uh16]; try rfl
  have Zh18 : Hh18.size = Hs.size + (10) := yh18.trans Zh17
  refine lv_iconst (v := 0) hx hb dX10_init_80 (by decide) (hp_n (n := 81) rfl ?_)
  refine lv_istore_n (lv' := [(1, .int 0), (0, .ref a0)]) hx hb dX10_init_81 rfl hl (by decide) rfl (fun ls hl => hp_n (n := 82) rfl ?_)
  have J82 : ∀ (nq : Nat) (βh19 : hp_T) (Hh19 : Heap) (Lh19 : List Loc) (Bh19 : hp_B Γ (gx a0) s α βh19 Hh19 Lh19) (Oh19 : co α a0 11 βh19 [559, 558, 557, 555, 553, 551] [(556, 0), (554, 0), (552, 1), (550, 65521)]) (vh19 : Int32) (j82 : Nat) (Eh19 : βh19 = FL_X10_init_82 α Hs.size a0 j82) (Zh19 : Hh19.size = Hs.size + (10 + 99 * j82)) (hk82 : vh19.toInt = (j82 : Int)) (hj82 : j82 ≤ 4) (hm82 : 4 - j82 = nq) (ls : Array Slot) (hl : lv_has ls 2 [(0, .ref a0), (1, .int vh19)]), W p l e (hp_rm 3 458 3803) s m ([.ref a0] : List Value).toArray below meth c Hh19 Lh19 (10 + 99 * j82) (335 + 579 * j82) (MQ below (hp_QZ Γ (Hs.size + 458) (fun β => (gx a0 α β ∧ hp_K β a0 = 11 ∧ (∀ q ∈ ([(556, 0), (554, 0), (552, 1), (550, 65521)] : List (Nat × Int32)), hp_I β q.1 a0 = q.2)) ∧ β = F_X10_init α Hs.size a0)) ([.ref a0] : List Value).toArray s 458 3803 (hp_A Γ)) (F0 m 82 ls []) := by
    intro nq
    induction nq using Nat.strongRecOn with
    | ind nq ih82 =>
    intro βh19 Hh19 Lh19 Bh19 Oh19 vh19 j82 Eh19 Zh19 hk82 hj82 hm82 ls hl
    have litn : (4 : Int32).toInt = 4 := by decide
    obtain ⟨xh19, x1h19, x2h19, x3h19, -, x5h19, -⟩ := Oh19.2.1 551 (by decide)
    have kxh19 : hp_K βh19 xh19 = 30 := by rcases x2h19 with q | q; exact q; exact absurd q.1 (by decide)
    have lth19 : hp_K βh19 xh19 ≠ 0 ∧ True := ⟨x3h19, trivial⟩
    have cch19 : vh19.toNatClampNeg = j82 := cl_n hk82
    have xxh19 : (hp_N (FL_X10_init_82 α Hs.size a0 j82) 551 a0).getD 0 = xh19 := by rw [← Eh19, x1h19]; rfl
    refine lv_iload_n hx hb dX10_init_82 rfl (lv_at hl 1 rfl) (hp_n (n := 83) rfl ?_)
    refine lv_aload_n hx hb dX10_init_83 rfl (lv_at hl 0 rfl) (hp_n (n := 84) rfl ?_)
    refine q_get (v := .ref xh19) (κ := 111) (k := 1) (t := 3) (pc' := 87) C Bh19 Oh19.1 fl_X10_18 rfl rfl (by show va_rf (hp_N βh19 551 a0) = _; rw [x1h19]; rfl) dX10_init_84 rfl ?_
    refine q_alen (κ := 30) (t := 4) (n := 4) (x := 4) (ty := .object "ProvenRecord$Log") (pc' := 88) C Bh19 kxh19 (by decide) rfl rfl rfl dX10_init_87 rfl ?_
    refine lv_icmp_ge (tgt := 110) hx hb dX10_init_88 (by decide) (fun cq => ?_) (fun cq => hp_n (n := 91) rfl ?_)
    · have cq := il_le cq
      rw [litn] at cq
      have jn : j82 = 4 := by omega
      have Eq20 : βh19 = FL_X10_init_82 α Hs.size a0 4 := by rw [Eh19, jn]
      have Zq20 : Hh19.size = Hs.size + (406) := by rw [Zh19, jn]
      refine W.widen (k := 406) (n := 2651) (by omega) (by omega) ?_
      refine lv_iconst (v := 0) hx hb dX10_init_110 (by decide) (hp_n (n := 111) rfl ?_)
      refine lv_istore_n (lv' := [(1, .int 0), (0, .ref a0)]) hx hb dX10_init_111 rfl hl (by decide) rfl (fun ls hl => hp_n (n := 112) rfl ?_)
      have J112 : ∀ (nq : Nat) (βh21 : hp_T) (Hh21 : Heap) (Lh21 : List Loc) (Bh21 : hp_B Γ (gx a0) s α βh21 Hh21 Lh21) (Oh21 : co α a0 11 βh21 [559, 558, 557, 555, 553, 551] [(556, 0), (554, 0), (552, 1), (550, 65521)]) (vh21 : Int32) (j112 : Nat) (Eh21 : βh21 = FL_X10_init_112 α Hs.size a0 j112) (Zh21 : Hh21.size = Hs.size + (406 + 3 * j112)) (hk112 : vh21.toInt = (j112 : Int)) (hj112 : j112 ≤ 16) (hm112 : 16 - j112 = nq) (ls : Array Slot) (hl : lv_has ls 2 [(0, .ref a0), (1, .int vh21)]), W p l e (hp_rm 3 458 3803) s m ([.ref a0] : List Value).toArray below meth c Hh21 Lh21 (406 + 3 * j112) (2651 + 71 * j112) (MQ below (hp_QZ Γ (Hs.size + 458) (fun β => (gx a0 α β ∧ hp_K β a0 = 11 ∧ (∀ q ∈ ([(556, 0), (554, 0), (552, 1), (550, 65521)] : List (Nat × Int32)), hp_I β q.1 a0 = q.2)) ∧ β = F_X10_init α Hs.size a0)) ([.ref a0] : List Value).toArray s 458 3803 (hp_A Γ)) (F0 m 112 ls []) := by
        intro nq
        induction nq using Nat.strongRecOn with
        | ind nq ih112 =>
        intro βh21 Hh21 Lh21 Bh21 Oh21 vh21 j112 Eh21 Zh21 hk112 hj112 hm112 ls hl
        have litn : (16 : Int32).toInt = 16 := by decide
        obtain ⟨xh21, x1h21, x2h21, x3h21, -, x5h21, -⟩ := Oh21.2.1 553 (by decide)
        have kxh21 : hp_K βh21 xh21 = 31 := by rcases x2h21 with q | q; exact q; exact absurd q.1 (by decide)
        have lth21 : hp_K βh21 xh21 ≠ 0 ∧ True := ⟨x3h21, trivial⟩
        have cch21 : vh21.toNatClampNeg = j112 := cl_n hk112
        have xxh21 : (hp_N (FL_X10_init_112 α Hs.size a0 j112) 553 a0).getD 0 = xh21 := by rw [← Eh21, x1h21]; rfl
        refine lv_iload_n hx hb dX10_init_112 rfl (lv_at hl 1 rfl) (hp_n (n := 113) rfl ?_)
        refine lv_aload_n hx hb dX10_init_113 rfl (lv_at hl 0 rfl) (hp_n (n := 114) rfl ?_)
        refine q_get (v := .ref xh21) (κ := 111) (k := 3) (t := 3) (pc' := 117) C Bh21 Oh21.1 fl_X10_27 rfl rfl (by show va_rf (hp_N βh21 553 a0) = _; rw [x1h21]; rfl) dX10_init_114 rfl ?_
        refine q_alen (κ := 31) (t := 5) (n := 16) (x := 16) (ty := .object "ProvenRecord$Frozen") (pc' := 118) C Bh21 kxh21 (by decide) rfl rfl rfl dX10_init_117 rfl ?_
        refine lv_icmp_ge (tgt := 140) hx hb dX10_init_118 (by decide) (fun cq => ?_) (fun cq => hp_n (n := 121) rfl ?_)
        · have cq := il_le cq
          rw [litn] at cq
          have jn : j112 = 16 := by omega
          have Eq22 : βh21 = FL_X10_init_112 α Hs.size a0 16 := by rw [Eh21, jn]
          have Zq22 : Hh21.size = Hs.size + (454) := by rw [Zh21, jn]
          refine W.widen (k := 454) (n := 3787) (by omega) (by omega) ?_
          refine lv_iconst (v := 0) hx hb dX10_init_140 (by decide) (hp_n (n := 141) rfl ?_)
          refine lv_istore_n (lv' := [(1, .int 0), (0, .ref a0)]) hx hb dX10_init_141 rfl hl (by decide) rfl (fun ls hl => hp_n (n := 142) rfl ?_)
          have J142 : ∀ (nq : Nat) (βh23 : hp_T) (Hh23 : Heap) (Lh23 : List Loc) (Bh23 : hp_B Γ (gx a0) s α βh23 Hh23 Lh23) (Oh23 : co α a0 11 βh23 [559, 558, 557, 555, 553, 551] [(556, 0), (554, 0), (552, 1), (550, 65521)]) (vh23 : Int32) (j142 : Nat) (Eh23 : βh23 = FL_X10_init_142 α Hs.size a0 j142) (Zh23 : Hh23.size = Hs.size + (454 + 1 * j142)) (hk142 : vh23.toInt = (j142 : Int)) (hj142 : j142 ≤ 4) (hm142 : 4 - j142 = nq) (ls : Array Slot) (hl : lv_has ls 2 [(0, .ref a0), (1, .int vh23)]), W p l e (hp_rm 3 458 3803) s m ([.ref a0] : List Value).toArray below meth c Hh23 Lh23 (454 + 1 * j142) (3787 + 4 * j142) (MQ below (hp_QZ Γ (Hs.size + 458) (fun β => (gx a0 α β ∧ hp_K β a0 = 11 ∧ (∀ q ∈ ([(556, 0), (554, 0), (552, 1), (550, 65521)] : List (Nat × Int32)), hp_I β q.1 a0 = q.2)) ∧ β = F_X10_init α Hs.size a0)) ([.ref a0] : List Value).toArray s 458 3803 (hp_A Γ)) (F0 m 142 ls []) := by
            intro nq
            induction nq using Nat.strongRecOn with
            | ind nq ih142 =>
            intro βh23 Hh23 Lh23 Bh23 Oh23 vh23 j142 Eh23 Zh23 hk142 hj142 hm142 ls hl
            have litn : (4 : Int32).toInt = 4 := by decide
            obtain ⟨xh23, x1h23, x2h23, x3h23, -, x5h23, -⟩ := Oh23.2.1 555 (by decide)
            have kxh23 : hp_K βh23 xh23 = 32 := by rcases x2h23 with q | q; exact q; exact absurd q.1 (by decide)
            have lth23 : hp_K βh23 xh23 ≠ 0 ∧ True := ⟨x3h23, trivial⟩
            have cch23 : vh23.toNatClampNeg = j142 := cl_n hk142
            have xxh23 : (hp_N (FL_X10_init_142 α Hs.size a0 j142) 555 a0).getD 0 = xh23 := by rw [← Eh23, x1h23]; rfl
            refine lv_iload_n hx hb dX10_init_142 rfl (lv_at hl 1 rfl) (hp_n (n := 143) rfl ?_)
            refine lv_aload_n hx hb dX10_init_143 rfl (lv_at hl 0 rfl) (hp_n (n := 144) rfl ?_)
            refine q_get (v := .ref xh23) (κ := 111) (k := 5) (t := 3) (pc' := 147) C Bh23 Oh23.1 fl_X10_36 rfl rfl (by show va_rf (hp_N βh23 555 a0) = _; rw [x1h23]; rfl) dX10_init_144 rfl ?_
            refine q_alen (κ := 32) (t := 6) (n := 4) (x := 4) (ty := .object "ProvenRecord$Watcher") (pc' := 148) C Bh23 kxh23 (by decide) rfl rfl rfl dX10_init_147 rfl ?_
            refine lv_icmp_ge (tgt := 170) hx hb dX10_init_148 (by decide) (fun cq => ?_) (fun cq => hp_n (n := 151) rfl ?_)
            · have cq := il_le cq
              rw [litn] at cq
              have jn : j142 = 4 := by omega
              have Eq24 : βh23 = FL_X10_init_142 α Hs.size a0 4 := by rw [Eh23, jn]
              have Zq24 : Hh23.size = Hs.size + (458) := by rw [Zh23, jn]
              refine W.widen (k := 458) (n := 3803) (by omega) (by omega) ?_
              obtain ⟨Bh25, kh25, fh25, -⟩ := co_fin Bh23 Oh23 (by decide) (by decide) (by decide) (fun q => absurd q (by decide))
              refine W.widen (k := 458) (n := 3803) (by omega) (by omega) ?_
              exact q_vretZ C Bh25 Zq24 hr hlk ⟨⟨Bh25.2.2, kh25, fh25⟩, by rw [Eq24]; try rfl⟩ dX10_init_170
            have cq := il_nle cq
            rw [litn] at cq
            refine lv_aload_n hx hb dX10_init_151 rfl (lv_at hl 0 rfl) (hp_n (n := 152) rfl ?_)
            refine q_get (v := .ref xh23) (κ := 111) (k := 5) (t := 3) (pc' := 155) C Bh23 Oh23.1 fl_X10_36 rfl rfl (by show va_rf (hp_N βh23 555 a0) = _; rw [x1h23]; rfl) dX10_init_152 rfl ?_
            refine lv_iload_n hx hb dX10_init_155 rfl (lv_at hl 1 rfl) (hp_n (n := 156) rfl ?_)
            refine q_newZ (κ := 8) (N := 4) (pc' := 159) C Bh23 cl_X10_34 it_X7 iz_X7 rfl in_8 tyX7_ok df_8 (by decide) rfl rfl rfl (by omega) (by omega) dX10_init_156 rfl (fun q hq => gx_nw Bh23.2.2 (by decide) hq) (fun βh26 ah26 Hh26 fh26 wh26 yh26 eh26 Bh26 => ?_)
            have uh26 : ah26 = Hs.size + (454 + 1 * j142) := by rw [wh26, Zh23]
            have nh26 := gx_new Bh23.2.2 Oh23 fh26
            have Oh26 : co α a0 11 βh26 [559, 558, 557, 555, 553, 551] [(556, 0), (554, 0), (552, 1), (550, 65521)] := by rw [eh26]; exact co_nw Oh23 fh26
            have kh26 : hp_K βh26 ah26 = 108 := by rw [eh26]; exact nw_k
            have zh26 : ∀ φ, hp_I βh26 φ ah26 = 0 := fun φ => by rw [eh26]; exact nw_i
            have sh26 : sa βh23 βh26 xh23 := by rw [eh26]; exact sa_nw (fun q => lth23.1 (by rw [q]; exact fh26))
            have Eh26 : βh26 = (hp_nw (FL_X10_init_142 α Hs.size a0 j142) (Hs.size + (454 + 1 * j142)) 108) := by rw [eh26, Eh23, uh26]; try rfl
            have Zh26 : Hh26.size = Hs.size + (454 + 1 * j142 + 1) := zzk yh26 Zh23 rfl
            refine W.widen (k := 454 + 1 * j142 + 1) (n := 3787 + 4 * j142 + 4) (by omega) (by omega) ?_
            refine lv_dup hx hb dX10_init_159 rfl (hp_n (n := 160) rfl ?_)
            refine q_cvZ (pc' := 163) Bh26 (hp_runIZ (As := []) (rest := [.ref ah26, .int vh23, .ref xh23]) C Bh26 (u_X7_init Γ l βh26 Bh26.2.2.1 Hh26 ah26 kh26 zh26) lb_X7_init rfl li_X7_init lk_X10_63 rfl (by decide) rfl hl.1 rfl (Nat.le_of_ble_eq_true rfl) dX10_init_160 ⟨by omega, by omega⟩) (fun q hq => gx_call Bh26.2.2 hq.1.1 nh26.1) rfl (fun βh27 Hh27 Lh27 yh27 pph27 Bh27 => ?_)
            have ph27 := pph27.1
            have Eh27 : βh27 = (F_X7_init (hp_nw (FL_X10_init_142 α Hs.size a0 j142) (Hs.size + (454 + 1 * j142)) 108) (Hs.size + (454 + 1 * j142 + 1)) (Hs.size + (454 + 1 * j142))) := by rw [pph27.2, Eh26, Zh26, uh26]; try rfl
            have Zh27 : Hh27.size = Hs.size + (454 + 1 * j142 + 1 + 0) := zzk yh27 Zh26 rfl
            have Oh27 : co α a0 11 βh27 [559, 558, 557, 555, 553, 551] [(556, 0), (554, 0), (552, 1), (550, 65521)] := co_call Oh26 ph27.1 nh26.2 (by rw [kh26]; decide)
            have kh27 : hp_K βh27 ah26 = 8 := ph27.2.1
            have sh27 : sa βh26 βh27 xh23 := ph27.1.2 xh23 (fun q => by have := kh26; rw [← q, sh26.1, kxh23] at this; cases this) (by rw [sh26.1]; exact lth23.1)
            have krh27 : hp_K βh27 xh23 = 32 := by rw [sh27.1, sh26.1]; exact kxh23
            refine W.widen (k := 454 + 1 * j142 + 1) (n := 3787 + 4 * j142 + 4) (by omega) (by omega) ?_
            refine q_aasZ (κ := 32) (t := 6) (n := 4) (κv := 8) (r := hp_q 8) (pc' := 164) C Bh27 krh27 (by decide) rfl (by decide) kh27 rfl rfl rfl (vi_of (by omega) (by omega)) rfl (gx_sQ Bh27.2.2 x5h23 (by rw [kh27]; rfl)) dX10_init_163 rfl (fun βh28 Hh28 Lh28 eh28 yh28 Bh28 => ?_)
            have Oh28 : co α a0 11 βh28 [559, 558, 557, 555, 553, 551] [(556, 0), (554, 0), (552, 1), (550, 65521)] := by rw [eh28]; exact co_sQ Oh27
            have Eh28 : βh28 = (hp_sQ (F_X7_init (hp_nw (FL_X10_init_142 α Hs.size a0 j142) (Hs.size + (454 + 1 * j142)) 108) (Hs.size + (454 + 1 * j142 + 1)) (Hs.size + (454 + 1 * j142))) 32 ((hp_N (FL_X10_init_142 α Hs.size a0 j142) 555 a0).getD 0) (j142) (some (Hs.size + (454 + 1 * j142)))) := by rw [eh28, Eh27, uh26, cch23, xxh23]; try rfl
            have Zh28 : Hh28.size = Hs.size + (454 + 1 * j142 + 1 + 0) := yh28.trans Zh27
            obtain ⟨v29, ev29⟩ : ∃ y : Int32, y = vh23 + 1 := ⟨_, rfl⟩
            have qv29 : v29.toInt = vh23.toInt + 1 := by rw [ev29]; exact ii_add (x := vh23) (y := 1) (by rw [show (1 : Int32).toInt = 1 from rfl]; omega) (by rw [show (1 : Int32).toInt = 1 from rfl]; omega)
            refine lv_iinc (v := v29) (lv' := [(1, .int v29), (0, .ref a0)]) hx hb dX10_init_164 hl (k := 1) rfl (by rw [ev29]; rfl) (by decide) rfl (fun ls hl => hp_n (n := 167) rfl ?_)
            refine lv_goto (tgt := 142) hx hb dX10_init_167 (by decide) ?_
            refine W.widen (k := 454 + 1 * (j142 + 1)) (n := 3787 + 4 * (j142 + 1)) (by omega) (by omega) ?_
            exact ih142 _ (by omega) βh28 Hh28 Lh28 Bh28 Oh28 v29 (j142 + 1) (by rw [Eh28]; rfl) (by omega) (by omega) (by omega) rfl ls (lv_sub hl [1, 0] rfl)
          exact J142 _ βh21 Hh21 Lh21 Bh21 Oh21 0 0 (by rw [Eq22]; rfl) (by omega) rfl (by decide) rfl ls (lv_sub hl [1, 0] rfl)
        have cq := il_nle cq
        rw [litn] at cq
        refine lv_aload_n hx hb dX10_init_121 rfl (lv_at hl 0 rfl) (hp_n (n := 122) rfl ?_)
        refine q_get (v := .ref xh21) (κ := 111) (k := 3) (t := 3) (pc' := 125) C Bh21 Oh21.1 fl_X10_27 rfl rfl (by show va_rf (hp_N βh21 553 a0) = _; rw [x1h21]; rfl) dX10_init_122 rfl ?_
        refine lv_iload_n hx hb dX10_init_125 rfl (lv_at hl 1 rfl) (hp_n (n := 126) rfl ?_)
        refine q_newZ (κ := 2) (N := 5) (pc' := 129) C Bh21 cl_X10_25 it_X1 iz_X1 rfl in_2 tyX1_ok df_2 (by decide) rfl rfl rfl (by omega) (by omega) dX10_init_126 rfl (fun q hq => gx_nw Bh21.2.2 (by decide) hq) (fun βh30 ah30 Hh30 fh30 wh30 yh30 eh30 Bh30 => ?_)
        have uh30 : ah30 = Hs.size + (406 + 3 * j112) := by rw [wh30, Zh21]
        have nh30 := gx_new Bh21.2.2 Oh21 fh30
        have Oh30 : co α a0 11 βh30 [559, 558, 557, 555, 553, 551] [(556, 0), (554, 0), (552, 1), (550, 65521)] := by rw [eh30]; exact co_nw Oh21 fh30
        have kh30 : hp_K βh30 ah30 = 102 := by rw [eh30]; exact nw_k
        have zh30 : ∀ φ, hp_I βh30 φ ah30 = 0 := fun φ => by rw [eh30]; exact nw_i
        have sh30 : sa βh21 βh30 xh21 := by rw [eh30]; exact sa_nw (fun q => lth21.1 (by rw [q]; exact fh30))
        have Eh30 : βh30 = (hp_nw (FL_X10_init_112 α Hs.size a0 j112) (Hs.size + (406 + 3 * j112)) 102) := by rw [eh30, Eh21, uh30]; try rfl
        have Zh30 : Hh30.size = Hs.size + (406 + 3 * j112 + 1) := zzk yh30 Zh21 rfl
        refine W.widen (k := 406 + 3 * j112 + 1) (n := 2651 + 71 * j112 + 5) (by omega) (by omega) ?_
        refine lv_dup hx hb dX10_init_129 rfl (hp_n (n := 130) rfl ?_)
        refine q_cvZ (pc' := 133) Bh30 (hp_runIZ (As := []) (rest := [.ref ah30, .int vh21, .ref xh21]) C Bh30 (u_X1_init Γ l βh30 Bh30.2.2.1 Hh30 ah30 kh30 zh30) lb_X1_init rfl li_X1_init lk_X10_62 rfl (by decide) rfl hl.1 rfl (Nat.le_of_ble_eq_true rfl) dX10_init_130 ⟨by omega, by omega⟩) (fun q hq => gx_call Bh30.2.2 hq.1.1 nh30.1) rfl (fun βh31 Hh31 Lh31 yh31 pph31 Bh31 => ?_)
        have ph31 := pph31.1
        have Eh31 : βh31 = (F_X1_init (hp_nw (FL_X10_init_112 α Hs.size a0 j112) (Hs.size + (406 + 3 * j112)) 102) (Hs.size + (406 + 3 * j112 + 1)) (Hs.size + (406 + 3 * j112))) := by rw [pph31.2, Eh30, Zh30, uh30]; try rfl
        have Zh31 : Hh31.size = Hs.size + (406 + 3 * j112 + 1 + 2) := zzk yh31 Zh30 rfl
        have Oh31 : co α a0 11 βh31 [559, 558, 557, 555, 553, 551] [(556, 0), (554, 0), (552, 1), (550, 65521)] := co_call Oh30 ph31.1 nh30.2 (by rw [kh30]; decide)
        have kh31 : hp_K βh31 ah30 = 2 := ph31.2.1
        have sh31 : sa βh30 βh31 xh21 := ph31.1.2 xh21 (fun q => by have := kh30; rw [← q, sh30.1, kxh21] at this; cases this) (by rw [sh30.1]; exact lth21.1)
        have krh31 : hp_K βh31 xh21 = 31 := by rw [sh31.1, sh30.1]; exact kxh21
        refine W.widen (k := 406 + 3 * j112 + 3) (n := 2651 + 71 * j112 + 71) (by omega) (by omega) ?_
        refine q_aasZ (κ := 31) (t := 5) (n := 16) (κv := 2) (r := hp_q 2) (pc' := 134) C Bh31 krh31 (by decide) rfl (by decide) kh31 rfl rfl rfl (vi_of (by omega) (by omega)) rfl (gx_sQ Bh31.2.2 x5h21 (by rw [kh31]; rfl)) dX10_init_133 rfl (fun βh32 Hh32 Lh32 eh32 yh32 Bh32 => ?_)
        have Oh32 : co α a0 11 βh32 [559, 558, 557, 555, 553, 551] [(556, 0), (554, 0), (552, 1), (550, 65521)] := by rw [eh32]; exact co_sQ Oh31
        have Eh32 : βh32 = (hp_sQ (F_X1_init (hp_nw (FL_X10_init_112 α Hs.size a0 j112) (Hs.size + (406 + 3 * j112)) 102) (Hs.size + (406 + 3 * j112 + 1)) (Hs.size + (406 + 3 * j112))) 31 ((hp_N (FL_X10_init_112 α Hs.size a0 j112) 553 a0).getD 0) (j112) (some (Hs.size + (406 + 3 * j112)))) := by rw [eh32, Eh31, uh30, cch21, xxh21]; try rfl
        have Zh32 : Hh32.size = Hs.size + (406 + 3 * j112 + 1 + 2) := yh32.trans Zh31
        obtain ⟨v33, ev33⟩ : ∃ y : Int32, y = vh21 + 1 := ⟨_, rfl⟩
        have qv33 : v33.toInt = vh21.toInt + 1 := by rw [ev33]; exact ii_add (x := vh21) (y := 1) (by rw [show (1 : Int32).toInt = 1 from rfl]; omega) (by rw [show (1 : Int32).toInt = 1 from rfl]; omega)
        refine lv_iinc (v := v33) (lv' := [(1, .int v33), (0, .ref a0)]) hx hb dX10_init_134 hl (k := 1) rfl (by rw [ev33]; rfl) (by decide) rfl (fun ls hl => hp_n (n := 137) rfl ?_)
        refine lv_goto (tgt := 112) hx hb dX10_init_137 (by decide) ?_
        refine W.widen (k := 406 + 3 * (j112 + 1)) (n := 2651 + 71 * (j112 + 1)) (by omega) (by omega) ?_
        exact ih112 _ (by omega) βh32 Hh32 Lh32 Bh32 Oh32 v33 (j112 + 1) (by rw [Eh32]; rfl) (by omega) (by omega) (by omega) rfl ls (lv_sub hl [1, 0] rfl)
      exact J112 _ βh19 Hh19 Lh19 Bh19 Oh19 0 0 (by rw [Eq20]; rfl) (by omega) rfl (by decide) rfl ls (lv_sub hl [1, 0] rfl)
    have cq := il_nle cq
    rw [litn] at cq
    refine lv_aload_n hx hb dX10_init_91 rfl (lv_at hl 0 rfl) (hp_n (n := 92) rfl ?_)
    refine q_get (v := .ref xh19) (κ := 111) (k := 1) (t := 3) (pc' := 95) C Bh19 Oh19.1 fl_X10_18 rfl rfl (by show va_rf (hp_N βh19 551 a0) = _; rw [x1h19]; rfl) dX10_init_92 rfl ?_
    refine lv_iload_n hx hb dX10_init_95 rfl (lv_at hl 1 rfl) (hp_n (n := 96) rfl ?_)
    refine q_newZ (κ := 3) (N := 3) (pc' := 99) C Bh19 cl_X10_16 it_X2 iz_X2 rfl in_3 tyX2_ok df_3 (by decide) rfl rfl rfl (by omega) (by omega) dX10_init_96 rfl (fun q hq => gx_nw Bh19.2.2 (by decide) hq) (fun βh34 ah34 Hh34 fh34 wh34 yh34 eh34 Bh34 => ?_)
    have uh34 : ah34 = Hs.size + (10 + 99 * j82) := by rw [wh34, Zh19]
    have nh34 := gx_new Bh19.2.2 Oh19 fh34
    have Oh34 : co α a0 11 βh34 [559, 558, 557, 555, 553, 551] [(556, 0), (554, 0), (552, 1), (550, 65521)] := by rw [eh34]; exact co_nw Oh19 fh34
    have kh34 : hp_K βh34 ah34 = 103 := by rw [eh34]; exact nw_k
    have zh34 : ∀ φ, hp_I βh34 φ ah34 = 0 := fun φ => by rw [eh34]; exact nw_i
    have sh34 : sa βh19 βh34 xh19 := by rw [eh34]; exact sa_nw (fun q => lth19.1 (by rw [q]; exact fh34))
    have Eh34 : βh34 = (hp_nw (FL_X10_init_82 α Hs.size a0 j82) (Hs.size + (10 + 99 * j82)) 103) := by rw [eh34, Eh19, uh34]; try rfl
    have Zh34 : Hh34.size = Hs.size + (10 + 99 * j82 + 1) := zzk yh34 Zh19 rfl
    refine W.widen (k := 10 + 99 * j82 + 1) (n := 335 + 579 * j82 + 3) (by omega) (by omega) ?_
    refine lv_dup hx hb dX10_init_99 rfl (hp_n (n := 100) rfl ?_)
    refine q_cvZ (pc' := 103) Bh34 (hp_runIZ (As := []) (rest := [.ref ah34, .int vh19, .ref xh19]) C Bh34 (u_X2_init Γ l βh34 Bh34.2.2.1 Hh34 ah34 kh34 zh34) lb_X2_init rfl li_X2_init lk_X10_61 rfl (by decide) rfl hl.1 rfl (Nat.le_of_ble_eq_true rfl) dX10_init_100 ⟨by omega, by omega⟩) (fun q hq => gx_call Bh34.2.2 hq.1.1 nh34.1) rfl (fun βh35 Hh35 Lh35 yh35 pph35 Bh35 => ?_)
    have ph35 := pph35.1
    have Eh35 : βh35 = (F_X2_init (hp_nw (FL_X10_init_82 α Hs.size a0 j82) (Hs.size + (10 + 99 * j82)) 103) (Hs.size + (10 + 99 * j82 + 1)) (Hs.size + (10 + 99 * j82))) := by rw [pph35.2, Eh34, Zh34, uh34]; try rfl
    have Zh35 : Hh35.size = Hs.size + (10 + 99 * j82 + 1 + 98) := zzk yh35 Zh34 rfl
    have Oh35 : co α a0 11 βh35 [559, 558, 557, 555, 553, 551] [(556, 0), (554, 0), (552, 1), (550, 65521)] := co_call Oh34 ph35.1 nh34.2 (by rw [kh34]; decide)
    have kh35 : hp_K βh35 ah34 = 3 := ph35.2.1
    have sh35 : sa βh34 βh35 xh19 := ph35.1.2 xh19 (fun q => by have := kh34; rw [← q, sh34.1, kxh19] at this; cases this) (by rw [sh34.1]; exact lth19.1)
    have krh35 : hp_K βh35 xh19 = 30 := by rw [sh35.1, sh34.1]; exact kxh19
    refine W.widen (k := 10 + 99 * j82 + 99) (n := 335 + 579 * j82 + 579) (by omega) (by omega) ?_
    refine q_aasZ (κ := 30) (t := 4) (n := 4) (κv := 3) (r := hp_q 3) (pc' := 104) C Bh35 krh35 (by decide) rfl (by decide) kh35 rfl rfl rfl (vi_of (by omega) (by omega)) rfl (gx_sQ Bh35.2.2 x5h19 (by rw [kh35]; rfl)) dX10_init_103 rfl (fun βh36 Hh36 Lh36 eh36 yh36 Bh36 => ?_)
    have Oh36 : co α a0 11 βh36 [559, 558, 557, 555, 553, 551] [(556, 0), (554, 0), (552, 1), (550, 65521)] := by rw [eh36]; exact co_sQ Oh35
    have Eh36 : βh36 = (hp_sQ (F_X2_init (hp_nw (FL_X10_init_82 α Hs.size a0 j82) (Hs.size + (10 + 99 * j82)) 103) (Hs.size + (10 + 99 * j82 + 1)) (Hs.size + (10 + 99 * j82))) 30 ((hp_N (FL_X10_init_82 α Hs.size a0 j82) 551 a0).getD 0) (j82) (some (Hs.size + (10 + 99 * j82)))) := by rw [eh36, Eh35, uh34, cch19, xxh19]; try rfl
    have Zh36 : Hh36.size = Hs.size + (10 + 99 * j82 + 1 + 98) := yh36.trans Zh35
    obtain ⟨v37, ev37⟩ : ∃ y : Int32, y = vh19 + 1 := ⟨_, rfl⟩
    have qv37 : v37.toInt = vh19.toInt + 1 := by rw [ev37]; exact ii_add (x := vh19) (y := 1) (by rw [show (1 : Int32).toInt = 1 from rfl]; omega) (by rw [show (1 : Int32).toInt = 1 from rfl]; omega)
    refine lv_iinc (v := v37) (lv' := [(1, .int v37), (0, .ref a0)]) hx hb dX10_init_104 hl (k := 1) rfl (by rw [ev37]; rfl) (by decide) rfl (fun ls hl => hp_n (n := 107) rfl ?_)
    refine lv_goto (tgt := 82) hx hb dX10_init_107 (by decide) ?_
    refine W.widen (k := 10 + 99 * (j82 + 1)) (n := 335 + 579 * (j82 + 1)) (by omega) (by omega) ?_
    exact ih82 _ (by omega) βh36 Hh36 Lh36 Bh36 Oh36 v37 (j82 + 1) (by rw [Eh36]; rfl) (by omega) (by omega) (by omega) rfl ls (lv_sub hl [1, 0] rfl)
  exact J82 _ βh18 Hh18 Lh18 Bh18 Oh18 0 0 (by rw [Eh18]; rfl) (by omega) rfl (by decide) rfl ls (lv_sub hl [1, 0] rfl)
def F_X11_init_0 (α : hp_T) (h a0 : Nat) : hp_T := α
def F_X11_init_1 (α : hp_T) (h a0 : Nat) : hp_T := hp_sI (F_X11_init_0 α h a0) 600 a0 0
def F_X11_init_2 (α : hp_T) (h a0 : Nat) : hp_T := hp_nw (F_X11_init_1 α h a0) (h + (0)) 111
def F_X11_init_3 (α : hp_T) (h a0 : Nat) : hp_T := F_X10_init (F_X11_init_2 α h a0) (h + (1)) (h + (0))
def F_X11_init_4 (α : hp_T) (h a0 : Nat) : hp_T := hp_sN (F_X11_init_3 α h a0) 601 a0 (some (h + (0)))
def F_X11_init_5 (α : hp_T) (h a0 : Nat) : hp_T := hp_nw (F_X11_init_4 α h a0) (h + (459)) 111
def F_X11_init_6 (α : hp_T) (h a0 : Nat) : hp_T := F_X10_init (F_X11_init_5 α h a0) (h + (460)) (h + (459))
def F_X11_init_7 (α : hp_T) (h a0 : Nat) : hp_T := hp_sN (F_X11_init_6 α h a0) 602 a0 (some (h + (459)))
def F_X11_init_8 (α : hp_T) (h a0 : Nat) : hp_T := hp_nw (F_X11_init_7 α h a0) (h + (918)) 106
def F_X11_init_9 (α : hp_T) (h a0 : Nat) : hp_T := F_X5_init (F_X11_init_8 α h a0) (h + (919)) (h + (918))
def F_X11_init_10 (α : hp_T) (h a0 : Nat) : hp_T := hp_sN (F_X11_init_9 α h a0) 603 a0 (some (h + (918)))
def F_X11_init_11 (α : hp_T) (h a0 : Nat) : hp_T := hp_nw (F_X11_init_10 α h a0) (h + (920)) 24
def F_X11_init_12 (α : hp_T) (h a0 : Nat) : hp_T := hp_sN (F_X11_init_11 α h a0) 604 a0 (some (h + (920)))
def F_X11_init_13 (α : hp_T) (h a0 : Nat) : hp_T := hp_sI (F_X11_init_12 α h a0) 605 a0 0
def F_X11_init_14 (α : hp_T) (h a0 : Nat) : hp_T := hp_nw (F_X11_init_13 α h a0) (h + (921)) 110
def F_X11_init_15 (α : hp_T) (h a0 : Nat) : hp_T := F_X9_init (F_X11_init_14 α h a0) (h + (922)) (h + (921))
def F_X11_init_16 (α : hp_T) (h a0 : Nat) : hp_T := hp_sN (F_X11_init_15 α h a0) 606 a0 (some (h + (921)))
def F_X11_init_17 (α : hp_T) (h a0 : Nat) : hp_T := hp_nw (F_X11_init_16 α h a0) (h + (923)) 110
def F_X11_init_18 (α : hp_T) (h a0 : Nat) : hp_T := F_X9_init (F_X11_init_17 α h a0) (h + (924)) (h + (923))
def F_X11_init_19 (α : hp_T) (h a0 : Nat) : hp_T := hp_sN (F_X11_init_18 α h a0) 607 a0 (some (h + (923)))
def F_X11_init_20 (α : hp_T) (h a0 : Nat) : hp_T := hp_nw (F_X11_init_19 α h a0) (h + (925)) 106
def F_X11_init_21 (α : hp_T) (h a0 : Nat) : hp_T := F_X5_init (F_X11_init_20 α h a0) (h + (926)) (h + (925))
def F_X11_init_22 (α : hp_T) (h a0 : Nat) : hp_T := hp_sN (F_X11_init_21 α h a0) 608 a0 (some (h + (925)))
def F_X11_init_23 (α : hp_T) (h a0 : Nat) : hp_T := hp_nw (F_X11_init_22 α h a0) (h + (927)) 106
def F_X11_init_24 (α : hp_T) (h a0 : Nat) : hp_T := F_X5_init (F_X11_init_23 α h a0) (h + (928)) (h + (927))
def F_X11_init_25 (α : hp_T) (h a0 : Nat) : hp_T := hp_sN (F_X11_init_24 α h a0) 609 a0 (some (h + (927)))
def F_X11_init_26 (α : hp_T) (h a0 : Nat) : hp_T := hp_nw (F_X11_init_25 α h a0) (h + (929)) 25
def F_X11_init_27 (α : hp_T) (h a0 : Nat) : hp_T := hp_sN (F_X11_init_26 α h a0) 610 a0 (some (h + (929)))
def F_X11_init_28 (α : hp_T) (h a0 : Nat) : hp_T := hp_sI (F_X11_init_27 α h a0) 611 a0 0
def F_X11_init_29 (α : hp_T) (h a0 : Nat) : hp_T := hp_nw (F_X11_init_28 α h a0) (h + (930)) 109
def F_X11_init_30 (α : hp_T) (h a0 : Nat) : hp_T := F_X8_init (F_X11_init_29 α h a0) (h + (931)) (h + (930))
def F_X11_init_31 (α : hp_T) (h a0 : Nat) : hp_T := hp_sN (F_X11_init_30 α h a0) 612 a0 (some (h + (930)))
def F_X11_init_32 (α : hp_T) (h a0 : Nat) : hp_T := hp_nw (F_X11_init_31 α h a0) (h + (934)) 109
def F_X11_init_33 (α : hp_T) (h a0 : Nat) : hp_T := F_X8_init (F_X11_init_32 α h a0) (h + (935)) (h + (934))
def F_X11_init_34 (α : hp_T) (h a0 : Nat) : hp_T := hp_sN (F_X11_init_33 α h a0) 613 a0 (some (h + (934)))
def F_X11_init_35 (α : hp_T) (h a0 : Nat) : hp_T := hp_nw (F_X11_init_34 α h a0) (h + (938)) 106
def F_X11_init_36 (α : hp_T) (h a0 : Nat) : hp_T := F_X5_init (F_X11_init_35 α h a0) (h + (939)) (h + (938))
def F_X11_init_37 (α : hp_T) (h a0 : Nat) : hp_T := hp_sN (F_X11_init_36 α h a0) 614 a0 (some (h + (938)))
def F_X11_init_38 (α : hp_T) (h a0 : Nat) : hp_T := hp_nw (F_X11_init_37 α h a0) (h + (940)) 101
def F_X11_init_39 (α : hp_T) (h a0 : Nat) : hp_T := F_X0_init (F_X11_init_38 α h a0) (h + (941)) (h + (940))
def F_X11_init_40 (α : hp_T) (h a0 : Nat) : hp_T := hp_sN (F_X11_init_39 α h a0) 615 a0 (some (h + (940)))
def F_X11_init_41 (α : hp_T) (h a0 : Nat) : hp_T := hp_nw (F_X11_init_40 α h a0) (h + (943)) 104
def F_X11_init_42 (α : hp_T) (h a0 : Nat) : hp_T := F_X3_init (F_X11_init_41 α h a0) (h + (944)) (h + (943))
def F_X11_init_43 (α : hp_T) (h a0 : Nat) : hp_T := hp_sN (F_X11_init_42 α h a0) 616 a0 (some (h + (943)))
def F_X11_init_44 (α : hp_T) (h a0 : Nat) : hp_T := hp_nw (F_X11_init_43 α h a0) (h + (954)) 26
def F_X11_init_45 (α : hp_T) (h a0 : Nat) : hp_T := hp_sN (F_X11_init_44 α h a0) 617 a0 (some (h + (954)))
def F_X11_init_46 (α : hp_T) (h a0 : Nat) : hp_T := hp_sN (F_X11_init_45 α h a0) 618 a0 none
def F_X11_init (α : hp_T) (h a0 : Nat) : hp_T := hp_cv (F_X11_init_46 α h a0) a0 12
set_option maxRecDepth 100000 in
set_option maxHeartbeats 4000000 in
theorem u_X11_init (Γ : hp_G) (l : Launch) (α : hp_T) (g : GC α) (Hs : Heap) (a0 : Nat) (k0 : hp_K α a0 = 112) (z0 : ∀ φ, hp_I α φ a0 = 0) : Met l yX11_init (hp_ws yX11_init cX11_init 1 none) (hp_rm 4 955 10077) (hp_PcH Γ α Hs [.ref a0]) (hp_QZ Γ (Hs.size + 955) (fun β => (gx a0 α β ∧ hp_K β a0 = 12 ∧ (∀ q ∈ ([(611, 0), (605, 0), (600, 0)] : List (Nat × Int32)), hp_I β q.1 a0 = q.2) ∧ hp_N β 618 a0 = none) ∧ β = F_X11_init α Hs.size a0)) 955 10077 (hp_A Γ) := by
  refine hp_startZ (by decide) ?_
  intro p e s m below meth c C hr hlk B0 hnm hHs
  have Z : s.heap.size = Hs.size + 0 := by rw [hHs]; rfl
  have E : α = F_X11_init_0 α Hs.size a0 := rfl
  have C : hp_C Γ p m c cX11_init 1 s ([.ref a0] : List Value).toArray RX11 := C
  have hx := C.1.1
  have hb := C.1.2.1
  have hown := C.1.2.2.2.1
  have hts := C.1.2.2.2.2
  have B : hp_B Γ (gx a0) s α α s.heap [] := ⟨B0.1, B0.2.1, gx_rf g⟩
  have O : co α a0 12 α [] [] := co_0 k0 z0
  have hl := lv_entry ([.ref a0]) (n := 1) (Nat.le_of_ble_eq_true rfl)
  show W p l e (hp_rm 4 955 10077) s m ([.ref a0] : List Value).toArray below meth c s.heap [] 0 0 (MQ below (hp_QZ Γ (Hs.size + 955) (fun β => (gx a0 α β ∧ hp_K β a0 = 12 ∧ (∀ q ∈ ([(611, 0), (605, 0), (600, 0)] : List (Nat × Int32)), hp_I β q.1 a0 = q.2) ∧ hp_N β 618 a0 = none) ∧ β = F_X11_init α Hs.size a0)) ([.ref a0] : List Value).toArray s 955 10077 (hp_A Γ)) (entryFrame m ([.ref a0] : List Value).toArray 1)
  rw [lg_entry_eq]
  generalize (lg_sl ([.ref a0]) ++ List.replicate (1 - (lg_sl ([.ref a0])).length) Slot.unset).toArray = ls at hl ⊢
  have hl : lv_has ls 1 [(0, .ref a0)] := hl
  refine lv_aload_n hx hb dX11_init_0 rfl (lv_at hl 0 rfl) (hp_n (n := 1) rfl ?_)
  refine q_obj (pc' := 4) C ol_X11 hl.1 rfl (by decide) dX11_init_1 rfl ?_
  refine lv_aload_n hx hb dX11_init_4 rfl (lv_at hl 0 rfl) (hp_n (n := 5) rfl ?_)
  refine lv_iconst (v := 0) hx hb dX11_init_5 (by decide) (hp_n (n := 6) rfl ?_)
  refine q_putiZ (κ := 112) (k := 0) (φ := 600) (pc' := 9) C B O.1 fl_X11_9 rfl rfl rfl rfl rfl rfl (gx_sI B.2.2 (gc_i0 _)) dX11_init_6 rfl (fun βh1 Hh1 Lh1 eh1 yh1 Bh1 => ?_)
  have Oh1 : co α a0 12 βh1 [] [(600, 0)] := by rw [eh1]; exact co_sI O (by decide)
  have Eh1 : βh1 = (F_X11_init_1 α Hs.size a0) := by rw [eh1, E]; try rfl
  have Zh1 : Hh1.size = Hs.size + (0) := yh1.trans Z
  refine lv_aload_n hx hb dX11_init_9 rfl (lv_at hl 0 rfl) (hp_n (n := 10) rfl ?_)
  refine q_newZ (κ := 11) (N := 10) (pc' := 13) C Bh1 cl_X11_13 it_X10 iz_X10 rfl in_11 tyX10_ok df_11 (by decide) rfl rfl rfl (Nat.le_of_ble_eq_true rfl) (Nat.le_of_ble_eq_true rfl) dX11_init_10 rfl (fun q hq => gx_nw Bh1.2.2 (by decide) hq) (fun βh2 ah2 Hh2 fh2 wh2 yh2 eh2 Bh2 => ?_)
  have uh2 : ah2 = Hs.size + (0) := by rw [wh2, Zh1]
  have nh2 := gx_new Bh1.2.2 Oh1 fh2
  have Oh2 : co α a0 12 βh2 [] [(600, 0)] := by rw [eh2]; exact co_nw Oh1 fh2
  have kh2 : hp_K βh2 ah2 = 111 := by rw [eh2]; exact nw_k
  have zh2 : ∀ φ, hp_I βh2 φ ah2 = 0 := fun φ => by rw [eh2]; exact nw_i
  have Eh2 : βh2 = (F_X11_init_2 α Hs.size a0) := by rw [eh2, Eh1, uh2]; try rfl
  have Zh2 : Hh2.size = Hs.size + (1) := zzk yh2 Zh1 rfl
  refine W.widen (k := 1) (n := 10) (Nat.le_of_ble_eq_true rfl) (Nat.le_of_ble_eq_true rfl) ?_
  refine lv_dup hx hb dX11_init_13 rfl (hp_n (n := 14) rfl ?_)
  refine q_cvZ (pc' := 17) Bh2 (hp_runIZ (As := []) (rest := [.ref ah2, .ref a0]) C Bh2 (u_X10_init Γ l βh2 Bh2.2.2.1 Hh2 ah2 kh2 zh2) lb_X10_init rfl li_X10_init lk_X11_15 rfl (by decide) rfl hl.1 rfl (Nat.le_of_ble_eq_true rfl) dX11_init_14 ⟨(Nat.le_of_ble_eq_true rfl), (Nat.le_of_ble_eq_true rfl)⟩) (fun q hq => gx_call Bh2.2.2 hq.1.1 nh2.1) rfl (fun βh3 Hh3 Lh3 yh3 pph3 Bh3 => ?_)
  have ph3 := pph3.1
  have Eh3 : βh3 = (F_X11_init_3 α Hs.size a0) := by rw [pph3.2, Eh2, Zh2, uh2]; try rfl
  have Zh3 : Hh3.size = Hs.size + (459) := zzk yh3 Zh2 rfl
  have Oh3 : co α a0 12 βh3 [] [(600, 0)] := co_call Oh2 ph3.1 nh2.2 (by rw [kh2]; decide)
  have kh3 : hp_K βh3 ah2 = 11 := ph3.2.1
  refine W.widen (k := 459) (n := 3813) (Nat.le_of_ble_eq_true rfl) (Nat.le_of_ble_eq_true rfl) ?_
  refine q_putnZ (κ := 112) (k := 1) (φ := 601) (pc' := 20) C Bh3 Oh3.1 fl_X11_16 rfl rfl rfl rfl rfl rfl (gx_sN Bh3.2.2 Oh3) dX11_init_17 rfl (fun βh4 Hh4 Lh4 eh4 yh4 Bh4 => ?_)
  have Oh4 : co α a0 12 βh4 [601] [(600, 0)] := by rw [eh4]; exact co_sN Oh3 ⟨(Or.inl (by rw [kh3]; rfl)), by rw [kh3]; decide, by rw [kh3]; decide, nh2.1, (by rw [kh3]; intro q; exact absurd q (by decide))⟩
  have Eh4 : βh4 = (F_X11_init_4 α Hs.size a0) := by rw [eh4, Eh3, uh2]; try rfl
  have Zh4 : Hh4.size = Hs.size + (459) := yh4.trans Zh3
  refine lv_aload_n hx hb dX11_init_20 rfl (lv_at hl 0 rfl) (hp_n (n := 21) rfl ?_)
  refine q_newZ (κ := 11) (N := 10) (pc' := 24) C Bh4 cl_X11_13 it_X10 iz_X10 rfl in_11 tyX10_ok df_11 (by decide) rfl rfl rfl (Nat.le_of_ble_eq_true rfl) (Nat.le_of_ble_eq_true rfl) dX11_init_21 rfl (fun q hq => gx_nw Bh4.2.2 (by decide) hq) (fun βh5 ah5 Hh5 fh5 wh5 yh5 eh5 Bh5 => ?_)
  have uh5 : ah5 = Hs.size + (459) := by rw [wh5, Zh4]
  have nh5 := gx_new Bh4.2.2 Oh4 fh5
  have Oh5 : co α a0 12 βh5 [601] [(600, 0)] := by rw [eh5]; exact co_nw Oh4 fh5
  have kh5 : hp_K βh5 ah5 = 111 := by rw [eh5]; exact nw_k
  have zh5 : ∀ φ, hp_I βh5 φ ah5 = 0 := fun φ => by rw [eh5]; exact nw_i
  have Eh5 : βh5 = (F_X11_init_5 α Hs.size a0) := by rw [eh5, Eh4, uh5]; try rfl
  have Zh5 : Hh5.size = Hs.size + (460) := zzk yh5 Zh4 rfl
  refine W.widen (k := 460) (n := 3823) (Nat.le_of_ble_eq_true rfl) (Nat.le_of_ble_eq_true rfl) ?_
  refine lv_dup hx hb dX11_init_24 rfl (hp_n (n := 25) rfl ?_)
  refine q_cvZ (pc' := 28) Bh5 (hp_runIZ (As := []) (rest := [.ref ah5, .ref a0]) C Bh5 (u_X10_init Γ l βh5 Bh5.2.2.1 Hh5 ah5 kh5 zh5) lb_X10_init rfl li_X10_init lk_X11_15 rfl (by decide) rfl hl.1 rfl (Nat.le_of_ble_eq_true rfl) dX11_init_25 ⟨(Nat.le_of_ble_eq_true rfl), (Nat.le_of_ble_eq_true rfl)⟩) (fun q hq => gx_call Bh5.2.2 hq.1.1 nh5.1) rfl (fun βh6 Hh6 Lh6 yh6 pph6 Bh6 => ?_)
  have ph6 := pph6.1
  have Eh6 : βh6 = (F_X11_init_6 α Hs.size a0) := by rw [pph6.2, Eh5, Zh5, uh5]; try rfl
  have Zh6 : Hh6.size = Hs.size + (918) := zzk yh6 Zh5 rfl
  have Oh6 : co α a0 12 βh6 [601] [(600, 0)] := co_call Oh5 ph6.1 nh5.2 (by rw [kh5]; decide)
  have kh6 : hp_K βh6 ah5 = 11 := ph6.2.1
  refine W.widen (k := 918) (n := 7626) (Nat.le_of_ble_eq_true rfl) (Nat.le_of_ble_eq_true rfl) ?_
  refine q_putnZ (κ := 112) (k := 2) (φ := 602) (pc' := 31) C Bh6 Oh6.1 fl_X11_20 rfl rfl rfl rfl rfl rfl (gx_sN Bh6.2.2 Oh6) dX11_init_28 rfl (fun βh7 Hh7 Lh7 eh7 yh7 Bh7 => ?_)
  have Oh7 : co α a0 12 βh7 [602, 601] [(600, 0)] := by rw [eh7]; exact co_sN Oh6 ⟨(Or.inl (by rw [kh6]; rfl)), by rw [kh6]; decide, by rw [kh6]; decide, nh5.1, (by rw [kh6]; intro q; exact absurd q (by decide))⟩
  have Eh7 : βh7 = (F_X11_init_7 α Hs.size a0) := by rw [eh7, Eh6, uh5]; try rfl
  have Zh7 : Hh7.size = Hs.size + (918) := yh7.trans Zh6
  refine lv_aload_n hx hb dX11_init_31 rfl (lv_at hl 0 rfl) (hp_n (n := 32) rfl ?_)
  refine q_newZ (κ := 6) (N := 2) (pc' := 35) C Bh7 cl_X11_23 it_X5 iz_X5 rfl in_6 tyX5_ok df_6 (by decide) rfl rfl rfl (Nat.le_of_ble_eq_true rfl) (Nat.le_of_ble_eq_true rfl) dX11_init_32 rfl (fun q hq => gx_nw Bh7.2.2 (by decide) hq) (fun βh8 ah8 Hh8 fh8 wh8 yh8 eh8 Bh8 => ?_)
  have uh8 : ah8 = Hs.size + (918) := by rw [wh8, Zh7]
  have nh8 := gx_new Bh7.2.2 Oh7 fh8
  have Oh8 : co α a0 12 βh8 [602, 601] [(600, 0)] := by rw [eh8]; exact co_nw Oh7 fh8
  have kh8 : hp_K βh8 ah8 = 106 := by rw [eh8]; exact nw_k
  have zh8 : ∀ φ, hp_I βh8 φ ah8 = 0 := fun φ => by rw [eh8]; exact nw_i
  have Eh8 : βh8 = (F_X11_init_8 α Hs.size a0) := by rw [eh8, Eh7, uh8]; try rfl
  have Zh8 : Hh8.size = Hs.size + (919) := zzk yh8 Zh7 rfl
  refine W.widen (k := 919) (n := 7628) (Nat.le_of_ble_eq_true rfl) (Nat.le_of_ble_eq_true rfl) ?_
  refine lv_dup hx hb dX11_init_35 rfl (hp_n (n := 36) rfl ?_)
  refine q_cvZ (pc' := 39) Bh8 (hp_runIZ (As := []) (rest := [.ref ah8, .ref a0]) C Bh8 (u_X5_init Γ l βh8 Bh8.2.2.1 Hh8 ah8 kh8 zh8) lb_X5_init rfl li_X5_init lk_X11_25 rfl (by decide) rfl hl.1 rfl (Nat.le_of_ble_eq_true rfl) dX11_init_36 ⟨(Nat.le_of_ble_eq_true rfl), (Nat.le_of_ble_eq_true rfl)⟩) (fun q hq => gx_call Bh8.2.2 hq.1.1 nh8.1) rfl (fun βh9 Hh9 Lh9 yh9 pph9 Bh9 => ?_)
  have ph9 := pph9.1
  have Eh9 : βh9 = (F_X11_init_9 α Hs.size a0) := by rw [pph9.2, Eh8, Zh8, uh8]; try rfl
  have Zh9 : Hh9.size = Hs.size + (920) := zzk yh9 Zh8 rfl
  have Oh9 : co α a0 12 βh9 [602, 601] [(600, 0)] := co_call Oh8 ph9.1 nh8.2 (by rw [kh8]; decide)
  have kh9 : hp_K βh9 ah8 = 6 := ph9.2.1
  refine W.widen (k := 920) (n := 7692) (Nat.le_of_ble_eq_true rfl) (Nat.le_of_ble_eq_true rfl) ?_
  refine q_putnFZ (κ := 112) (k := 3) (φ := 603) (pc' := 42) C Bh9 Oh9.1 fl_X11_26 rfl rfl rfl hnm rfl rfl rfl rfl (gx_sN Bh9.2.2 Oh9) dX11_init_39 rfl (fun βh10 Hh10 Lh10 eh10 yh10 Bh10 => ?_)
  have Oh10 : co α a0 12 βh10 [603, 602, 601] [(600, 0)] := by rw [eh10]; exact co_sN Oh9 ⟨(Or.inl (by rw [kh9]; rfl)), by rw [kh9]; decide, by rw [kh9]; decide, nh8.1, (by rw [kh9]; intro q; exact absurd q (by decide))⟩
  have Eh10 : βh10 = (F_X11_init_10 α Hs.size a0) := by rw [eh10, Eh9, uh8]; try rfl
  have Zh10 : Hh10.size = Hs.size + (920) := yh10.trans Zh9
  refine lv_aload_n hx hb dX11_init_42 rfl (lv_at hl 0 rfl) (hp_n (n := 43) rfl ?_)
  refine lv_sipush (v := 900) hx hb dX11_init_43 (by decide) (hp_n (n := 46) rfl ?_)
  refine q_newaZ (κ := 24) (t := 1) (n := 900) (atype := .byte) (ty := .byte) (dv := .int 0) (pc' := 48) C Bh10 ac_byte rfl (by decide) rfl rfl (fun _ _ q => q) rfl (fun _ cA => nw_cx (by decide) cA) (by decide) (by decide +kernel) (Nat.le_of_ble_eq_true rfl) rfl (Nat.le_of_ble_eq_true rfl) (Nat.le_of_ble_eq_true rfl) dX11_init_46 rfl (fun q hq => gx_nw Bh10.2.2 (by decide) hq) (fun βh11 ah11 Hh11 fh11 wh11 yh11 eh11 Bh11 => ?_)
  have uh11 : ah11 = Hs.size + (920) := by rw [wh11, Zh10]
  have nh11 := gx_new Bh10.2.2 Oh10 fh11
  have Oh11 : co α a0 12 βh11 [603, 602, 601] [(600, 0)] := by rw [eh11]; exact co_nw Oh10 fh11
  have kh11 : hp_K βh11 ah11 = 24 := by rw [eh11]; exact nw_k
  have Eh11 : βh11 = (F_X11_init_11 α Hs.size a0) := by rw [eh11, Eh10, uh11]; try rfl
  have Zh11 : Hh11.size = Hs.size + (921) := zzk yh11 Zh10 rfl
  refine W.widen (k := 921) (n := 8592) (Nat.le_of_ble_eq_true rfl) (Nat.le_of_ble_eq_true rfl) ?_
  refine q_putnFZ (κ := 112) (k := 4) (φ := 604) (pc' := 51) C Bh11 Oh11.1 fl_X11_30 rfl rfl rfl hnm rfl rfl rfl rfl (gx_sN Bh11.2.2 Oh11) dX11_init_48 rfl (fun βh12 Hh12 Lh12 eh12 yh12 Bh12 => ?_)
  have Oh12 : co α a0 12 βh12 [604, 603, 602, 601] [(600, 0)] := by rw [eh12]; exact co_sN Oh11 ⟨(Or.inl (by rw [kh11]; rfl)), by rw [kh11]; decide, by rw [kh11]; decide, nh11.1, (fun _ j => by rw [eh11]; exact nw_e)⟩
  have Eh12 : βh12 = (F_X11_init_12 α Hs.size a0) := by rw [eh12, Eh11, uh11]; try rfl
  have Zh12 : Hh12.size = Hs.size + (921) := yh12.trans Zh11
  refine lv_aload_n hx hb dX11_init_51 rfl (lv_at hl 0 rfl) (hp_n (n := 52) rfl ?_)
  refine lv_iconst (v := 0) hx hb dX11_init_52 (by decide) (hp_n (n := 53) rfl ?_)
  refine q_putiZ (κ := 112) (k := 5) (φ := 605) (pc' := 56) C Bh12 Oh12.1 fl_X11_34 rfl rfl rfl rfl rfl rfl (gx_sI Bh12.2.2 (gc_i0 _)) dX11_init_53 rfl (fun βh13 Hh13 Lh13 eh13 yh13 Bh13 => ?_)
  have Oh13 : co α a0 12 βh13 [604, 603, 602, 601] [(605, 0), (600, 0)] := by rw [eh13]; exact co_sI Oh12 (by decide)
  have Eh13 : βh13 = (F_X11_init_13 α Hs.size a0) := by rw [eh13, Eh12]; try rfl
  have Zh13 : Hh13.size = Hs.size + (921) := yh13.trans Zh12
  refine lv_aload_n hx hb dX11_init_56 rfl (lv_at hl 0 rfl) (hp_n (n := 57) rfl ?_)
  refine q_newZ (κ := 10) (N := 2) (pc' := 60) C Bh13 cl_X11_37 it_X9 iz_X9 rfl in_10 tyX9_ok df_10 (by decide) rfl rfl rfl (Nat.le_of_ble_eq_true rfl) (Nat.le_of_ble_eq_true rfl) dX11_init_57 rfl (fun q hq => gx_nw Bh13.2.2 (by decide) hq) (fun βh14 ah14 Hh14 fh14 wh14 yh14 eh14 Bh14 => ?_)
  have uh14 : ah14 = Hs.size + (921) := by rw [wh14, Zh13]
  have nh14 := gx_new Bh13.2.2 Oh13 fh14
  have Oh14 : co α a0 12 βh14 [604, 603, 602, 601] [(605, 0), (600, 0)] := by rw [eh14]; exact co_nw Oh13 fh14
  have kh14 : hp_K βh14 ah14 = 110 := by rw [eh14]; exact nw_k
  have zh14 : ∀ φ, hp_I βh14 φ ah14 = 0 := fun φ => by rw [eh14]; exact nw_i
  have Eh14 : βh14 = (F_X11_init_14 α Hs.size a0) := by rw [eh14, Eh13, uh14]; try rfl
  have Zh14 : Hh14.size = Hs.size + (922) := zzk yh14 Zh13 rfl
  refine W.widen (k := 922) (n := 8594) (Nat.le_of_ble_eq_true rfl) (Nat.le_of_ble_eq_true rfl) ?_
  refine lv_dup hx hb dX11_init_60 rfl (hp_n (n := 61) rfl ?_)
  refine q_cvZ (pc' := 64) Bh14 (hp_runIZ (As := []) (rest := [.ref ah14, .ref a0]) C Bh14 (u_X9_init Γ l βh14 Bh14.2.2.1 Hh14 ah14 kh14 zh14) lb_X9_init rfl li_X9_init lk_X11_39 rfl (by decide) rfl hl.1 rfl (Nat.le_of_ble_eq_true rfl) dX11_init_61 ⟨(Nat.le_of_ble_eq_true rfl), (Nat.le_of_ble_eq_true rfl)⟩) (fun q hq => gx_call Bh14.2.2 hq.1.1 nh14.1) rfl (fun βh15 Hh15 Lh15 yh15 pph15 Bh15 => ?_)
  have ph15 := pph15.1
  have Eh15 : βh15 = (F_X11_init_15 α Hs.size a0) := by rw [pph15.2, Eh14, Zh14, uh14]; try rfl
  have Zh15 : Hh15.size = Hs.size + (923) := zzk yh15 Zh14 rfl
  have Oh15 : co α a0 12 βh15 [604, 603, 602, 601] [(605, 0), (600, 0)] := co_call Oh14 ph15.1 nh14.2 (by rw [kh14]; decide)
  have kh15 : hp_K βh15 ah14 = 10 := ph15.2.1
  refine W.widen (k := 923) (n := 8602) (Nat.le_of_ble_eq_true rfl) (Nat.le_of_ble_eq_true rfl) ?_
  refine q_putnZ (κ := 112) (k := 6) (φ := 606) (pc' := 67) C Bh15 Oh15.1 fl_X11_40 rfl rfl rfl rfl rfl rfl (gx_sN Bh15.2.2 Oh15) dX11_init_64 rfl (fun βh16 Hh16 Lh16 eh16 yh16 Bh16 => ?_)
  have Oh16 : co α a0 12 βh16 [606, 604, 603, 602, 601] [(605, 0), (600, 0)] := by rw [eh16]; exact co_sN Oh15 ⟨(Or.inl (by rw [kh15]; rfl)), by rw [kh15]; decide, by rw [kh15]; decide, nh14.1, (by rw [kh15]; intro q; exact absurd q (by decide))⟩
  have Eh16 : βh16 = (F_X11_init_16 α Hs.size a0) := by rw [eh16, Eh15, uh14]; try rfl
  have Zh16 : Hh16.size = Hs.size + (923) := yh16.trans Zh15
  refine lv_aload_n hx hb dX11_init_67 rfl (lv_at hl 0 rfl) (hp_n (n := 68) rfl ?_)
  refine q_newZ (κ := 10) (N := 2) (pc' := 71) C Bh16 cl_X11_37 it_X9 iz_X9 rfl in_10 tyX9_ok df_10 (by decide) rfl rfl rfl (Nat.le_of_ble_eq_true rfl) (Nat.le_of_ble_eq_true rfl) dX11_init_68 rfl (fun q hq => gx_nw Bh16.2.2 (by decide) hq) (fun βh17 ah17 Hh17 fh17 wh17 yh17 eh17 Bh17 => ?_)
  have uh17 : ah17 = Hs.size + (923) := by rw [wh17, Zh16]
  have nh17 := gx_new Bh16.2.2 Oh16 fh17
  have Oh17 : co α a0 12 βh17 [606, 604, 603, 602, 601] [(605, 0), (600, 0)] := by rw [eh17]; exact co_nw Oh16 fh17
  have kh17 : hp_K βh17 ah17 = 110 := by rw [eh17]; exact nw_k
  have zh17 : ∀ φ, hp_I βh17 φ ah17 = 0 := fun φ => by rw [eh17]; exact nw_i
  have Eh17 : βh17 = (F_X11_init_17 α Hs.size a0) := by rw [eh17, Eh16, uh17]; try rfl
  have Zh17 : Hh17.size = Hs.size + (924) := zzk yh17 Zh16 rfl
  refine W.widen (k := 924) (n := 8604) (Nat.le_of_ble_eq_true rfl) (Nat.le_of_ble_eq_true rfl) ?_
  refine lv_dup hx hb dX11_init_71 rfl (hp_n (n := 72) rfl ?_)
  refine q_cvZ (pc' := 75) Bh17 (hp_runIZ (As := []) (rest := [.ref ah17, .ref a0]) C Bh17 (u_X9_init Γ l βh17 Bh17.2.2.1 Hh17 ah17 kh17 zh17) lb_X9_init rfl li_X9_init lk_X11_39 rfl (by decide) rfl hl.1 rfl (Nat.le_of_ble_eq_true rfl) dX11_init_72 ⟨(Nat.le_of_ble_eq_true rfl), (Nat.le_of_ble_eq_true rfl)⟩) (fun q hq => gx_call Bh17.2.2 hq.1.1 nh17.1) rfl (fun βh18 Hh18 Lh18 yh18 pph18 Bh18 => ?_)
  have ph18 := pph18.1
  have Eh18 : βh18 = (F_X11_init_18 α Hs.size a0) := by rw [pph18.2, Eh17, Zh17, uh17]; try rfl
  have Zh18 : Hh18.size = Hs.size + (925) := zzk yh18 Zh17 rfl
  have Oh18 : co α a0 12 βh18 [606, 604, 603, 602, 601] [(605, 0), (600, 0)] := co_call Oh17 ph18.1 nh17.2 (by rw [kh17]; decide)
  have kh18 : hp_K βh18 ah17 = 10 := ph18.2.1
  refine W.widen (k := 925) (n := 8612) (Nat.le_of_ble_eq_true rfl) (Nat.le_of_ble_eq_true rfl) ?_
  refine q_putnZ (κ := 112) (k := 7) (φ := 607) (pc' := 78) C Bh18 Oh18.1 fl_X11_44 rfl rfl rfl rfl rfl rfl (gx_sN Bh18.2.2 Oh18) dX11_init_75 rfl (fun βh19 Hh19 Lh19 eh19 yh19 Bh19 => ?_)
  have Oh19 : co α a0 12 βh19 [607, 606, 604, 603, 602, 601] [(605, 0), (600, 0)] := by rw [eh19]; exact co_sN Oh18 ⟨(Or.inl (by rw [kh18]; rfl)), by rw [kh18]; decide, by rw [kh18]; decide, nh17.1, (by rw [kh18]; intro q; exact absurd q (by decide))⟩
  have Eh19 : βh19 = (F_X11_init_19 α Hs.size a0) := by rw [eh19, Eh18, uh17]; try rfl
  have Zh19 : Hh19.size = Hs.size + (925) := yh19.trans Zh18
  refine lv_aload_n hx hb dX11_init_78 rfl (lv_at hl 0 rfl) (hp_n (n := 79) rfl ?_)
  refine q_newZ (κ := 6) (N := 2) (pc' := 82) C Bh19 cl_X11_23 it_X5 iz_X5 rfl in_6 tyX5_ok df_6 (by decide) rfl rfl rfl (Nat.le_of_ble_eq_true rfl) (Nat.le_of_ble_eq_true rfl) dX11_init_79 rfl (fun q hq => gx_nw Bh19.2.2 (by decide) hq) (fun βh20 ah20 Hh20 fh20 wh20 yh20 eh20 Bh20 => ?_)
  have uh20 : ah20 = Hs.size + (925) := by rw [wh20, Zh19]
  have nh20 := gx_new Bh19.2.2 Oh19 fh20
  have Oh20 : co α a0 12 βh20 [607, 606, 604, 603, 602, 601] [(605, 0), (600, 0)] := by rw [eh20]; exact co_nw Oh19 fh20
  have kh20 : hp_K βh20 ah20 = 106 := by rw [eh20]; exact nw_k
  have zh20 : ∀ φ, hp_I βh20 φ ah20 = 0 := fun φ => by rw [eh20]; exact nw_i
  have Eh20 : βh20 = (F_X11_init_20 α Hs.size a0) := by rw [eh20, Eh19, uh20]; try rfl
  have Zh20 : Hh20.size = Hs.size + (926) := zzk yh20 Zh19 rfl
  refine W.widen (k := 926) (n := 8614) (Nat.le_of_ble_eq_true rfl) (Nat.le_of_ble_eq_true rfl) ?_
  refine lv_dup hx hb dX11_init_82 rfl (hp_n (n := 83) rfl ?_)
  refine q_cvZ (pc' := 86) Bh20 (hp_runIZ (As := []) (rest := [.ref ah20, .ref a0]) C Bh20 (u_X5_init Γ l βh20 Bh20.2.2.1 Hh20 ah20 kh20 zh20) lb_X5_init rfl li_X5_init lk_X11_25 rfl (by decide) rfl hl.1 rfl (Nat.le_of_ble_eq_true rfl) dX11_init_83 ⟨(Nat.le_of_ble_eq_true rfl), (Nat.le_of_ble_eq_true rfl)⟩) (fun q hq => gx_call Bh20.2.2 hq.1.1 nh20.1) rfl (fun βh21 Hh21 Lh21 yh21 pph21 Bh21 => ?_)
  have ph21 := pph21.1
  have Eh21 : βh21 = (F_X11_init_21 α Hs.size a0) := by rw [pph21.2, Eh20, Zh20, uh20]; try rfl
  have Zh21 : Hh21.size = Hs.size + (927) := zzk yh21 Zh20 rfl
  have Oh21 : co α a0 12 βh21 [607, 606, 604, 603, 602, 601] [(605, 0), (600, 0)] := co_call Oh20 ph21.1 nh20.2 (by rw [kh20]; decide)
  have kh21 : hp_K βh21 ah20 = 6 := ph21.2.1
  refine W.widen (k := 927) (n := 8678) (Nat.le_of_ble_eq_true rfl) (Nat.le_of_ble_eq_true rfl) ?_
  refine q_putnZ (κ := 112) (k := 8) (φ := 608) (pc' := 89) C Bh21 Oh21.1 fl_X11_47 rfl rfl rfl rfl rfl rfl (gx_sN Bh21.2.2 Oh21) dX11_init_86 rfl (fun βh22 Hh22 Lh22 eh22 yh22 Bh22 => ?_)
  have Oh22 : co α a0 12 βh22 [608, 607, 606, 604, 603, 602, 601] [(605, 0), (600, 0)] := by rw [eh22]; exact co_sN Oh21 ⟨(Or.inl (by rw [kh21]; rfl)), by rw [kh21]; decide, by rw [kh21]; decide, nh20.1, (by rw [kh21]; intro q; exact absurd q (by decide))⟩
  have Eh22 : βh22 = (F_X11_init_22 α Hs.size a0) := by rw [eh22, Eh21, uh20]; try rfl
  have Zh22 : Hh22.size = Hs.size + (927) := yh22.trans Zh21
  refine lv_aload_n hx hb dX11_init_89 rfl (lv_at hl 0 rfl) (hp_n (n := 90) rfl ?_)
  refine q_newZ (κ := 6) (N := 2) (pc' := 93) C Bh22 cl_X11_23 it_X5 iz_X5 rfl in_6 tyX5_ok df_6 (by decide) rfl rfl rfl (Nat.le_of_ble_eq_true rfl) (Nat.le_of_ble_eq_true rfl) dX11_init_90 rfl (fun q hq => gx_nw Bh22.2.2 (by decide) hq) (fun βh23 ah23 Hh23 fh23 wh23 yh23 eh23 Bh23 => ?_)
  have uh23 : ah23 = Hs.size + (927) := by rw [wh23, Zh22]
  have nh23 := gx_new Bh22.2.2 Oh22 fh23
  have Oh23 : co α a0 12 βh23 [608, 607, 606, 604, 603, 602, 601] [(605, 0), (600, 0)] := by rw [eh23]; exact co_nw Oh22 fh23
  have kh23 : hp_K βh23 ah23 = 106 := by rw [eh23]; exact nw_k
  have zh23 : ∀ φ, hp_I βh23 φ ah23 = 0 := fun φ => by rw [eh23]; exact nw_i
  have Eh23 : βh23 = (F_X11_init_23 α Hs.size a0) := by rw [eh23, Eh22, uh23]; try rfl
  have Zh23 : Hh23.size = Hs.size + (928) := zzk yh23 Zh22 rfl
  refine W.widen (k := 928) (n := 8680) (Nat.le_of_ble_eq_true rfl) (Nat.le_of_ble_eq_true rfl) ?_
  refine lv_dup hx hb dX11_init_93 rfl (hp_n (n := 94) rfl ?_)
  refine q_cvZ (pc' := 97) Bh23 (hp_runIZ (As := []) (rest := [.ref ah23, .ref a0]) C Bh23 (u_X5_init Γ l βh23 Bh23.2.2.1 Hh23 ah23 kh23 zh23) lb_X5_init rfl li_X5_init lk_X11_25 rfl (by decide) rfl hl.1 rfl (Nat.le_of_ble_eq_true rfl) dX11_init_94 ⟨(Nat.le_of_ble_eq_true rfl), (Nat.le_of_ble_eq_true rfl)⟩) (fun q hq => gx_call Bh23.2.2 hq.1.1 nh23.1) rfl (fun βh24 Hh24 Lh24 yh24 pph24 Bh24 => ?_)
  have ph24 := pph24.1
  have Eh24 : βh24 = (F_X11_init_24 α Hs.size a0) := by rw [pph24.2, Eh23, Zh23, uh23]; try rfl
  have Zh24 : Hh24.size = Hs.size + (929) := zzk yh24 Zh23 rfl
  have Oh24 : co α a0 12 βh24 [608, 607, 606, 604, 603, 602, 601] [(605, 0), (600, 0)] := co_call Oh23 ph24.1 nh23.2 (by rw [kh23]; decide)
  have kh24 : hp_K βh24 ah23 = 6 := ph24.2.1
  refine W.widen (k := 929) (n := 8744) (Nat.le_of_ble_eq_true rfl) (Nat.le_of_ble_eq_true rfl) ?_
  refine q_putnZ (κ := 112) (k := 9) (φ := 609) (pc' := 100) C Bh24 Oh24.1 fl_X11_50 rfl rfl rfl rfl rfl rfl (gx_sN Bh24.2.2 Oh24) dX11_init_97 rfl (fun βh25 Hh25 Lh25 eh25 yh25 Bh25 => ?_)
  have Oh25 : co α a0 12 βh25 [609, 608, 607, 606, 604, 603, 602, 601] [(605, 0), (600, 0)] := by rw [eh25]; exact co_sN Oh24 ⟨(Or.inl (by rw [kh24]; rfl)), by rw [kh24]; decide, by rw [kh24]; decide, nh23.1, (by rw [kh24]; intro q; exact absurd q (by decide))⟩
  have Eh25 : βh25 = (F_X11_init_25 α Hs.size a0) := by rw [eh25, Eh24, uh23]; try rfl
  have Zh25 : Hh25.size = Hs.size + (929) := yh25.trans Zh24
  refine lv_aload_n hx hb dX11_init_100 rfl (lv_at hl 0 rfl) (hp_n (n := 101) rfl ?_)
  refine lv_sipush (v := 256) hx hb dX11_init_101 (by decide) (hp_n (n := 104) rfl ?_)
  refine q_newaZ (κ := 25) (t := 1) (n := 256) (atype := .byte) (ty := .byte) (dv := .int 0) (pc' := 106) C Bh25 ac_byte rfl (by decide) rfl rfl (fun _ _ q => q) rfl (fun _ cA => nw_cx (by decide) cA) (by decide) (by decide +kernel) (Nat.le_of_ble_eq_true rfl) rfl (Nat.le_of_ble_eq_true rfl) (Nat.le_of_ble_eq_true rfl) dX11_init_104 rfl (fun q hq => gx_nw Bh25.2.2 (by decide) hq) (fun βh26 ah26 Hh26 fh26 wh26 yh26 eh26 Bh26 => ?_)
  have uh26 : ah26 = Hs.size + (929) := by rw [wh26, Zh25]
  have nh26 := gx_new Bh25.2.2 Oh25 fh26
  have Oh26 : co α a0 12 βh26 [609, 608, 607, 606, 604, 603, 602, 601] [(605, 0), (600, 0)] := by rw [eh26]; exact co_nw Oh25 fh26
  have kh26 : hp_K βh26 ah26 = 25 := by rw [eh26]; exact nw_k
  have Eh26 : βh26 = (F_X11_init_26 α Hs.size a0) := by rw [eh26, Eh25, uh26]; try rfl
  have Zh26 : Hh26.size = Hs.size + (930) := zzk yh26 Zh25 rfl
  refine W.widen (k := 930) (n := 9000) (Nat.le_of_ble_eq_true rfl) (Nat.le_of_ble_eq_true rfl) ?_
  refine q_putnFZ (κ := 112) (k := 10) (φ := 610) (pc' := 109) C Bh26 Oh26.1 fl_X11_53 rfl rfl rfl hnm rfl rfl rfl rfl (gx_sN Bh26.2.2 Oh26) dX11_init_106 rfl (fun βh27 Hh27 Lh27 eh27 yh27 Bh27 => ?_)
  have Oh27 : co α a0 12 βh27 [610, 609, 608, 607, 606, 604, 603, 602, 601] [(605, 0), (600, 0)] := by rw [eh27]; exact co_sN Oh26 ⟨(Or.inl (by rw [kh26]; rfl)), by rw [kh26]; decide, by rw [kh26]; decide, nh26.1, (fun _ j => by rw [eh26]; exact nw_e)⟩
  have Eh27 : βh27 = (F_X11_init_27 α Hs.size a0) := by rw [eh27, Eh26, uh26]; try rfl
  have Zh27 : Hh27.size = Hs.size + (930) := yh27.trans Zh26
  refine lv_aload_n hx hb dX11_init_109 rfl (lv_at hl 0 rfl) (hp_n (n := 110) rfl ?_)
  refine lv_iconst (v := 0) hx hb dX11_init_110 (by decide) (hp_n (n := 111) rfl ?_)
  refine q_putiZ (κ := 112) (k := 11) (φ := 611) (pc' := 114) C Bh27 Oh27.1 fl_X11_56 rfl rfl rfl rfl rfl rfl (gx_sI Bh27.2.2 (gc_i0 _)) dX11_init_111 rfl (fun βh28 Hh28 Lh28 eh28 yh28 Bh28 => ?_)
  have Oh28 : co α a0 12 βh28 [610, 609, 608, 607, 606, 604, 603, 602, 601] [(611, 0), (605, 0), (600, 0)] := by rw [eh28]; exact co_sI Oh27 (by decide)
  have Eh28 : βh28 = (F_X11_init_28 α Hs.size a0) := by rw [eh28, Eh27]; try rfl
  have Zh28 : Hh28.size = Hs.size + (930) := yh28.trans Zh27
  refine lv_aload_n hx hb dX11_init_114 rfl (lv_at hl 0 rfl) (hp_n (n := 115) rfl ?_)
  refine q_newZ (κ := 9) (N := 5) (pc' := 118) C Bh28 cl_X11_59 it_X8 iz_X8 rfl in_9 tyX8_ok df_9 (by decide) rfl rfl rfl (Nat.le_of_ble_eq_true rfl) (Nat.le_of_ble_eq_true rfl) dX11_init_115 rfl (fun q hq => gx_nw Bh28.2.2 (by decide) hq) (fun βh29 ah29 Hh29 fh29 wh29 yh29 eh29 Bh29 => ?_)
  have uh29 : ah29 = Hs.size + (930) := by rw [wh29, Zh28]
  have nh29 := gx_new Bh28.2.2 Oh28 fh29
  have Oh29 : co α a0 12 βh29 [610, 609, 608, 607, 606, 604, 603, 602, 601] [(611, 0), (605, 0), (600, 0)] := by rw [eh29]; exact co_nw Oh28 fh29
  have kh29 : hp_K βh29 ah29 = 109 := by rw [eh29]; exact nw_k
  have zh29 : ∀ φ, hp_I βh29 φ ah29 = 0 := fun φ => by rw [eh29]; exact nw_i
  have Eh29 : βh29 = (F_X11_init_29 α Hs.size a0) := by rw [eh29, Eh28, uh29]; try rfl
  have Zh29 : Hh29.size = Hs.size + (931) := zzk yh29 Zh28 rfl
  refine W.widen (k := 931) (n := 9005) (Nat.le_of_ble_eq_true rfl) (Nat.le_of_ble_eq_true rfl) ?_
  refine lv_dup hx hb dX11_init_118 rfl (hp_n (n := 119) rfl ?_)
  refine q_cvZ (pc' := 122) Bh29 (hp_runIZ (As := []) (rest := [.ref ah29, .ref a0]) C Bh29 (u_X8_init Γ l βh29 Bh29.2.2.1 Hh29 ah29 kh29 zh29) lb_X8_init rfl li_X8_init lk_X11_61 rfl (by decide) rfl hl.1 rfl (Nat.le_of_ble_eq_true rfl) dX11_init_119 ⟨(Nat.le_of_ble_eq_true rfl), (Nat.le_of_ble_eq_true rfl)⟩) (fun q hq => gx_call Bh29.2.2 hq.1.1 nh29.1) rfl (fun βh30 Hh30 Lh30 yh30 pph30 Bh30 => ?_)
  have ph30 := pph30.1
  have Eh30 : βh30 = (F_X11_init_30 α Hs.size a0) := by rw [pph30.2, Eh29, Zh29, uh29]; try rfl
  have Zh30 : Hh30.size = Hs.size + (934) := zzk yh30 Zh29 rfl
  have Oh30 : co α a0 12 βh30 [610, 609, 608, 607, 606, 604, 603, 602, 601] [(611, 0), (605, 0), (600, 0)] := co_call Oh29 ph30.1 nh29.2 (by rw [kh29]; decide)
  have kh30 : hp_K βh30 ah29 = 9 := ph30.2.1
  refine W.widen (k := 934) (n := 9197) (Nat.le_of_ble_eq_true rfl) (Nat.le_of_ble_eq_true rfl) ?_
  refine q_putnFZ (κ := 112) (k := 12) (φ := 612) (pc' := 125) C Bh30 Oh30.1 fl_X11_62 rfl rfl rfl hnm rfl rfl rfl rfl (gx_sN Bh30.2.2 Oh30) dX11_init_122 rfl (fun βh31 Hh31 Lh31 eh31 yh31 Bh31 => ?_)
  have Oh31 : co α a0 12 βh31 [612, 610, 609, 608, 607, 606, 604, 603, 602, 601] [(611, 0), (605, 0), (600, 0)] := by rw [eh31]; exact co_sN Oh30 ⟨(Or.inl (by rw [kh30]; rfl)), by rw [kh30]; decide, by rw [kh30]; decide, nh29.1, (by rw [kh30]; intro q; exact absurd q (by decide))⟩
  have Eh31 : βh31 = (F_X11_init_31 α Hs.size a0) := by rw [eh31, Eh30, uh29]; try rfl
  have Zh31 : Hh31.size = Hs.size + (934) := yh31.trans Zh30
  refine lv_aload_n hx hb dX11_init_125 rfl (lv_at hl 0 rfl) (hp_n (n := 126) rfl ?_)
  refine q_newZ (κ := 9) (N := 5) (pc' := 129) C Bh31 cl_X11_59 it_X8 iz_X8 rfl in_9 tyX8_ok df_9 (by decide) rfl rfl rfl (Nat.le_of_ble_eq_true rfl) (Nat.le_of_ble_eq_true rfl) dX11_init_126 rfl (fun q hq => gx_nw Bh31.2.2 (by decide) hq) (fun βh32 ah32 Hh32 fh32 wh32 yh32 eh32 Bh32 => ?_)
  have uh32 : ah32 = Hs.size + (934) := by rw [wh32, Zh31]
  have nh32 := gx_new Bh31.2.2 Oh31 fh32
  have Oh32 : co α a0 12 βh32 [612, 610, 609, 608, 607, 606, 604, 603, 602, 601] [(611, 0), (605, 0), (600, 0)] := by rw [eh32]; exact co_nw Oh31 fh32
  have kh32 : hp_K βh32 ah32 = 109 := by rw [eh32]; exact nw_k
  have zh32 : ∀ φ, hp_I βh32 φ ah32 = 0 := fun φ => by rw [eh32]; exact nw_i
  have Eh32 : βh32 = (F_X11_init_32 α Hs.size a0) := by rw [eh32, Eh31, uh32]; try rfl
  have Zh32 : Hh32.size = Hs.size + (935) := zzk yh32 Zh31 rfl
  refine W.widen (k := 935) (n := 9202) (Nat.le_of_ble_eq_true rfl) (Nat.le_of_ble_eq_true rfl) ?_
  refine lv_dup hx hb dX11_init_129 rfl (hp_n (n := 130) rfl ?_)
  refine q_cvZ (pc' := 133) Bh32 (hp_runIZ (As := []) (rest := [.ref ah32, .ref a0]) C Bh32 (u_X8_init Γ l βh32 Bh32.2.2.1 Hh32 ah32 kh32 zh32) lb_X8_init rfl li_X8_init lk_X11_61 rfl (by decide) rfl hl.1 rfl (Nat.le_of_ble_eq_true rfl) dX11_init_130 ⟨(Nat.le_of_ble_eq_true rfl), (Nat.le_of_ble_eq_true rfl)⟩) (fun q hq => gx_call Bh32.2.2 hq.1.1 nh32.1) rfl (fun βh33 Hh33 Lh33 yh33 pph33 Bh33 => ?_)
  have ph33 := pph33.1
  have Eh33 : βh33 = (F_X11_init_33 α Hs.size a0) := by rw [pph33.2, Eh32, Zh32, uh32]; try rfl
  have Zh33 : Hh33.size = Hs.size + (938) := zzk yh33 Zh32 rfl
  have Oh33 : co α a0 12 βh33 [612, 610, 609, 608, 607, 606, 604, 603, 602, 601] [(611, 0), (605, 0), (600, 0)] := co_call Oh32 ph33.1 nh32.2 (by rw [kh32]; decide)
  have kh33 : hp_K βh33 ah32 = 9 := ph33.2.1
  refine W.widen (k := 938) (n := 9394) (Nat.le_of_ble_eq_true rfl) (Nat.le_of_ble_eq_true rfl) ?_
  refine q_putnFZ (κ := 112) (k := 13) (φ := 613) (pc' := 136) C Bh33 Oh33.1 fl_X11_66 rfl rfl rfl hnm rfl rfl rfl rfl (gx_sN Bh33.2.2 Oh33) dX11_init_133 rfl (fun βh34 Hh34 Lh34 eh34 yh34 Bh34 => ?_)
  have Oh34 : co α a0 12 βh34 [613, 612, 610, 609, 608, 607, 606, 604, 603, 602, 601] [(611, 0), (605, 0), (600, 0)] := by rw [eh34]; exact co_sN Oh33 ⟨(Or.inl (by rw [kh33]; rfl)), by rw [kh33]; decide, by rw [kh33]; decide, nh32.1, (by rw [kh33]; intro q; exact absurd q (by decide))⟩
  have Eh34 : βh34 = (F_X11_init_34 α Hs.size a0) := by rw [eh34, Eh33, uh32]; try rfl
  have Zh34 : Hh34.size = Hs.size + (938) := yh34.trans Zh33
  refine lv_aload_n hx hb dX11_init_136 rfl (lv_at hl 0 rfl) (hp_n (n := 137) rfl ?_)
  refine q_newZ (κ := 6) (N := 2) (pc' := 140) C Bh34 cl_X11_23 it_X5 iz_X5 rfl in_6 tyX5_ok df_6 (by decide) rfl rfl rfl (Nat.le_of_ble_eq_true rfl) (Nat.le_of_ble_eq_true rfl) dX11_init_137 rfl (fun q hq => gx_nw Bh34.2.2 (by decide) hq) (fun βh35 ah35 Hh35 fh35 wh35 yh35 eh35 Bh35 => ?_)
  have uh35 : ah35 = Hs.size + (938) := by rw [wh35, Zh34]
  have nh35 := gx_new Bh34.2.2 Oh34 fh35
  have Oh35 : co α a0 12 βh35 [613, 612, 610, 609, 608, 607, 606, 604, 603, 602, 601] [(611, 0), (605, 0), (600, 0)] := by rw [eh35]; exact co_nw Oh34 fh35
  have kh35 : hp_K βh35 ah35 = 106 := by rw [eh35]; exact nw_k
  have zh35 : ∀ φ, hp_I βh35 φ ah35 = 0 := fun φ => by rw [eh35]; exact nw_i
  have Eh35 : βh35 = (F_X11_init_35 α Hs.size a0) := by rw [eh35, Eh34, uh35]; try rfl
  have Zh35 : Hh35.size = Hs.size + (939) := zzk yh35 Zh34 rfl
  refine W.widen (k := 939) (n := 9396) (Nat.le_of_ble_eq_true rfl) (Nat.le_of_ble_eq_true rfl) ?_
  refine lv_dup hx hb dX11_init_140 rfl (hp_n (n := 141) rfl ?_)
  refine q_cvZ (pc' := 144) Bh35 (hp_runIZ (As := []) (rest := [.ref ah35, .ref a0]) C Bh35 (u_X5_init Γ l βh35 Bh35.2.2.1 Hh35 ah35 kh35 zh35) lb_X5_init rfl li_X5_init lk_X11_25 rfl (by decide) rfl hl.1 rfl (Nat.le_of_ble_eq_true rfl) dX11_init_141 ⟨(Nat.le_of_ble_eq_true rfl), (Nat.le_of_ble_eq_true rfl)⟩) (fun q hq => gx_call Bh35.2.2 hq.1.1 nh35.1) rfl (fun βh36 Hh36 Lh36 yh36 pph36 Bh36 => ?_)
  have ph36 := pph36.1
  have Eh36 : βh36 = (F_X11_init_36 α Hs.size a0) := by rw [pph36.2, Eh35, Zh35, uh35]; try rfl
  have Zh36 : Hh36.size = Hs.size + (940) := zzk yh36 Zh35 rfl
  have Oh36 : co α a0 12 βh36 [613, 612, 610, 609, 608, 607, 606, 604, 603, 602, 601] [(611, 0), (605, 0), (600, 0)] := co_call Oh35 ph36.1 nh35.2 (by rw [kh35]; decide)
  have kh36 : hp_K βh36 ah35 = 6 := ph36.2.1
  refine W.widen (k := 940) (n := 9460) (Nat.le_of_ble_eq_true rfl) (Nat.le_of_ble_eq_true rfl) ?_
  refine q_putnFZ (κ := 112) (k := 14) (φ := 614) (pc' := 147) C Bh36 Oh36.1 fl_X11_69 rfl rfl rfl hnm rfl rfl rfl rfl (gx_sN Bh36.2.2 Oh36) dX11_init_144 rfl (fun βh37 Hh37 Lh37 eh37 yh37 Bh37 => ?_)
  have Oh37 : co α a0 12 βh37 [614, 613, 612, 610, 609, 608, 607, 606, 604, 603, 602, 601] [(611, 0), (605, 0), (600, 0)] := by rw [eh37]; exact co_sN Oh36 ⟨(Or.inl (by rw [kh36]; rfl)), by rw [kh36]; decide, by rw [kh36]; decide, nh35.1, (by rw [kh36]; intro q; exact absurd q (by decide))⟩
  have Eh37 : βh37 = (F_X11_init_37 α Hs.size a0) := by rw [eh37, Eh36, uh35]; try rfl
  have Zh37 : Hh37.size = Hs.size + (940) := yh37.trans Zh36
  refine lv_aload_n hx hb dX11_init_147 rfl (lv_at hl 0 rfl) (hp_n (n := 148) rfl ?_)
  refine q_newZ (κ := 1) (N := 5) (pc' := 151) C Bh37 cl_X11_72 it_X0 iz_X0 rfl in_1 tyX0_ok df_1 (by decide) rfl rfl rfl (Nat.le_of_ble_eq_true rfl) (Nat.le_of_ble_eq_true rfl) dX11_init_148 rfl (fun q hq => gx_nw Bh37.2.2 (by decide) hq) (fun βh38 ah38 Hh38 fh38 wh38 yh38 eh38 Bh38 => ?_)
  have uh38 : ah38 = Hs.size + (940) := by rw [wh38, Zh37]
  have nh38 := gx_new Bh37.2.2 Oh37 fh38
  have Oh38 : co α a0 12 βh38 [614, 613, 612, 610, 609, 608, 607, 606, 604, 603, 602, 601] [(611, 0), (605, 0), (600, 0)] := by rw [eh38]; exact co_nw Oh37 fh38
  have kh38 : hp_K βh38 ah38 = 101 := by rw [eh38]; exact nw_k
  have zh38 : ∀ φ, hp_I βh38 φ ah38 = 0 := fun φ => by rw [eh38]; exact nw_i
  have Eh38 : βh38 = (F_X11_init_38 α Hs.size a0) := by rw [eh38, Eh37, uh38]; try rfl
  have Zh38 : Hh38.size = Hs.size + (941) := zzk yh38 Zh37 rfl
  refine W.widen (k := 941) (n := 9465) (Nat.le_of_ble_eq_true rfl) (Nat.le_of_ble_eq_true rfl) ?_
  refine lv_dup hx hb dX11_init_151 rfl (hp_n (n := 152) rfl ?_)
  refine q_cvZ (pc' := 155) Bh38 (hp_runIZ (As := []) (rest := [.ref ah38, .ref a0]) C Bh38 (u_X0_init Γ l βh38 Bh38.2.2.1 Hh38 ah38 kh38 zh38) lb_X0_init rfl li_X0_init lk_X11_74 rfl (by decide) rfl hl.1 rfl (Nat.le_of_ble_eq_true rfl) dX11_init_152 ⟨(Nat.le_of_ble_eq_true rfl), (Nat.le_of_ble_eq_true rfl)⟩) (fun q hq => gx_call Bh38.2.2 hq.1.1 nh38.1) rfl (fun βh39 Hh39 Lh39 yh39 pph39 Bh39 => ?_)
  have ph39 := pph39.1
  have Eh39 : βh39 = (F_X11_init_39 α Hs.size a0) := by rw [pph39.2, Eh38, Zh38, uh38]; try rfl
  have Zh39 : Hh39.size = Hs.size + (943) := zzk yh39 Zh38 rfl
  have Oh39 : co α a0 12 βh39 [614, 613, 612, 610, 609, 608, 607, 606, 604, 603, 602, 601] [(611, 0), (605, 0), (600, 0)] := co_call Oh38 ph39.1 nh38.2 (by rw [kh38]; decide)
  have kh39 : hp_K βh39 ah38 = 1 := ph39.2.1
  refine W.widen (k := 943) (n := 9531) (Nat.le_of_ble_eq_true rfl) (Nat.le_of_ble_eq_true rfl) ?_
  refine q_putnFZ (κ := 112) (k := 15) (φ := 615) (pc' := 158) C Bh39 Oh39.1 fl_X11_75 rfl rfl rfl hnm rfl rfl rfl rfl (gx_sN Bh39.2.2 Oh39) dX11_init_155 rfl (fun βh40 Hh40 Lh40 eh40 yh40 Bh40 => ?_)
  have Oh40 : co α a0 12 βh40 [615, 614, 613, 612, 610, 609, 608, 607, 606, 604, 603, 602, 601] [(611, 0), (605, 0), (600, 0)] := by rw [eh40]; exact co_sN Oh39 ⟨(Or.inl (by rw [kh39]; rfl)), by rw [kh39]; decide, by rw [kh39]; decide, nh38.1, (by rw [kh39]; intro q; exact absurd q (by decide))⟩
  have Eh40 : βh40 = (F_X11_init_40 α Hs.size a0) := by rw [eh40, Eh39, uh38]; try rfl
  have Zh40 : Hh40.size = Hs.size + (943) := yh40.trans Zh39
  refine lv_aload_n hx hb dX11_init_158 rfl (lv_at hl 0 rfl) (hp_n (n := 159) rfl ?_)
  refine q_newZ (κ := 4) (N := 10) (pc' := 162) C Bh40 cl_X11_79 it_X3 iz_X3 rfl in_4 tyX3_ok df_4 (by decide) rfl rfl rfl (Nat.le_of_ble_eq_true rfl) (Nat.le_of_ble_eq_true rfl) dX11_init_159 rfl (fun q hq => gx_nw Bh40.2.2 (by decide) hq) (fun βh41 ah41 Hh41 fh41 wh41 yh41 eh41 Bh41 => ?_)
  have uh41 : ah41 = Hs.size + (943) := by rw [wh41, Zh40]
  have nh41 := gx_new Bh40.2.2 Oh40 fh41
  have Oh41 : co α a0 12 βh41 [615, 614, 613, 612, 610, 609, 608, 607, 606, 604, 603, 602, 601] [(611, 0), (605, 0), (600, 0)] := by rw [eh41]; exact co_nw Oh40 fh41
  have kh41 : hp_K βh41 ah41 = 104 := by rw [eh41]; exact nw_k
  have zh41 : ∀ φ, hp_I βh41 φ ah41 = 0 := fun φ => by rw [eh41]; exact nw_i
  have Eh41 : βh41 = (F_X11_init_41 α Hs.size a0) := by rw [eh41, Eh40, uh41]; try rfl
  have Zh41 : Hh41.size = Hs.size + (944) := zzk yh41 Zh40 rfl
  refine W.widen (k := 944) (n := 9541) (Nat.le_of_ble_eq_true rfl) (Nat.le_of_ble_eq_true rfl) ?_
  refine lv_dup hx hb dX11_init_162 rfl (hp_n (n := 163) rfl ?_)
  refine q_cvZ (pc' := 166) Bh41 (hp_runIZ (As := []) (rest := [.ref ah41, .ref a0]) C Bh41 (u_X3_init Γ l βh41 Bh41.2.2.1 Hh41 ah41 kh41 zh41) lb_X3_init rfl li_X3_init lk_X11_81 rfl (by decide) rfl hl.1 rfl (Nat.le_of_ble_eq_true rfl) dX11_init_163 ⟨(Nat.le_of_ble_eq_true rfl), (Nat.le_of_ble_eq_true rfl)⟩) (fun q hq => gx_call Bh41.2.2 hq.1.1 nh41.1) rfl (fun βh42 Hh42 Lh42 yh42 pph42 Bh42 => ?_)
  have ph42 := pph42.1
  have Eh42 : βh42 = (F_X11_init_42 α Hs.size a0) := by rw [pph42.2, Eh41, Zh41, uh41]; try rfl
  have Zh42 : Hh42.size = Hs.size + (954) := zzk yh42 Zh41 rfl
  have Oh42 : co α a0 12 βh42 [615, 614, 613, 612, 610, 609, 608, 607, 606, 604, 603, 602, 601] [(611, 0), (605, 0), (600, 0)] := co_call Oh41 ph42.1 nh41.2 (by rw [kh41]; decide)
  have kh42 : hp_K βh42 ah41 = 4 := ph42.2.1
  refine W.widen (k := 954) (n := 9821) (Nat.le_of_ble_eq_true rfl) (Nat.le_of_ble_eq_true rfl) ?_
  refine q_putnFZ (κ := 112) (k := 16) (φ := 616) (pc' := 169) C Bh42 Oh42.1 fl_X11_82 rfl rfl rfl hnm rfl rfl rfl rfl (gx_sN Bh42.2.2 Oh42) dX11_init_166 rfl (fun βh43 Hh43 Lh43 eh43 yh43 Bh43 => ?_)
  have Oh43 : co α a0 12 βh43 [616, 615, 614, 613, 612, 610, 609, 608, 607, 606, 604, 603, 602, 601] [(611, 0), (605, 0), (600, 0)] := by rw [eh43]; exact co_sN Oh42 ⟨(Or.inl (by rw [kh42]; rfl)), by rw [kh42]; decide, by rw [kh42]; decide, nh41.1, (by rw [kh42]; intro q; exact absurd q (by decide))⟩
  have Eh43 : βh43 = (F_X11_init_43 α Hs.size a0) := by rw [eh43, Eh42, uh41]; try rfl
  have Zh43 : Hh43.size = Hs.size + (954) := yh43.trans Zh42
  refine lv_aload_n hx hb dX11_init_169 rfl (lv_at hl 0 rfl) (hp_n (n := 170) rfl ?_)
  refine lv_sipush (v := 256) hx hb dX11_init_170 (by decide) (hp_n (n := 173) rfl ?_)
  refine q_newaZ (κ := 26) (t := 0) (n := 256) (atype := .int) (ty := .int) (dv := .int 0) (pc' := 175) C Bh43 ac_int rfl (by decide) rfl rfl (fun _ _ q => q) rfl (fun _ cA => nw_cx (by decide) cA) (by decide) (by decide +kernel) (Nat.le_of_ble_eq_true rfl) rfl (Nat.le_of_ble_eq_true rfl) (Nat.le_of_ble_eq_true rfl) dX11_init_173 rfl (fun q hq => gx_nw Bh43.2.2 (by decide) hq) (fun βh44 ah44 Hh44 fh44 wh44 yh44 eh44 Bh44 => ?_)
  have uh44 : ah44 = Hs.size + (954) := by rw [wh44, Zh43]
  have nh44 := gx_new Bh43.2.2 Oh43 fh44
  have Oh44 : co α a0 12 βh44 [616, 615, 614, 613, 612, 610, 609, 608, 607, 606, 604, 603, 602, 601] [(611, 0), (605, 0), (600, 0)] := by rw [eh44]; exact co_nw Oh43 fh44
  have kh44 : hp_K βh44 ah44 = 26 := by rw [eh44]; exact nw_k
  have Eh44 : βh44 = (F_X11_init_44 α Hs.size a0) := by rw [eh44, Eh43, uh44]; try rfl
  have Zh44 : Hh44.size = Hs.size + (955) := zzk yh44 Zh43 rfl
  refine W.widen (k := 955) (n := 10077) (Nat.le_of_ble_eq_true rfl) (Nat.le_of_ble_eq_true rfl) ?_
  refine q_putnFZ (κ := 112) (k := 17) (φ := 617) (pc' := 178) C Bh44 Oh44.1 fl_X11_86 rfl rfl rfl hnm rfl rfl rfl rfl (gx_sN Bh44.2.2 Oh44) dX11_init_175 rfl (fun βh45 Hh45 Lh45 eh45 yh45 Bh45 => ?_)
  have Oh45 : co α a0 12 βh45 [617, 616, 615, 614, 613, 612, 610, 609, 608, 607, 606, 604, 603, 602, 601] [(611, 0), (605, 0), (600, 0)] := by rw [eh45]; exact co_sN Oh44 ⟨(Or.inl (by rw [kh44]; rfl)), by rw [kh44]; decide, by rw [kh44]; decide, nh44.1, (fun _ j => by rw [eh44]; exact nw_e)⟩
  have Eh45 : βh45 = (F_X11_init_45 α Hs.size a0) := by rw [eh45, Eh44, uh44]; try rfl
  have Zh45 : Hh45.size = Hs.size + (955) := yh45.trans Zh44
  refine lv_aload_n hx hb dX11_init_178 rfl (lv_at hl 0 rfl) (hp_n (n := 179) rfl ?_)
  refine lv_null hx hb dX11_init_179 (hp_n (n := 180) rfl ?_)
  refine q_put0Z (κ := 112) (k := 18) (φ := 618) (pc' := 183) C Bh45 Oh45.1 fl_X11_90 rfl rfl rfl rfl rfl rfl (gx_sN Bh45.2.2 Oh45) dX11_init_180 rfl (fun βh46 Hh46 Lh46 eh46 yh46 Bh46 => ?_)
  have Oh46 : co α a0 12 βh46 [617, 616, 615, 614, 613, 612, 610, 609, 608, 607, 606, 604, 603, 602, 601] [(611, 0), (605, 0), (600, 0)] := by rw [eh46]; exact co_s0 Oh45 (by decide)
  have N618 : hp_N βh46 618 a0 = none := by rw [eh46]; exact sN_at
  have Eh46 : βh46 = (F_X11_init_46 α Hs.size a0) := by rw [eh46, Eh45]; try rfl
  have Zh46 : Hh46.size = Hs.size + (955) := yh46.trans Zh45
  obtain ⟨Bh47, kh47, fh47, -⟩ := co_fin Bh46 Oh46 (by decide) (by decide) (by decide) (fun _ => N618)
  refine W.widen (k := 955) (n := 10077) (Nat.le_of_ble_eq_true rfl) (Nat.le_of_ble_eq_true rfl) ?_
  exact q_vretZ C Bh47 Zh46 hr hlk ⟨⟨Bh47.2.2, kh47, fh47, N618⟩, by rw [Eh46]; try rfl⟩ dX11_init_183
