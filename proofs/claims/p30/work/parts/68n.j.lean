section JN9_0
def F_X5_init_0 (α : hp_T) (h a0 : Nat) : hp_T := α
def F_X5_init_1 (α : hp_T) (h a0 : Nat) : hp_T := hp_nw (F_X5_init_0 α h a0) (h + (0)) 20
def F_X5_init_2 (α : hp_T) (h a0 : Nat) : hp_T := hp_sN (F_X5_init_1 α h a0) 300 a0 (some (h + (0)))
def F_X5_init_3 (α : hp_T) (h a0 : Nat) : hp_T := hp_sI (F_X5_init_2 α h a0) 301 a0 0
def F_X5_init (α : hp_T) (h a0 : Nat) : hp_T := hp_cv (F_X5_init_3 α h a0) a0 6
set_option maxRecDepth 100000 in
set_option maxHeartbeats 4000000 in
theorem u_X5_init (Γ : hp_G) (l : Launch) (α : hp_T) (g : GC α) (Hs : Heap) (a0 : Nat) (k0 : hp_K α a0 = 106) (z0 : ∀ φ, hp_I α φ a0 = 0) : Met l yX5_init (hp_ws yX5_init cX5_init 1 none) (hp_rm 1 1 64) (hp_PcH Γ α Hs [.ref a0]) (hp_QZ Γ (Hs.size + 1) (fun β => (gx a0 α β ∧ hp_K β a0 = 6 ∧ (∀ q ∈ ([(301, 0)] : List (Nat × Int32)), hp_I β q.1 a0 = q.2)) ∧ β = F_X5_init α Hs.size a0)) 1 64 (hp_A Γ) := by
  refine hp_startZ (by decide) ?_
  intro p e s m below meth c C hr hlk B0 hnm hHs
  have Z : s.heap.size = Hs.size + 0 := by rw [hHs]; rfl
  have E : α = F_X5_init_0 α Hs.size a0 := rfl
  have C : hp_C Γ p m c cX5_init 1 s ([.ref a0] : List Value).toArray RX5 := C
  have hx := C.1.1
  have hb := C.1.2.1
  have hown := C.1.2.2.2.1
  have hts := C.1.2.2.2.2
  have B : hp_B Γ (gx a0) s α α s.heap [] := ⟨B0.1, B0.2.1, gx_rf g⟩
  have O : co α a0 6 α [] [] := co_0 k0 z0
  have hl := lv_entry ([.ref a0]) (n := 1) (Nat.le_of_ble_eq_true rfl)
  show W p l e (hp_rm 1 1 64) s m ([.ref a0] : List Value).toArray below meth c s.heap [] 0 0 (MQ below (hp_QZ Γ (Hs.size + 1) (fun β => (gx a0 α β ∧ hp_K β a0 = 6 ∧ (∀ q ∈ ([(301, 0)] : List (Nat × Int32)), hp_I β q.1 a0 = q.2)) ∧ β = F_X5_init α Hs.size a0)) ([.ref a0] : List Value).toArray s 1 64 (hp_A Γ)) (entryFrame m ([.ref a0] : List Value).toArray 1)
  rw [lg_entry_eq]
  generalize (lg_sl ([.ref a0]) ++ List.replicate (1 - (lg_sl ([.ref a0])).length) Slot.unset).toArray = ls at hl ⊢
  have hl : lv_has ls 1 [(0, .ref a0)] := hl
  refine lv_aload_n hx hb dX5_init_0 rfl (lv_at hl 0 rfl) (hp_n (n := 1) rfl ?_)
  refine q_obj (pc' := 4) C ol_X5 hl.1 rfl (by decide) dX5_init_1 rfl ?_
  refine lv_aload_n hx hb dX5_init_4 rfl (lv_at hl 0 rfl) (hp_n (n := 5) rfl ?_)
  refine lv_bipush (v := 64) hx hb dX5_init_5 (by decide) (hp_n (n := 7) rfl ?_)
  refine q_newaZ (κ := 20) (t := 0) (n := 64) (atype := .int) (ty := .int) (dv := .int 0) (pc' := 9) C B ac_int rfl (by decide) rfl rfl (fun _ _ q => q) rfl (fun _ cA => nw_cx (by decide) cA) (by decide) (by decide +kernel) (Nat.le_of_ble_eq_true rfl) rfl (Nat.le_of_ble_eq_true rfl) (Nat.le_of_ble_eq_true rfl) dX5_init_7 rfl (fun q hq => gx_nw B.2.2 (by decide) hq) (fun βh1 ah1 Hh1 fh1 wh1 yh1 eh1 Bh1 => ?_)
  have uh1 : ah1 = Hs.size + (0) := by rw [wh1, Z]
  have nh1 := gx_new B.2.2 O fh1
  have Oh1 : co α a0 6 βh1 [] [] := by rw [eh1]; exact co_nw O fh1
  have kh1 : hp_K βh1 ah1 = 20 := by rw [eh1]; exact nw_k
  have Eh1 : βh1 = (F_X5_init_1 α Hs.size a0) := by rw [eh1, E, uh1]; try rfl
  have Zh1 : Hh1.size = Hs.size + (1) := zzk yh1 Z rfl
  refine W.widen (k := 1) (n := 64) (Nat.le_of_ble_eq_true rfl) (Nat.le_of_ble_eq_true rfl) ?_
  refine q_putnFZ (κ := 106) (k := 0) (φ := 300) (pc' := 12) C Bh1 Oh1.1 fl_X5_9 rfl rfl rfl hnm rfl rfl rfl rfl (gx_sN Bh1.2.2 Oh1) dX5_init_9 rfl (fun βh2 Hh2 Lh2 eh2 yh2 Bh2 => ?_)
  have Oh2 : co α a0 6 βh2 [300] [] := by rw [eh2]; exact co_sN Oh1 ⟨(Or.inl (by rw [kh1]; rfl)), by rw [kh1]; decide, by rw [kh1]; decide, nh1.1, (fun _ j => by rw [eh1]; exact nw_e)⟩
  have Eh2 : βh2 = (F_X5_init_2 α Hs.size a0) := by rw [eh2, Eh1, uh1]; try rfl
  have Zh2 : Hh2.size = Hs.size + (1) := yh2.trans Zh1
  refine lv_aload_n hx hb dX5_init_12 rfl (lv_at hl 0 rfl) (hp_n (n := 13) rfl ?_)
  refine lv_iconst (v := 0) hx hb dX5_init_13 (by decide) (hp_n (n := 14) rfl ?_)
  refine q_putiZ (κ := 106) (k := 1) (φ := 301) (pc' := 17) C Bh2 Oh2.1 fl_X5_15 rfl rfl rfl rfl rfl rfl (gx_sI Bh2.2.2 (gc_i0 _)) dX5_init_14 rfl (fun βh3 Hh3 Lh3 eh3 yh3 Bh3 => ?_)
  have Oh3 : co α a0 6 βh3 [300] [(301, 0)] := by rw [eh3]; exact co_sI Oh2 (by decide)
  have Eh3 : βh3 = (F_X5_init_3 α Hs.size a0) := by rw [eh3, Eh2]; try rfl
  have Zh3 : Hh3.size = Hs.size + (1) := yh3.trans Zh2
  obtain ⟨Bh4, kh4, fh4, -⟩ := co_fin Bh3 Oh3 (by decide) (by decide) (by decide) (fun q => absurd q (by decide))
  refine W.widen (k := 1) (n := 64) (Nat.le_of_ble_eq_true rfl) (Nat.le_of_ble_eq_true rfl) ?_
  exact q_vretZ C Bh4 Zh3 hr hlk ⟨⟨Bh4.2.2, kh4, fh4⟩, by rw [Eh3]; try rfl⟩ dX5_init_17
def F_X9_init_0 (α : hp_T) (h a0 : Nat) : hp_T := α
def F_X9_init_1 (α : hp_T) (h a0 : Nat) : hp_T := hp_nw (F_X9_init_0 α h a0) (h + (0)) 27
def F_X9_init_2 (α : hp_T) (h a0 : Nat) : hp_T := hp_sN (F_X9_init_1 α h a0) 500 a0 (some (h + (0)))
def F_X9_init_3 (α : hp_T) (h a0 : Nat) : hp_T := hp_sI (F_X9_init_2 α h a0) 501 a0 0
def F_X9_init (α : hp_T) (h a0 : Nat) : hp_T := hp_cv (F_X9_init_3 α h a0) a0 10
set_option maxRecDepth 100000 in
set_option maxHeartbeats 4000000 in
theorem u_X9_init (Γ : hp_G) (l : Launch) (α : hp_T) (g : GC α) (Hs : Heap) (a0 : Nat) (k0 : hp_K α a0 = 110) (z0 : ∀ φ, hp_I α φ a0 = 0) : Met l yX9_init (hp_ws yX9_init cX9_init 1 none) (hp_rm 1 1 8) (hp_PcH Γ α Hs [.ref a0]) (hp_QZ Γ (Hs.size + 1) (fun β => (gx a0 α β ∧ hp_K β a0 = 10 ∧ (∀ q ∈ ([(501, 0)] : List (Nat × Int32)), hp_I β q.1 a0 = q.2)) ∧ β = F_X9_init α Hs.size a0)) 1 8 (hp_A Γ) := by
  refine hp_startZ (by decide) ?_
  intro p e s m below meth c C hr hlk B0 hnm hHs
  have Z : s.heap.size = Hs.size + 0 := by rw [hHs]; rfl
  have E : α = F_X9_init_0 α Hs.size a0 := rfl
  have C : hp_C Γ p m c cX9_init 1 s ([.ref a0] : List Value).toArray RX9 := C
  have hx := C.1.1
  have hb := C.1.2.1
  have hown := C.1.2.2.2.1
  have hts := C.1.2.2.2.2
  have B : hp_B Γ (gx a0) s α α s.heap [] := ⟨B0.1, B0.2.1, gx_rf g⟩
  have O : co α a0 10 α [] [] := co_0 k0 z0
  have hl := lv_entry ([.ref a0]) (n := 1) (Nat.le_of_ble_eq_true rfl)
  show W p l e (hp_rm 1 1 8) s m ([.ref a0] : List Value).toArray below meth c s.heap [] 0 0 (MQ below (hp_QZ Γ (Hs.size + 1) (fun β => (gx a0 α β ∧ hp_K β a0 = 10 ∧ (∀ q ∈ ([(501, 0)] : List (Nat × Int32)), hp_I β q.1 a0 = q.2)) ∧ β = F_X9_init α Hs.size a0)) ([.ref a0] : List Value).toArray s 1 8 (hp_A Γ)) (entryFrame m ([.ref a0] : List Value).toArray 1)
  rw [lg_entry_eq]
  generalize (lg_sl ([.ref a0]) ++ List.replicate (1 - (lg_sl ([.ref a0])).length) Slot.unset).toArray = ls at hl ⊢
  have hl : lv_has ls 1 [(0, .ref a0)] := hl
  refine lv_aload_n hx hb dX9_init_0 rfl (lv_at hl 0 rfl) (hp_n (n := 1) rfl ?_)
  refine q_obj (pc' := 4) C ol_X9 hl.1 rfl (by decide) dX9_init_1 rfl ?_
  refine lv_aload_n hx hb dX9_init_4 rfl (lv_at hl 0 rfl) (hp_n (n := 5) rfl ?_)
  refine lv_bipush (v := 8) hx hb dX9_init_5 (by decide) (hp_n (n := 7) rfl ?_)
  refine q_newaZ (κ := 27) (t := 1) (n := 8) (atype := .byte) (ty := .byte) (dv := .int 0) (pc' := 9) C B ac_byte rfl (by decide) rfl rfl (fun _ _ q => q) rfl (fun _ cA => nw_cx (by decide) cA) (by decide) (by decide +kernel) (Nat.le_of_ble_eq_true rfl) rfl (Nat.le_of_ble_eq_true rfl) (Nat.le_of_ble_eq_true rfl) dX9_init_7 rfl (fun q hq => gx_nw B.2.2 (by decide) hq) (fun βh1 ah1 Hh1 fh1 wh1 yh1 eh1 Bh1 => ?_)
  have uh1 : ah1 = Hs.size + (0) := by rw [wh1, Z]
  have nh1 := gx_new B.2.2 O fh1
  have Oh1 : co α a0 10 βh1 [] [] := by rw [eh1]; exact co_nw O fh1
  have kh1 : hp_K βh1 ah1 = 27 := by rw [eh1]; exact nw_k
  have Eh1 : βh1 = (F_X9_init_1 α Hs.size a0) := by rw [eh1, E, uh1]; try rfl
  have Zh1 : Hh1.size = Hs.size + (1) := zzk yh1 Z rfl
  refine W.widen (k := 1) (n := 8) (Nat.le_of_ble_eq_true rfl) (Nat.le_of_ble_eq_true rfl) ?_
  refine q_putnFZ (κ := 110) (k := 0) (φ := 500) (pc' := 12) C Bh1 Oh1.1 fl_X9_9 rfl rfl rfl hnm rfl rfl rfl rfl (gx_sN Bh1.2.2 Oh1) dX9_init_9 rfl (fun βh2 Hh2 Lh2 eh2 yh2 Bh2 => ?_)
  have Oh2 : co α a0 10 βh2 [500] [] := by rw [eh2]; exact co_sN Oh1 ⟨(Or.inl (by rw [kh1]; rfl)), by rw [kh1]; decide, by rw [kh1]; decide, nh1.1, (fun _ j => by rw [eh1]; exact nw_e)⟩
  have Eh2 : βh2 = (F_X9_init_2 α Hs.size a0) := by rw [eh2, Eh1, uh1]; try rfl
  have Zh2 : Hh2.size = Hs.size + (1) := yh2.trans Zh1
  refine lv_aload_n hx hb dX9_init_12 rfl (lv_at hl 0 rfl) (hp_n (n := 13) rfl ?_)
  refine lv_iconst (v := 0) hx hb dX9_init_13 (by decide) (hp_n (n := 14) rfl ?_)
  refine q_putiZ (κ := 110) (k := 1) (φ := 501) (pc' := 17) C Bh2 Oh2.1 fl_X9_15 rfl rfl rfl rfl rfl rfl (gx_sI Bh2.2.2 (gc_i0 _)) dX9_init_14 rfl (fun βh3 Hh3 Lh3 eh3 yh3 Bh3 => ?_)
  have Oh3 : co α a0 10 βh3 [500] [(501, 0)] := by rw [eh3]; exact co_sI Oh2 (by decide)
  have Eh3 : βh3 = (F_X9_init_3 α Hs.size a0) := by rw [eh3, Eh2]; try rfl
  have Zh3 : Hh3.size = Hs.size + (1) := yh3.trans Zh2
  obtain ⟨Bh4, kh4, fh4, -⟩ := co_fin Bh3 Oh3 (by decide) (by decide) (by decide) (fun q => absurd q (by decide))
  refine W.widen (k := 1) (n := 8) (Nat.le_of_ble_eq_true rfl) (Nat.le_of_ble_eq_true rfl) ?_
  exact q_vretZ C Bh4 Zh3 hr hlk ⟨⟨Bh4.2.2, kh4, fh4⟩, by rw [Eh3]; try rfl⟩ dX9_init_17
def F_X7_init_0 (α : hp_T) (h a0 : Nat) : hp_T := α
def F_X7_init_1 (α : hp_T) (h a0 : Nat) : hp_T := hp_sI (F_X7_init_0 α h a0) 400 a0 0
def F_X7_init_2 (α : hp_T) (h a0 : Nat) : hp_T := hp_sI (F_X7_init_1 α h a0) 401 a0 0
def F_X7_init_3 (α : hp_T) (h a0 : Nat) : hp_T := hp_sI (F_X7_init_2 α h a0) 402 a0 0
def F_X7_init_4 (α : hp_T) (h a0 : Nat) : hp_T := hp_sI (F_X7_init_3 α h a0) 403 a0 0
def F_X7_init (α : hp_T) (h a0 : Nat) : hp_T := hp_cv (F_X7_init_4 α h a0) a0 8
set_option maxRecDepth 100000 in
set_option maxHeartbeats 4000000 in
theorem u_X7_init (Γ : hp_G) (l : Launch) (α : hp_T) (g : GC α) (Hs : Heap) (a0 : Nat) (k0 : hp_K α a0 = 108) (z0 : ∀ φ, hp_I α φ a0 = 0) : Met l yX7_init (hp_ws yX7_init cX7_init 1 none) (hp_rm 1 0 0) (hp_PcH Γ α Hs [.ref a0]) (hp_QZ Γ (Hs.size + 0) (fun β => (gx a0 α β ∧ hp_K β a0 = 8 ∧ (∀ q ∈ ([(403, 0), (402, 0), (401, 0), (400, 0)] : List (Nat × Int32)), hp_I β q.1 a0 = q.2)) ∧ β = F_X7_init α Hs.size a0)) 0 0 (hp_A Γ) := by
  refine hp_startZ (by decide) ?_
  intro p e s m below meth c C hr hlk B0 hnm hHs
  have Z : s.heap.size = Hs.size + 0 := by rw [hHs]; rfl
  have E : α = F_X7_init_0 α Hs.size a0 := rfl
  have C : hp_C Γ p m c cX7_init 1 s ([.ref a0] : List Value).toArray RX7 := C
  have hx := C.1.1
  have hb := C.1.2.1
  have hown := C.1.2.2.2.1
  have hts := C.1.2.2.2.2
  have B : hp_B Γ (gx a0) s α α s.heap [] := ⟨B0.1, B0.2.1, gx_rf g⟩
  have O : co α a0 8 α [] [] := co_0 k0 z0
  have hl := lv_entry ([.ref a0]) (n := 1) (Nat.le_of_ble_eq_true rfl)
  show W p l e (hp_rm 1 0 0) s m ([.ref a0] : List Value).toArray below meth c s.heap [] 0 0 (MQ below (hp_QZ Γ (Hs.size + 0) (fun β => (gx a0 α β ∧ hp_K β a0 = 8 ∧ (∀ q ∈ ([(403, 0), (402, 0), (401, 0), (400, 0)] : List (Nat × Int32)), hp_I β q.1 a0 = q.2)) ∧ β = F_X7_init α Hs.size a0)) ([.ref a0] : List Value).toArray s 0 0 (hp_A Γ)) (entryFrame m ([.ref a0] : List Value).toArray 1)
  rw [lg_entry_eq]
  generalize (lg_sl ([.ref a0]) ++ List.replicate (1 - (lg_sl ([.ref a0])).length) Slot.unset).toArray = ls at hl ⊢
  have hl : lv_has ls 1 [(0, .ref a0)] := hl
  refine lv_aload_n hx hb dX7_init_0 rfl (lv_at hl 0 rfl) (hp_n (n := 1) rfl ?_)
  refine q_obj (pc' := 4) C ol_X7 hl.1 rfl (by decide) dX7_init_1 rfl ?_
  refine lv_aload_n hx hb dX7_init_4 rfl (lv_at hl 0 rfl) (hp_n (n := 5) rfl ?_)
  refine lv_iconst (v := 0) hx hb dX7_init_5 (by decide) (hp_n (n := 6) rfl ?_)
  refine q_putiZ (κ := 108) (k := 0) (φ := 400) (pc' := 9) C B O.1 fl_X7_9 rfl rfl rfl rfl rfl rfl (gx_sI B.2.2 (gc_i0 _)) dX7_init_6 rfl (fun βh1 Hh1 Lh1 eh1 yh1 Bh1 => ?_)
  have Oh1 : co α a0 8 βh1 [] [(400, 0)] := by rw [eh1]; exact co_sI O (by decide)
  have Eh1 : βh1 = (F_X7_init_1 α Hs.size a0) := by rw [eh1, E]; try rfl
  have Zh1 : Hh1.size = Hs.size + (0) := yh1.trans Z
  refine lv_aload_n hx hb dX7_init_9 rfl (lv_at hl 0 rfl) (hp_n (n := 10) rfl ?_)
  refine lv_iconst (v := 0) hx hb dX7_init_10 (by decide) (hp_n (n := 11) rfl ?_)
  refine q_putiZ (κ := 108) (k := 1) (φ := 401) (pc' := 14) C Bh1 Oh1.1 fl_X7_15 rfl rfl rfl rfl rfl rfl (gx_sI Bh1.2.2 (gc_i0 _)) dX7_init_11 rfl (fun βh2 Hh2 Lh2 eh2 yh2 Bh2 => ?_)
  have Oh2 : co α a0 8 βh2 [] [(401, 0), (400, 0)] := by rw [eh2]; exact co_sI Oh1 (by decide)
  have Eh2 : βh2 = (F_X7_init_2 α Hs.size a0) := by rw [eh2, Eh1]; try rfl
  have Zh2 : Hh2.size = Hs.size + (0) := yh2.trans Zh1
  refine lv_aload_n hx hb dX7_init_14 rfl (lv_at hl 0 rfl) (hp_n (n := 15) rfl ?_)
  refine lv_iconst (v := 0) hx hb dX7_init_15 (by decide) (hp_n (n := 16) rfl ?_)
  refine q_putiZ (κ := 108) (k := 2) (φ := 402) (pc' := 19) C Bh2 Oh2.1 fl_X7_18 rfl rfl rfl rfl rfl rfl (gx_sI Bh2.2.2 (gc_i0 _)) dX7_init_16 rfl (fun βh3 Hh3 Lh3 eh3 yh3 Bh3 => ?_)
  have Oh3 : co α a0 8 βh3 [] [(402, 0), (401, 0), (400, 0)] := by rw [eh3]; exact co_sI Oh2 (by decide)
  have Eh3 : βh3 = (F_X7_init_3 α Hs.size a0) := by rw [eh3, Eh2]; try rfl
  have Zh3 : Hh3.size = Hs.size + (0) := yh3.trans Zh2
  refine lv_aload_n hx hb dX7_init_19 rfl (lv_at hl 0 rfl) (hp_n (n := 20) rfl ?_)
  refine lv_iconst (v := 0) hx hb dX7_init_20 (by decide) (hp_n (n := 21) rfl ?_)
  refine q_putiZ (κ := 108) (k := 3) (φ := 403) (pc' := 24) C Bh3 Oh3.1 fl_X7_21 rfl rfl rfl rfl rfl rfl (gx_sI Bh3.2.2 (gc_i0 _)) dX7_init_21 rfl (fun βh4 Hh4 Lh4 eh4 yh4 Bh4 => ?_)
  have Oh4 : co α a0 8 βh4 [] [(403, 0), (402, 0), (401, 0), (400, 0)] := by rw [eh4]; exact co_sI Oh3 (by decide)
  have Eh4 : βh4 = (F_X7_init_4 α Hs.size a0) := by rw [eh4, Eh3]; try rfl
  have Zh4 : Hh4.size = Hs.size + (0) := yh4.trans Zh3
  obtain ⟨Bh5, kh5, fh5, -⟩ := co_fin Bh4 Oh4 (by decide) (by decide) (by decide) (fun q => absurd q (by decide))
  refine W.widen (k := 0) (n := 0) (Nat.le_of_ble_eq_true rfl) (Nat.le_of_ble_eq_true rfl) ?_
  exact q_vretZ C Bh5 Zh4 hr hlk ⟨⟨Bh5.2.2, kh5, fh5⟩, by rw [Eh4]; try rfl⟩ dX7_init_24
def F_X8_init_0 (α : hp_T) (h a0 : Nat) : hp_T := α
def F_X8_init_1 (α : hp_T) (h a0 : Nat) : hp_T := hp_nw (F_X8_init_0 α h a0) (h + (0)) 21
def F_X8_init_2 (α : hp_T) (h a0 : Nat) : hp_T := hp_sN (F_X8_init_1 α h a0) 450 a0 (some (h + (0)))
def F_X8_init_3 (α : hp_T) (h a0 : Nat) : hp_T := hp_nw (F_X8_init_2 α h a0) (h + (1)) 22
def F_X8_init_4 (α : hp_T) (h a0 : Nat) : hp_T := hp_sN (F_X8_init_3 α h a0) 451 a0 (some (h + (1)))
def F_X8_init_5 (α : hp_T) (h a0 : Nat) : hp_T := hp_nw (F_X8_init_4 α h a0) (h + (2)) 23
def F_X8_init_6 (α : hp_T) (h a0 : Nat) : hp_T := hp_sN (F_X8_init_5 α h a0) 452 a0 (some (h + (2)))
def F_X8_init_7 (α : hp_T) (h a0 : Nat) : hp_T := hp_sI (F_X8_init_6 α h a0) 453 a0 0
def F_X8_init_8 (α : hp_T) (h a0 : Nat) : hp_T := hp_sI (F_X8_init_7 α h a0) 454 a0 0
def F_X8_init (α : hp_T) (h a0 : Nat) : hp_T := hp_cv (F_X8_init_8 α h a0) a0 9
set_option maxRecDepth 100000 in
set_option maxHeartbeats 4000000 in
theorem u_X8_init (Γ : hp_G) (l : Launch) (α : hp_T) (g : GC α) (Hs : Heap) (a0 : Nat) (k0 : hp_K α a0 = 109) (z0 : ∀ φ, hp_I α φ a0 = 0) : Met l yX8_init (hp_ws yX8_init cX8_init 1 none) (hp_rm 1 3 192) (hp_PcH Γ α Hs [.ref a0]) (hp_QZ Γ (Hs.size + 3) (fun β => (gx a0 α β ∧ hp_K β a0 = 9 ∧ (∀ q ∈ ([(454, 0), (453, 0)] : List (Nat × Int32)), hp_I β q.1 a0 = q.2)) ∧ β = F_X8_init α Hs.size a0)) 3 192 (hp_A Γ) := by
  refine hp_startZ (by decide) ?_
  intro p e s m below meth c C hr hlk B0 hnm hHs
  have Z : s.heap.size = Hs.size + 0 := by rw [hHs]; rfl
  have E : α = F_X8_init_0 α Hs.size a0 := rfl
  have C : hp_C Γ p m c cX8_init 1 s ([.ref a0] : List Value).toArray RX8 := C
  have hx := C.1.1
  have hb := C.1.2.1
  have hown := C.1.2.2.2.1
  have hts := C.1.2.2.2.2
  have B : hp_B Γ (gx a0) s α α s.heap [] := ⟨B0.1, B0.2.1, gx_rf g⟩
  have O : co α a0 9 α [] [] := co_0 k0 z0
  have hl := lv_entry ([.ref a0]) (n := 1) (Nat.le_of_ble_eq_true rfl)
  show W p l e (hp_rm 1 3 192) s m ([.ref a0] : List Value).toArray below meth c s.heap [] 0 0 (MQ below (hp_QZ Γ (Hs.size + 3) (fun β => (gx a0 α β ∧ hp_K β a0 = 9 ∧ (∀ q ∈ ([(454, 0), (453, 0)] : List (Nat × Int32)), hp_I β q.1 a0 = q.2)) ∧ β = F_X8_init α Hs.size a0)) ([.ref a0] : List Value).toArray s 3 192 (hp_A Γ)) (entryFrame m ([.ref a0] : List Value).toArray 1)
  rw [lg_entry_eq]
  generalize (lg_sl ([.ref a0]) ++ List.replicate (1 - (lg_sl ([.ref a0])).length) Slot.unset).toArray = ls at hl ⊢
  have hl : lv_has ls 1 [(0, .ref a0)] := hl
  refine lv_aload_n hx hb dX8_init_0 rfl (lv_at hl 0 rfl) (hp_n (n := 1) rfl ?_)
  refine q_obj (pc' := 4) C ol_X8 hl.1 rfl (by decide) dX8_init_1 rfl ?_
  refine lv_aload_n hx hb dX8_init_4 rfl (lv_at hl 0 rfl) (hp_n (n := 5) rfl ?_)
  refine lv_bipush (v := 64) hx hb dX8_init_5 (by decide) (hp_n (n := 7) rfl ?_)
  refine q_newaZ (κ := 21) (t := 0) (n := 64) (atype := .int) (ty := .int) (dv := .int 0) (pc' := 9) C B ac_int rfl (by decide) rfl rfl (fun _ _ q => q) rfl (fun _ cA => nw_cx (by decide) cA) (by decide) (by decide +kernel) (Nat.le_of_ble_eq_true rfl) rfl (Nat.le_of_ble_eq_true rfl) (Nat.le_of_ble_eq_true rfl) dX8_init_7 rfl (fun q hq => gx_nw B.2.2 (by decide) hq) (fun βh1 ah1 Hh1 fh1 wh1 yh1 eh1 Bh1 => ?_)
  have uh1 : ah1 = Hs.size + (0) := by rw [wh1, Z]
  have nh1 := gx_new B.2.2 O fh1
  have Oh1 : co α a0 9 βh1 [] [] := by rw [eh1]; exact co_nw O fh1
  have kh1 : hp_K βh1 ah1 = 21 := by rw [eh1]; exact nw_k
  have Eh1 : βh1 = (F_X8_init_1 α Hs.size a0) := by rw [eh1, E, uh1]; try rfl
  have Zh1 : Hh1.size = Hs.size + (1) := zzk yh1 Z rfl
  refine W.widen (k := 1) (n := 64) (Nat.le_of_ble_eq_true rfl) (Nat.le_of_ble_eq_true rfl) ?_
  refine q_putnFZ (κ := 109) (k := 0) (φ := 450) (pc' := 12) C Bh1 Oh1.1 fl_X8_9 rfl rfl rfl hnm rfl rfl rfl rfl (gx_sN Bh1.2.2 Oh1) dX8_init_9 rfl (fun βh2 Hh2 Lh2 eh2 yh2 Bh2 => ?_)
  have Oh2 : co α a0 9 βh2 [450] [] := by rw [eh2]; exact co_sN Oh1 ⟨(Or.inl (by rw [kh1]; rfl)), by rw [kh1]; decide, by rw [kh1]; decide, nh1.1, (fun _ j => by rw [eh1]; exact nw_e)⟩
  have Eh2 : βh2 = (F_X8_init_2 α Hs.size a0) := by rw [eh2, Eh1, uh1]; try rfl
  have Zh2 : Hh2.size = Hs.size + (1) := yh2.trans Zh1
  refine lv_aload_n hx hb dX8_init_12 rfl (lv_at hl 0 rfl) (hp_n (n := 13) rfl ?_)
  refine lv_bipush (v := 64) hx hb dX8_init_13 (by decide) (hp_n (n := 15) rfl ?_)
  refine q_newaZ (κ := 22) (t := 0) (n := 64) (atype := .int) (ty := .int) (dv := .int 0) (pc' := 17) C Bh2 ac_int rfl (by decide) rfl rfl (fun _ _ q => q) rfl (fun _ cA => nw_cx (by decide) cA) (by decide) (by decide +kernel) (Nat.le_of_ble_eq_true rfl) rfl (Nat.le_of_ble_eq_true rfl) (Nat.le_of_ble_eq_true rfl) dX8_init_15 rfl (fun q hq => gx_nw Bh2.2.2 (by decide) hq) (fun βh3 ah3 Hh3 fh3 wh3 yh3 eh3 Bh3 => ?_)
  have uh3 : ah3 = Hs.size + (1) := by rw [wh3, Zh2]
  have nh3 := gx_new Bh2.2.2 Oh2 fh3
  have Oh3 : co α a0 9 βh3 [450] [] := by rw [eh3]; exact co_nw Oh2 fh3
  have kh3 : hp_K βh3 ah3 = 22 := by rw [eh3]; exact nw_k
  have Eh3 : βh3 = (F_X8_init_3 α Hs.size a0) := by rw [eh3, Eh2, uh3]; try rfl
  have Zh3 : Hh3.size = Hs.size + (2) := zzk yh3 Zh2 rfl
  refine W.widen (k := 2) (n := 128) (Nat.le_of_ble_eq_true rfl) (Nat.le_of_ble_eq_true rfl) ?_
  refine q_putnFZ (κ := 109) (k := 1) (φ := 451) (pc' := 20) C Bh3 Oh3.1 fl_X8_15 rfl rfl rfl hnm rfl rfl rfl rfl (gx_sN Bh3.2.2 Oh3) dX8_init_17 rfl (fun βh4 Hh4 Lh4 eh4 yh4 Bh4 => ?_)
  have Oh4 : co α a0 9 βh4 [451, 450] [] := by rw [eh4]; exact co_sN Oh3 ⟨(Or.inl (by rw [kh3]; rfl)), by rw [kh3]; decide, by rw [kh3]; decide, nh3.1, (fun _ j => by rw [eh3]; exact nw_e)⟩
  have Eh4 : βh4 = (F_X8_init_4 α Hs.size a0) := by rw [eh4, Eh3, uh3]; try rfl
  have Zh4 : Hh4.size = Hs.size + (2) := yh4.trans Zh3
  refine lv_aload_n hx hb dX8_init_20 rfl (lv_at hl 0 rfl) (hp_n (n := 21) rfl ?_)
  refine lv_bipush (v := 64) hx hb dX8_init_21 (by decide) (hp_n (n := 23) rfl ?_)
  refine q_newaZ (κ := 23) (t := 2) (n := 64) (atype := .boolean) (ty := .boolean) (dv := .int 0) (pc' := 25) C Bh4 ac_boolean rfl (by decide) rfl rfl (fun _ _ q => q) rfl (fun _ cA => nw_cx (by decide) cA) (by decide) (by decide +kernel) (Nat.le_of_ble_eq_true rfl) rfl (Nat.le_of_ble_eq_true rfl) (Nat.le_of_ble_eq_true rfl) dX8_init_23 rfl (fun q hq => gx_nw Bh4.2.2 (by decide) hq) (fun βh5 ah5 Hh5 fh5 wh5 yh5 eh5 Bh5 => ?_)
  have uh5 : ah5 = Hs.size + (2) := by rw [wh5, Zh4]
  have nh5 := gx_new Bh4.2.2 Oh4 fh5
  have Oh5 : co α a0 9 βh5 [451, 450] [] := by rw [eh5]; exact co_nw Oh4 fh5
  have kh5 : hp_K βh5 ah5 = 23 := by rw [eh5]; exact nw_k
  have Eh5 : βh5 = (F_X8_init_5 α Hs.size a0) := by rw [eh5, Eh4, uh5]; try rfl
  have Zh5 : Hh5.size = Hs.size + (3) := zzk yh5 Zh4 rfl
  refine W.widen (k := 3) (n := 192) (Nat.le_of_ble_eq_true rfl) (Nat.le_of_ble_eq_true rfl) ?_
  refine q_putnFZ (κ := 109) (k := 2) (φ := 452) (pc' := 28) C Bh5 Oh5.1 fl_X8_18 rfl rfl rfl hnm rfl rfl rfl rfl (gx_sN Bh5.2.2 Oh5) dX8_init_25 rfl (fun βh6 Hh6 Lh6 eh6 yh6 Bh6 => ?_)
  have Oh6 : co α a0 9 βh6 [452, 451, 450] [] := by rw [eh6]; exact co_sN Oh5 ⟨(Or.inl (by rw [kh5]; rfl)), by rw [kh5]; decide, by rw [kh5]; decide, nh5.1, (fun _ j => by rw [eh5]; exact nw_e)⟩
  have Eh6 : βh6 = (F_X8_init_6 α Hs.size a0) := by rw [eh6, Eh5, uh5]; try rfl
  have Zh6 : Hh6.size = Hs.size + (3) := yh6.trans Zh5
  refine lv_aload_n hx hb dX8_init_28 rfl (lv_at hl 0 rfl) (hp_n (n := 29) rfl ?_)
  refine lv_iconst (v := 0) hx hb dX8_init_29 (by decide) (hp_n (n := 30) rfl ?_)
  refine q_putiZ (κ := 109) (k := 3) (φ := 453) (pc' := 33) C Bh6 Oh6.1 fl_X8_22 rfl rfl rfl rfl rfl rfl (gx_sI Bh6.2.2 (gc_i0 _)) dX8_init_30 rfl (fun βh7 Hh7 Lh7 eh7 yh7 Bh7 => ?_)
  have Oh7 : co α a0 9 βh7 [452, 451, 450] [(453, 0)] := by rw [eh7]; exact co_sI Oh6 (by decide)
  have Eh7 : βh7 = (F_X8_init_7 α Hs.size a0) := by rw [eh7, Eh6]; try rfl
  have Zh7 : Hh7.size = Hs.size + (3) := yh7.trans Zh6
  refine lv_aload_n hx hb dX8_init_33 rfl (lv_at hl 0 rfl) (hp_n (n := 34) rfl ?_)
  refine lv_iconst (v := 0) hx hb dX8_init_34 (by decide) (hp_n (n := 35) rfl ?_)
  refine q_putiZ (κ := 109) (k := 4) (φ := 454) (pc' := 38) C Bh7 Oh7.1 fl_X8_26 rfl rfl rfl rfl rfl rfl (gx_sI Bh7.2.2 (gc_i0 _)) dX8_init_35 rfl (fun βh8 Hh8 Lh8 eh8 yh8 Bh8 => ?_)
  have Oh8 : co α a0 9 βh8 [452, 451, 450] [(454, 0), (453, 0)] := by rw [eh8]; exact co_sI Oh7 (by decide)
  have Eh8 : βh8 = (F_X8_init_8 α Hs.size a0) := by rw [eh8, Eh7]; try rfl
  have Zh8 : Hh8.size = Hs.size + (3) := yh8.trans Zh7
  obtain ⟨Bh9, kh9, fh9, -⟩ := co_fin Bh8 Oh8 (by decide) (by decide) (by decide) (fun q => absurd q (by decide))
  refine W.widen (k := 3) (n := 192) (Nat.le_of_ble_eq_true rfl) (Nat.le_of_ble_eq_true rfl) ?_
  exact q_vretZ C Bh9 Zh8 hr hlk ⟨⟨Bh9.2.2, kh9, fh9⟩, by rw [Eh8]; try rfl⟩ dX8_init_38
def F_X2_init_0 (α : hp_T) (h a0 : Nat) : hp_T := α
def F_X2_init_1 (α : hp_T) (h a0 : Nat) : hp_T := hp_nw (F_X2_init_0 α h a0) (h + (0)) 28
def F_X2_init_2 (α : hp_T) (h a0 : Nat) : hp_T := hp_sN (F_X2_init_1 α h a0) 150 a0 (some (h + (0)))
def F_X2_init_3 (α : hp_T) (h a0 : Nat) : hp_T := hp_nw (F_X2_init_2 α h a0) (h + (1)) 29
def F_X2_init_4 (α : hp_T) (h a0 : Nat) : hp_T := hp_sN (F_X2_init_3 α h a0) 151 a0 (some (h + (1)))
def F_X2_init_5 (α : hp_T) (h a0 : Nat) : hp_T := hp_sI (F_X2_init_4 α h a0) 152 a0 0
def FL_X2_init_28 (α : hp_T) (h a0 : Nat) : Nat → hp_T
  | 0 => (F_X2_init_5 α h a0)
  | j28 + 1 => (hp_sQ (F_X9_init (hp_nw (FL_X2_init_28 α h a0 j28) (h + (2 + 2 * j28)) 110) (h + (2 + 2 * j28 + 1)) (h + (2 + 2 * j28))) 28 ((hp_N (FL_X2_init_28 α h a0 j28) 150 a0).getD 0) (j28) (some (h + (2 + 2 * j28))))
def F_X2_init (α : hp_T) (h a0 : Nat) : hp_T := hp_cv (FL_X2_init_28 α h a0 48) a0 3
set_option maxRecDepth 100000 in
set_option maxHeartbeats 4000000 in
theorem u_X2_init (Γ : hp_G) (l : Launch) (α : hp_T) (g : GC α) (Hs : Heap) (a0 : Nat) (k0 : hp_K α a0 = 103) (z0 : ∀ φ, hp_I α φ a0 = 0) : Met l yX2_init (hp_ws yX2_init cX2_init 2 none) (hp_rm 2 98 576) (hp_PcH Γ α Hs [.ref a0]) (hp_QZ Γ (Hs.size + 98) (fun β => (gx a0 α β ∧ hp_K β a0 = 3 ∧ (∀ q ∈ ([(152, 0)] : List (Nat × Int32)), hp_I β q.1 a0 = q.2)) ∧ β = F_X2_init α Hs.size a0)) 98 576 (hp_A Γ) := by
  refine hp_startZ (by decide) ?_
  intro p e s m below meth c C hr hlk B0 hnm hHs
  have Z : s.heap.size = Hs.size + 0 := by rw [hHs]; rfl
  have E : α = F_X2_init_0 α Hs.size a0 := rfl
  have C : hp_C Γ p m c cX2_init 2 s ([.ref a0] : List Value).toArray RX2 := C
  have hx := C.1.1
  have hb := C.1.2.1
  have hown := C.1.2.2.2.1
  have hts := C.1.2.2.2.2
  have B : hp_B Γ (gx a0) s α α s.heap [] := ⟨B0.1, B0.2.1, gx_rf g⟩
  have O : co α a0 3 α [] [] := co_0 k0 z0
  have hl := lv_entry ([.ref a0]) (n := 2) (Nat.le_of_ble_eq_true rfl)
  show W p l e (hp_rm 2 98 576) s m ([.ref a0] : List Value).toArray below meth c s.heap [] 0 0 (MQ below (hp_QZ Γ (Hs.size + 98) (fun β => (gx a0 α β ∧ hp_K β a0 = 3 ∧ (∀ q ∈ ([(152, 0)] : List (Nat × Int32)), hp_I β q.1 a0 = q.2)) ∧ β = F_X2_init α Hs.size a0)) ([.ref a0] : List Value).toArray s 98 576 (hp_A Γ)) (entryFrame m ([.ref a0] : List Value).toArray 2)
  rw [lg_entry_eq]
  generalize (lg_sl ([.ref a0]) ++ List.replicate (2 - (lg_sl ([.ref a0])).length) Slot.unset).toArray = ls at hl ⊢
  have hl : lv_has ls 2 [(0, .ref a0)] := hl
  refine lv_aload_n hx hb dX2_init_0 rfl (lv_at hl 0 rfl) (hp_n (n := 1) rfl ?_)
  refine q_obj (pc' := 4) C ol_X2 hl.1 rfl (by decide) dX2_init_1 rfl ?_
  refine lv_aload_n hx hb dX2_init_4 rfl (lv_at hl 0 rfl) (hp_n (n := 5) rfl ?_)
  refine lv_bipush (v := 48) hx hb dX2_init_5 (by decide) (hp_n (n := 7) rfl ?_)
  refine q_anewZ (κ := 28) (t := 7) (n := 48) (Cn := "ProvenRecord$Word") (pc' := 10) C B cl_X2_9 ao_X9 (by decide) rfl (by decide) rfl (by decide) (by decide +kernel) (Nat.le_of_ble_eq_true rfl) rfl (Nat.le_of_ble_eq_true rfl) (Nat.le_of_ble_eq_true rfl) dX2_init_7 rfl (fun q hq => gx_nw B.2.2 (by decide) hq) (fun βh1 ah1 Hh1 fh1 wh1 yh1 eh1 Bh1 => ?_)
  have uh1 : ah1 = Hs.size + (0) := by rw [wh1, Z]
  have nh1 := gx_new B.2.2 O fh1
  have Oh1 : co α a0 3 βh1 [] [] := by rw [eh1]; exact co_nw O fh1
  have kh1 : hp_K βh1 ah1 = 28 := by rw [eh1]; exact nw_k
  have Eh1 : βh1 = (F_X2_init_1 α Hs.size a0) := by rw [eh1, E, uh1]; try rfl
  have Zh1 : Hh1.size = Hs.size + (1) := zzk yh1 Z rfl
  refine W.widen (k := 1) (n := 48) (Nat.le_of_ble_eq_true rfl) (Nat.le_of_ble_eq_true rfl) ?_
  refine q_putnFZ (κ := 103) (k := 0) (φ := 150) (pc' := 13) C Bh1 Oh1.1 fl_X2_11 rfl rfl rfl hnm rfl rfl rfl rfl (gx_sN Bh1.2.2 Oh1) dX2_init_10 rfl (fun βh2 Hh2 Lh2 eh2 yh2 Bh2 => ?_)
  have Oh2 : co α a0 3 βh2 [150] [] := by rw [eh2]; exact co_sN Oh1 ⟨(Or.inl (by rw [kh1]; rfl)), by rw [kh1]; decide, by rw [kh1]; decide, nh1.1, (fun _ j => by rw [eh1]; exact nw_e)⟩
  have Eh2 : βh2 = (F_X2_init_2 α Hs.size a0) := by rw [eh2, Eh1, uh1]; try rfl
  have Zh2 : Hh2.size = Hs.size + (1) := yh2.trans Zh1
  refine lv_aload_n hx hb dX2_init_13 rfl (lv_at hl 0 rfl) (hp_n (n := 14) rfl ?_)
  refine lv_bipush (v := 48) hx hb dX2_init_14 (by decide) (hp_n (n := 16) rfl ?_)
  refine q_newaZ (κ := 29) (t := 0) (n := 48) (atype := .int) (ty := .int) (dv := .int 0) (pc' := 18) C Bh2 ac_int rfl (by decide) rfl rfl (fun _ _ q => q) rfl (fun _ cA => nw_cx (by decide) cA) (by decide) (by decide +kernel) (Nat.le_of_ble_eq_true rfl) rfl (Nat.le_of_ble_eq_true rfl) (Nat.le_of_ble_eq_true rfl) dX2_init_16 rfl (fun q hq => gx_nw Bh2.2.2 (by decide) hq) (fun βh3 ah3 Hh3 fh3 wh3 yh3 eh3 Bh3 => ?_)
  have uh3 : ah3 = Hs.size + (1) := by rw [wh3, Zh2]
  have nh3 := gx_new Bh2.2.2 Oh2 fh3
  have Oh3 : co α a0 3 βh3 [150] [] := by rw [eh3]; exact co_nw Oh2 fh3
  have kh3 : hp_K βh3 ah3 = 29 := by rw [eh3]; exact nw_k
  have Eh3 : βh3 = (F_X2_init_3 α Hs.size a0) := by rw [eh3, Eh2, uh3]; try rfl
  have Zh3 : Hh3.size = Hs.size + (2) := zzk yh3 Zh2 rfl
  refine W.widen (k := 2) (n := 96) (Nat.le_of_ble_eq_true rfl) (Nat.le_of_ble_eq_true rfl) ?_
  refine q_putnFZ (κ := 103) (k := 1) (φ := 151) (pc' := 21) C Bh3 Oh3.1 fl_X2_17 rfl rfl rfl hnm rfl rfl rfl rfl (gx_sN Bh3.2.2 Oh3) dX2_init_18 rfl (fun βh4 Hh4 Lh4 eh4 yh4 Bh4 => ?_)
  have Oh4 : co α a0 3 βh4 [151, 150] [] := by rw [eh4]; exact co_sN Oh3 ⟨(Or.inl (by rw [kh3]; rfl)), by rw [kh3]; decide, by rw [kh3]; decide, nh3.1, (fun _ j => by rw [eh3]; exact nw_e)⟩
  have Eh4 : βh4 = (F_X2_init_4 α Hs.size a0) := by rw [eh4, Eh3, uh3]; try rfl
  have Zh4 : Hh4.size = Hs.size + (2) := yh4.trans Zh3
  refine lv_aload_n hx hb dX2_init_21 rfl (lv_at hl 0 rfl) (hp_n (n := 22) rfl ?_)
  refine lv_iconst (v := 0) hx hb dX2_init_22 (by decide) (hp_n (n := 23) rfl ?_)
  refine q_putiZ (κ := 103) (k := 2) (φ := 152) (pc' := 26) C Bh4 Oh4.1 fl_X2_21 rfl rfl rfl rfl rfl rfl (gx_sI Bh4.2.2 (gc_i0 _)) dX2_init_23 rfl (fun βh5 Hh5 Lh5 eh5 yh5 Bh5 => ?_)
  have Oh5 : co α a0 3 βh5 [151, 150] [(152, 0)] := by rw [eh5]; exact co_sI Oh4 (by decide)
  have Eh5 : βh5 = (F_X2_init_5 α Hs.size a0) := by rw [eh5, Eh4]; try rfl
  have Zh5 : Hh5.size = Hs.size + (2) := yh5.trans Zh4
  refine lv_iconst (v := 0) hx hb dX2_init_26 (by decide) (hp_n (n := 27) rfl ?_)
  refine lv_istore_n (lv' := [(1, .int 0), (0, .ref a0)]) hx hb dX2_init_27 rfl hl (by decide) rfl (fun ls hl => hp_n (n := 28) rfl ?_)
  have J28 : ∀ (nq : Nat) (βh6 : hp_T) (Hh6 : Heap) (Lh6 : List Loc) (Bh6 : hp_B Γ (gx a0) s α βh6 Hh6 Lh6) (Oh6 : co α a0 3 βh6 [151, 150] [(152, 0)]) (vh6 : Int32) (j28 : Nat) (Eh6 : βh6 = FL_X2_init_28 α Hs.size a0 j28) (Zh6 : Hh6.size = Hs.size + (2 + 2 * j28)) (hk28 : vh6.toInt = (j28 : Int)) (hj28 : j28 ≤ 48) (hm28 : 48 - j28 = nq) (ls : Array Slot) (hl : lv_has ls 2 [(0, .ref a0), (1, .int vh6)]), W p l e (hp_rm 2 98 576) s m ([.ref a0] : List Value).toArray below meth c Hh6 Lh6 (2 + 2 * j28) (96 + 10 * j28) (MQ below (hp_QZ Γ (Hs.size + 98) (fun β => (gx a0 α β ∧ hp_K β a0 = 3 ∧ (∀ q ∈ ([(152, 0)] : List (Nat × Int32)), hp_I β q.1 a0 = q.2)) ∧ β = F_X2_init α Hs.size a0)) ([.ref a0] : List Value).toArray s 98 576 (hp_A Γ)) (F0 m 28 ls []) := by
    intro nq
    induction nq using Nat.strongRecOn with
    | ind nq ih28 =>
    intro βh6 Hh6 Lh6 Bh6 Oh6 vh6 j28 Eh6 Zh6 hk28 hj28 hm28 ls hl
    have litn : (48 : Int32).toInt = 48 := by decide
    obtain ⟨xh6, x1h6, x2h6, x3h6, -, x5h6, -⟩ := Oh6.2.1 150 (by decide)
    have kxh6 : hp_K βh6 xh6 = 28 := by rcases x2h6 with q | q; exact q; exact absurd q.1 (by decide)
    have lth6 : hp_K βh6 xh6 ≠ 0 ∧ True := ⟨x3h6, trivial⟩
    have cch6 : vh6.toNatClampNeg = j28 := cl_n hk28
    have xxh6 : (hp_N (FL_X2_init_28 α Hs.size a0 j28) 150 a0).getD 0 = xh6 := by rw [← Eh6, x1h6]; rfl
    refine lv_iload_n hx hb dX2_init_28 rfl (lv_at hl 1 rfl) (hp_n (n := 29) rfl ?_)
    refine lv_aload_n hx hb dX2_init_29 rfl (lv_at hl 0 rfl) (hp_n (n := 30) rfl ?_)
    refine q_get (v := .ref xh6) (κ := 103) (k := 0) (t := 3) (pc' := 33) C Bh6 Oh6.1 fl_X2_11 rfl rfl (by show va_rf (hp_N βh6 150 a0) = _; rw [x1h6]; rfl) dX2_init_30 rfl ?_
    refine q_alen (κ := 28) (t := 7) (n := 48) (x := 48) (ty := .object "ProvenRecord$Word") (pc' := 34) C Bh6 kxh6 (by decide) rfl rfl rfl dX2_init_33 rfl ?_
    refine lv_icmp_ge (tgt := 56) hx hb dX2_init_34 (by decide) (fun cq => ?_) (fun cq => hp_n (n := 37) rfl ?_)
    · have cq := il_le cq
      rw [litn] at cq
      have jn : j28 = 48 := by omega
      have Eq7 : βh6 = FL_X2_init_28 α Hs.size a0 48 := by rw [Eh6, jn]
      have Zq7 : Hh6.size = Hs.size + (98) := by rw [Zh6, jn]
      refine W.widen (k := 98) (n := 576) (by omega) (by omega) ?_
      obtain ⟨Bh8, kh8, fh8, -⟩ := co_fin Bh6 Oh6 (by decide) (by decide) (by decide) (fun q => absurd q (by decide))
      refine W.widen (k := 98) (n := 576) (by omega) (by omega) ?_
      exact q_vretZ C Bh8 Zq7 hr hlk ⟨⟨Bh8.2.2, kh8, fh8⟩, by rw [Eq7]; try rfl⟩ dX2_init_56
    have cq := il_nle cq
    rw [litn] at cq
    refine lv_aload_n hx hb dX2_init_37 rfl (lv_at hl 0 rfl) (hp_n (n := 38) rfl ?_)
    refine q_get (v := .ref xh6) (κ := 103) (k := 0) (t := 3) (pc' := 41) C Bh6 Oh6.1 fl_X2_11 rfl rfl (by show va_rf (hp_N βh6 150 a0) = _; rw [x1h6]; rfl) dX2_init_38 rfl ?_
    refine lv_iload_n hx hb dX2_init_41 rfl (lv_at hl 1 rfl) (hp_n (n := 42) rfl ?_)
    refine q_newZ (κ := 10) (N := 2) (pc' := 45) C Bh6 cl_X2_9 it_X9 iz_X9 rfl in_10 tyX9_ok df_10 (by decide) rfl rfl rfl (by omega) (by omega) dX2_init_42 rfl (fun q hq => gx_nw Bh6.2.2 (by decide) hq) (fun βh9 ah9 Hh9 fh9 wh9 yh9 eh9 Bh9 => ?_)
    have uh9 : ah9 = Hs.size + (2 + 2 * j28) := by rw [wh9, Zh6]
    have nh9 := gx_new Bh6.2.2 Oh6 fh9
    have Oh9 : co α a0 3 βh9 [151, 150] [(152, 0)] := by rw [eh9]; exact co_nw Oh6 fh9
    have kh9 : hp_K βh9 ah9 = 110 := by rw [eh9]; exact nw_k
    have zh9 : ∀ φ, hp_I βh9 φ ah9 = 0 := fun φ => by rw [eh9]; exact nw_i
    have sh9 : sa βh6 βh9 xh6 := by rw [eh9]; exact sa_nw (fun q => lth6.1 (by rw [q]; exact fh9))
    have Eh9 : βh9 = (hp_nw (FL_X2_init_28 α Hs.size a0 j28) (Hs.size + (2 + 2 * j28)) 110) := by rw [eh9, Eh6, uh9]; try rfl
    have Zh9 : Hh9.size = Hs.size + (2 + 2 * j28 + 1) := zzk yh9 Zh6 rfl
    refine W.widen (k := 2 + 2 * j28 + 1) (n := 96 + 10 * j28 + 2) (by omega) (by omega) ?_
    refine lv_dup hx hb dX2_init_45 rfl (hp_n (n := 46) rfl ?_)
    refine q_cvZ (pc' := 49) Bh9 (hp_runIZ (As := []) (rest := [.ref ah9, .int vh6, .ref xh6]) C Bh9 (u_X9_init Γ l βh9 Bh9.2.2.1 Hh9 ah9 kh9 zh9) lb_X9_init rfl li_X9_init lk_X2_25 rfl (by decide) rfl hl.1 rfl (Nat.le_of_ble_eq_true rfl) dX2_init_46 ⟨by omega, by omega⟩) (fun q hq => gx_call Bh9.2.2 hq.1.1 nh9.1) rfl (fun βh10 Hh10 Lh10 yh10 pph10 Bh10 => ?_)
    have ph10 := pph10.1
    have Eh10 : βh10 = (F_X9_init (hp_nw (FL_X2_init_28 α Hs.size a0 j28) (Hs.size + (2 + 2 * j28)) 110) (Hs.size + (2 + 2 * j28 + 1)) (Hs.size + (2 + 2 * j28))) := by rw [pph10.2, Eh9, Zh9, uh9]; try rfl
    have Zh10 : Hh10.size = Hs.size + (2 + 2 * j28 + 1 + 1) := zzk yh10 Zh9 rfl
    have Oh10 : co α a0 3 βh10 [151, 150] [(152, 0)] := co_call Oh9 ph10.1 nh9.2 (by rw [kh9]; decide)
    have kh10 : hp_K βh10 ah9 = 10 := ph10.2.1
    have sh10 : sa βh9 βh10 xh6 := ph10.1.2 xh6 (fun q => by have := kh9; rw [← q, sh9.1, kxh6] at this; cases this) (by rw [sh9.1]; exact lth6.1)
    have krh10 : hp_K βh10 xh6 = 28 := by rw [sh10.1, sh9.1]; exact kxh6
    refine W.widen (k := 2 + 2 * j28 + 2) (n := 96 + 10 * j28 + 10) (by omega) (by omega) ?_
    refine q_aasZ (κ := 28) (t := 7) (n := 48) (κv := 10) (r := hp_q 10) (pc' := 50) C Bh10 krh10 (by decide) rfl (by decide) kh10 rfl rfl rfl (vi_of (by omega) (by omega)) rfl (gx_sQ Bh10.2.2 x5h6 (by rw [kh10]; rfl)) dX2_init_49 rfl (fun βh11 Hh11 Lh11 eh11 yh11 Bh11 => ?_)
    have Oh11 : co α a0 3 βh11 [151, 150] [(152, 0)] := by rw [eh11]; exact co_sQ Oh10
    have Eh11 : βh11 = (hp_sQ (F_X9_init (hp_nw (FL_X2_init_28 α Hs.size a0 j28) (Hs.size + (2 + 2 * j28)) 110) (Hs.size + (2 + 2 * j28 + 1)) (Hs.size + (2 + 2 * j28))) 28 ((hp_N (FL_X2_init_28 α Hs.size a0 j28) 150 a0).getD 0) (j28) (some (Hs.size + (2 + 2 * j28)))) := by rw [eh11, Eh10, uh9, cch6, xxh6]; try rfl
    have Zh11 : Hh11.size = Hs.size + (2 + 2 * j28 + 1 + 1) := yh11.trans Zh10
    obtain ⟨v12, ev12⟩ : ∃ y : Int32, y = vh6 + 1 := ⟨_, rfl⟩
    have qv12 : v12.toInt = vh6.toInt + 1 := by rw [ev12]; exact ii_add (x := vh6) (y := 1) (by rw [show (1 : Int32).toInt = 1 from rfl]; omega) (by rw [show (1 : Int32).toInt = 1 from rfl]; omega)
    refine lv_iinc (v := v12) (lv' := [(1, .int v12), (0, .ref a0)]) hx hb dX2_init_50 hl (k := 1) rfl (by rw [ev12]; rfl) (by decide) rfl (fun ls hl => hp_n (n := 53) rfl ?_)
    refine lv_goto (tgt := 28) hx hb dX2_init_53 (by decide) ?_
    refine W.widen (k := 2 + 2 * (j28 + 1)) (n := 96 + 10 * (j28 + 1)) (by omega) (by omega) ?_
    exact ih28 _ (by omega) βh11 Hh11 Lh11 Bh11 Oh11 v12 (j28 + 1) (by rw [Eh11]; rfl) (by omega) (by omega) (by omega) rfl ls (lv_sub hl [1, 0] rfl)
  exact J28 _ βh5 Hh5 Lh5 Bh5 Oh5 0 0 (by rw [Eh5]; rfl) (by omega) rfl (by decide) rfl ls (lv_sub hl [1, 0] rfl)
def F_X1_init_0 (α : hp_T) (h a0 : Nat) : hp_T := α
def F_X1_init_1 (α : hp_T) (h a0 : Nat) : hp_T := hp_sI (F_X1_init_0 α h a0) 100 a0 0
def F_X1_init_2 (α : hp_T) (h a0 : Nat) : hp_T := hp_sI (F_X1_init_1 α h a0) 101 a0 0
def F_X1_init_3 (α : hp_T) (h a0 : Nat) : hp_T := hp_sI (F_X1_init_2 α h a0) 102 a0 0
def F_X1_init_4 (α : hp_T) (h a0 : Nat) : hp_T := hp_sI (F_X1_init_3 α h a0) 103 a0 0
def F_X1_init_5 (α : hp_T) (h a0 : Nat) : hp_T := hp_nw (F_X1_init_4 α h a0) (h + (0)) 106
def F_X1_init_6 (α : hp_T) (h a0 : Nat) : hp_T := F_X5_init (F_X1_init_5 α h a0) (h + (1)) (h + (0))
def F_X1_init_7 (α : hp_T) (h a0 : Nat) : hp_T := hp_sN (F_X1_init_6 α h a0) 104 a0 (some (h + (0)))
def F_X1_init (α : hp_T) (h a0 : Nat) : hp_T := hp_cv (F_X1_init_7 α h a0) a0 2
set_option maxRecDepth 100000 in
set_option maxHeartbeats 4000000 in
theorem u_X1_init (Γ : hp_G) (l : Launch) (α : hp_T) (g : GC α) (Hs : Heap) (a0 : Nat) (k0 : hp_K α a0 = 102) (z0 : ∀ φ, hp_I α φ a0 = 0) : Met l yX1_init (hp_ws yX1_init cX1_init 1 none) (hp_rm 2 2 66) (hp_PcH Γ α Hs [.ref a0]) (hp_QZ Γ (Hs.size + 2) (fun β => (gx a0 α β ∧ hp_K β a0 = 2 ∧ (∀ q ∈ ([(103, 0), (102, 0), (101, 0), (100, 0)] : List (Nat × Int32)), hp_I β q.1 a0 = q.2)) ∧ β = F_X1_init α Hs.size a0)) 2 66 (hp_A Γ) := by
  refine hp_startZ (by decide) ?_
  intro p e s m below meth c C hr hlk B0 hnm hHs
  have Z : s.heap.size = Hs.size + 0 := by rw [hHs]; rfl
  have E : α = F_X1_init_0 α Hs.size a0 := rfl
  have C : hp_C Γ p m c cX1_init 1 s ([.ref a0] : List Value).toArray RX1 := C
  have hx := C.1.1
  have hb := C.1.2.1
  have hown := C.1.2.2.2.1
  have hts := C.1.2.2.2.2
  have B : hp_B Γ (gx a0) s α α s.heap [] := ⟨B0.1, B0.2.1, gx_rf g⟩
  have O : co α a0 2 α [] [] := co_0 k0 z0
  have hl := lv_entry ([.ref a0]) (n := 1) (Nat.le_of_ble_eq_true rfl)
  show W p l e (hp_rm 2 2 66) s m ([.ref a0] : List Value).toArray below meth c s.heap [] 0 0 (MQ below (hp_QZ Γ (Hs.size + 2) (fun β => (gx a0 α β ∧ hp_K β a0 = 2 ∧ (∀ q ∈ ([(103, 0), (102, 0), (101, 0), (100, 0)] : List (Nat × Int32)), hp_I β q.1 a0 = q.2)) ∧ β = F_X1_init α Hs.size a0)) ([.ref a0] : List Value).toArray s 2 66 (hp_A Γ)) (entryFrame m ([.ref a0] : List Value).toArray 1)
  rw [lg_entry_eq]
  generalize (lg_sl ([.ref a0]) ++ List.replicate (1 - (lg_sl ([.ref a0])).length) Slot.unset).toArray = ls at hl ⊢
  have hl : lv_has ls 1 [(0, .ref a0)] := hl
  refine lv_aload_n hx hb dX1_init_0 rfl (lv_at hl 0 rfl) (hp_n (n := 1) rfl ?_)
  refine q_obj (pc' := 4) C ol_X1 hl.1 rfl (by decide) dX1_init_1 rfl ?_
  refine lv_aload_n hx hb dX1_init_4 rfl (lv_at hl 0 rfl) (hp_n (n := 5) rfl ?_)
  refine lv_iconst (v := 0) hx hb dX1_init_5 (by decide) (hp_n (n := 6) rfl ?_)
  refine q_putiZ (κ := 102) (k := 0) (φ := 100) (pc' := 9) C B O.1 fl_X1_7 rfl rfl rfl rfl rfl rfl (gx_sI B.2.2 (gc_i0 _)) dX1_init_6 rfl (fun βh1 Hh1 Lh1 eh1 yh1 Bh1 => ?_)
  have Oh1 : co α a0 2 βh1 [] [(100, 0)] := by rw [eh1]; exact co_sI O (by decide)
  have Eh1 : βh1 = (F_X1_init_1 α Hs.size a0) := by rw [eh1, E]; try rfl
  have Zh1 : Hh1.size = Hs.size + (0) := yh1.trans Z
  refine lv_aload_n hx hb dX1_init_9 rfl (lv_at hl 0 rfl) (hp_n (n := 10) rfl ?_)
  refine lv_iconst (v := 0) hx hb dX1_init_10 (by decide) (hp_n (n := 11) rfl ?_)
  refine q_putiZ (κ := 102) (k := 1) (φ := 101) (pc' := 14) C Bh1 Oh1.1 fl_X1_13 rfl rfl rfl rfl rfl rfl (gx_sI Bh1.2.2 (gc_i0 _)) dX1_init_11 rfl (fun βh2 Hh2 Lh2 eh2 yh2 Bh2 => ?_)
  have Oh2 : co α a0 2 βh2 [] [(101, 0), (100, 0)] := by rw [eh2]; exact co_sI Oh1 (by decide)
  have Eh2 : βh2 = (F_X1_init_2 α Hs.size a0) := by rw [eh2, Eh1]; try rfl
  have Zh2 : Hh2.size = Hs.size + (0) := yh2.trans Zh1
  refine lv_aload_n hx hb dX1_init_14 rfl (lv_at hl 0 rfl) (hp_n (n := 15) rfl ?_)
  refine lv_iconst (v := 0) hx hb dX1_init_15 (by decide) (hp_n (n := 16) rfl ?_)
  refine q_putiZ (κ := 102) (k := 2) (φ := 102) (pc' := 19) C Bh2 Oh2.1 fl_X1_16 rfl rfl rfl rfl rfl rfl (gx_sI Bh2.2.2 (gc_i0 _)) dX1_init_16 rfl (fun βh3 Hh3 Lh3 eh3 yh3 Bh3 => ?_)
  have Oh3 : co α a0 2 βh3 [] [(102, 0), (101, 0), (100, 0)] := by rw [eh3]; exact co_sI Oh2 (by decide)
  have Eh3 : βh3 = (F_X1_init_3 α Hs.size a0) := by rw [eh3, Eh2]; try rfl
  have Zh3 : Hh3.size = Hs.size + (0) := yh3.trans Zh2
  refine lv_aload_n hx hb dX1_init_19 rfl (lv_at hl 0 rfl) (hp_n (n := 20) rfl ?_)
  refine lv_iconst (v := 0) hx hb dX1_init_20 (by decide) (hp_n (n := 21) rfl ?_)
  refine q_putiZ (κ := 102) (k := 3) (φ := 103) (pc' := 24) C Bh3 Oh3.1 fl_X1_19 rfl rfl rfl rfl rfl rfl (gx_sI Bh3.2.2 (gc_i0 _)) dX1_init_21 rfl (fun βh4 Hh4 Lh4 eh4 yh4 Bh4 => ?_)
  have Oh4 : co α a0 2 βh4 [] [(103, 0), (102, 0), (101, 0), (100, 0)] := by rw [eh4]; exact co_sI Oh3 (by decide)
  have Eh4 : βh4 = (F_X1_init_4 α Hs.size a0) := by rw [eh4, Eh3]; try rfl
  have Zh4 : Hh4.size = Hs.size + (0) := yh4.trans Zh3
  refine lv_aload_n hx hb dX1_init_24 rfl (lv_at hl 0 rfl) (hp_n (n := 25) rfl ?_)
  refine q_newZ (κ := 6) (N := 2) (pc' := 28) C Bh4 cl_X1_22 it_X5 iz_X5 rfl in_6 tyX5_ok df_6 (by decide) rfl rfl rfl (Nat.le_of_ble_eq_true rfl) (Nat.le_of_ble_eq_true rfl) dX1_init_25 rfl (fun q hq => gx_nw Bh4.2.2 (by decide) hq) (fun βh5 ah5 Hh5 fh5 wh5 yh5 eh5 Bh5 => ?_)
  have uh5 : ah5 = Hs.size + (0) := by rw [wh5, Zh4]
  have nh5 := gx_new Bh4.2.2 Oh4 fh5
  have Oh5 : co α a0 2 βh5 [] [(103, 0), (102, 0), (101, 0), (100, 0)] := by rw [eh5]; exact co_nw Oh4 fh5
  have kh5 : hp_K βh5 ah5 = 106 := by rw [eh5]; exact nw_k
  have zh5 : ∀ φ, hp_I βh5 φ ah5 = 0 := fun φ => by rw [eh5]; exact nw_i
  have Eh5 : βh5 = (F_X1_init_5 α Hs.size a0) := by rw [eh5, Eh4, uh5]; try rfl
  have Zh5 : Hh5.size = Hs.size + (1) := zzk yh5 Zh4 rfl
  refine W.widen (k := 1) (n := 2) (Nat.le_of_ble_eq_true rfl) (Nat.le_of_ble_eq_true rfl) ?_
  refine lv_dup hx hb dX1_init_28 rfl (hp_n (n := 29) rfl ?_)
  refine q_cvZ (pc' := 32) Bh5 (hp_runIZ (As := []) (rest := [.ref ah5, .ref a0]) C Bh5 (u_X5_init Γ l βh5 Bh5.2.2.1 Hh5 ah5 kh5 zh5) lb_X5_init rfl li_X5_init lk_X1_24 rfl (by decide) rfl hl.1 rfl (Nat.le_of_ble_eq_true rfl) dX1_init_29 ⟨(Nat.le_of_ble_eq_true rfl), (Nat.le_of_ble_eq_true rfl)⟩) (fun q hq => gx_call Bh5.2.2 hq.1.1 nh5.1) rfl (fun βh6 Hh6 Lh6 yh6 pph6 Bh6 => ?_)
  have ph6 := pph6.1
  have Eh6 : βh6 = (F_X1_init_6 α Hs.size a0) := by rw [pph6.2, Eh5, Zh5, uh5]; try rfl
  have Zh6 : Hh6.size = Hs.size + (2) := zzk yh6 Zh5 rfl
  have Oh6 : co α a0 2 βh6 [] [(103, 0), (102, 0), (101, 0), (100, 0)] := co_call Oh5 ph6.1 nh5.2 (by rw [kh5]; decide)
  have kh6 : hp_K βh6 ah5 = 6 := ph6.2.1
  refine W.widen (k := 2) (n := 66) (Nat.le_of_ble_eq_true rfl) (Nat.le_of_ble_eq_true rfl) ?_
  refine q_putnFZ (κ := 102) (k := 4) (φ := 104) (pc' := 35) C Bh6 Oh6.1 fl_X1_25 rfl rfl rfl hnm rfl rfl rfl rfl (gx_sN Bh6.2.2 Oh6) dX1_init_32 rfl (fun βh7 Hh7 Lh7 eh7 yh7 Bh7 => ?_)
  have Oh7 : co α a0 2 βh7 [104] [(103, 0), (102, 0), (101, 0), (100, 0)] := by rw [eh7]; exact co_sN Oh6 ⟨(Or.inl (by rw [kh6]; rfl)), by rw [kh6]; decide, by rw [kh6]; decide, nh5.1, (by rw [kh6]; intro q; exact absurd q (by decide))⟩
  have Eh7 : βh7 = (F_X1_init_7 α Hs.size a0) := by rw [eh7, Eh6, uh5]; try rfl
  have Zh7 : Hh7.size = Hs.size + (2) := yh7.trans Zh6
  obtain ⟨Bh8, kh8, fh8, -⟩ := co_fin Bh7 Oh7 (by decide) (by decide) (by decide) (fun q => absurd q (by decide))
  refine W.widen (k := 2) (n := 66) (Nat.le_of_ble_eq_true rfl) (Nat.le_of_ble_eq_true rfl) ?_
  exact q_vretZ C Bh8 Zh7 hr hlk ⟨⟨Bh8.2.2, kh8, fh8⟩, by rw [Eh7]; try rfl⟩ dX1_init_35
def F_X0_init_0 (α : hp_T) (h a0 : Nat) : hp_T := α
def F_X0_init_1 (α : hp_T) (h a0 : Nat) : hp_T := hp_sI (F_X0_init_0 α h a0) 50 a0 101
def F_X0_init_2 (α : hp_T) (h a0 : Nat) : hp_T := hp_nw (F_X0_init_1 α h a0) (h + (0)) 106
def F_X0_init_3 (α : hp_T) (h a0 : Nat) : hp_T := F_X5_init (F_X0_init_2 α h a0) (h + (1)) (h + (0))
def F_X0_init_4 (α : hp_T) (h a0 : Nat) : hp_T := hp_sN (F_X0_init_3 α h a0) 51 a0 (some (h + (0)))
def F_X0_init_5 (α : hp_T) (h a0 : Nat) : hp_T := hp_sI (F_X0_init_4 α h a0) 52 a0 0
def F_X0_init_6 (α : hp_T) (h a0 : Nat) : hp_T := hp_sI (F_X0_init_5 α h a0) 53 a0 0
def F_X0_init_7 (α : hp_T) (h a0 : Nat) : hp_T := hp_sI (F_X0_init_6 α h a0) 54 a0 0
def F_X0_init (α : hp_T) (h a0 : Nat) : hp_T := hp_cv (F_X0_init_7 α h a0) a0 1
set_option maxRecDepth 100000 in
set_option maxHeartbeats 4000000 in
theorem u_X0_init (Γ : hp_G) (l : Launch) (α : hp_T) (g : GC α) (Hs : Heap) (a0 : Nat) (k0 : hp_K α a0 = 101) (z0 : ∀ φ, hp_I α φ a0 = 0) : Met l yX0_init (hp_ws yX0_init cX0_init 1 none) (hp_rm 2 2 66) (hp_PcH Γ α Hs [.ref a0]) (hp_QZ Γ (Hs.size + 2) (fun β => (gx a0 α β ∧ hp_K β a0 = 1 ∧ (∀ q ∈ ([(54, 0), (53, 0), (52, 0), (50, 101)] : List (Nat × Int32)), hp_I β q.1 a0 = q.2)) ∧ β = F_X0_init α Hs.size a0)) 2 66 (hp_A Γ) := by
  refine hp_startZ (by decide) ?_
  intro p e s m below meth c C hr hlk B0 hnm hHs
  have Z : s.heap.size = Hs.size + 0 := by rw [hHs]; rfl
  have E : α = F_X0_init_0 α Hs.size a0 := rfl
  have C : hp_C Γ p m c cX0_init 1 s ([.ref a0] : List Value).toArray RX0 := C
  have hx := C.1.1
  have hb := C.1.2.1
  have hown := C.1.2.2.2.1
  have hts := C.1.2.2.2.2
  have B : hp_B Γ (gx a0) s α α s.heap [] := ⟨B0.1, B0.2.1, gx_rf g⟩
  have O : co α a0 1 α [] [] := co_0 k0 z0
  have hl := lv_entry ([.ref a0]) (n := 1) (Nat.le_of_ble_eq_true rfl)
  show W p l e (hp_rm 2 2 66) s m ([.ref a0] : List Value).toArray below meth c s.heap [] 0 0 (MQ below (hp_QZ Γ (Hs.size + 2) (fun β => (gx a0 α β ∧ hp_K β a0 = 1 ∧ (∀ q ∈ ([(54, 0), (53, 0), (52, 0), (50, 101)] : List (Nat × Int32)), hp_I β q.1 a0 = q.2)) ∧ β = F_X0_init α Hs.size a0)) ([.ref a0] : List Value).toArray s 2 66 (hp_A Γ)) (entryFrame m ([.ref a0] : List Value).toArray 1)
  rw [lg_entry_eq]
  generalize (lg_sl ([.ref a0]) ++ List.replicate (1 - (lg_sl ([.ref a0])).length) Slot.unset).toArray = ls at hl ⊢
  have hl : lv_has ls 1 [(0, .ref a0)] := hl
  refine lv_aload_n hx hb dX0_init_0 rfl (lv_at hl 0 rfl) (hp_n (n := 1) rfl ?_)
  refine q_obj (pc' := 4) C ol_X0 hl.1 rfl (by decide) dX0_init_1 rfl ?_
  refine lv_aload_n hx hb dX0_init_4 rfl (lv_at hl 0 rfl) (hp_n (n := 5) rfl ?_)
  refine lv_bipush (v := 101) hx hb dX0_init_5 (by decide) (hp_n (n := 7) rfl ?_)
  refine q_putiZ (κ := 101) (k := 0) (φ := 50) (pc' := 10) C B O.1 fl_X0_9 rfl rfl rfl rfl rfl rfl (gx_sI B.2.2 (fun q => absurd q (by decide))) dX0_init_7 rfl (fun βh1 Hh1 Lh1 eh1 yh1 Bh1 => ?_)
  have Oh1 : co α a0 1 βh1 [] [(50, 101)] := by rw [eh1]; exact co_sI O (by decide)
  have Eh1 : βh1 = (F_X0_init_1 α Hs.size a0) := by rw [eh1, E]; try rfl
  have Zh1 : Hh1.size = Hs.size + (0) := yh1.trans Z
  refine lv_aload_n hx hb dX0_init_10 rfl (lv_at hl 0 rfl) (hp_n (n := 11) rfl ?_)
  refine q_newZ (κ := 6) (N := 2) (pc' := 14) C Bh1 cl_X0_15 it_X5 iz_X5 rfl in_6 tyX5_ok df_6 (by decide) rfl rfl rfl (Nat.le_of_ble_eq_true rfl) (Nat.le_of_ble_eq_true rfl) dX0_init_11 rfl (fun q hq => gx_nw Bh1.2.2 (by decide) hq) (fun βh2 ah2 Hh2 fh2 wh2 yh2 eh2 Bh2 => ?_)
  have uh2 : ah2 = Hs.size + (0) := by rw [wh2, Zh1]
  have nh2 := gx_new Bh1.2.2 Oh1 fh2
  have Oh2 : co α a0 1 βh2 [] [(50, 101)] := by rw [eh2]; exact co_nw Oh1 fh2
  have kh2 : hp_K βh2 ah2 = 106 := by rw [eh2]; exact nw_k
  have zh2 : ∀ φ, hp_I βh2 φ ah2 = 0 := fun φ => by rw [eh2]; exact nw_i
  have Eh2 : βh2 = (F_X0_init_2 α Hs.size a0) := by rw [eh2, Eh1, uh2]; try rfl
  have Zh2 : Hh2.size = Hs.size + (1) := zzk yh2 Zh1 rfl
  refine W.widen (k := 1) (n := 2) (Nat.le_of_ble_eq_true rfl) (Nat.le_of_ble_eq_true rfl) ?_
  refine lv_dup hx hb dX0_init_14 rfl (hp_n (n := 15) rfl ?_)
  refine q_cvZ (pc' := 18) Bh2 (hp_runIZ (As := []) (rest := [.ref ah2, .ref a0]) C Bh2 (u_X5_init Γ l βh2 Bh2.2.2.1 Hh2 ah2 kh2 zh2) lb_X5_init rfl li_X5_init lk_X0_17 rfl (by decide) rfl hl.1 rfl (Nat.le_of_ble_eq_true rfl) dX0_init_15 ⟨(Nat.le_of_ble_eq_true rfl), (Nat.le_of_ble_eq_true rfl)⟩) (fun q hq => gx_call Bh2.2.2 hq.1.1 nh2.1) rfl (fun βh3 Hh3 Lh3 yh3 pph3 Bh3 => ?_)
  have ph3 := pph3.1
  have Eh3 : βh3 = (F_X0_init_3 α Hs.size a0) := by rw [pph3.2, Eh2, Zh2, uh2]; try rfl
  have Zh3 : Hh3.size = Hs.size + (2) := zzk yh3 Zh2 rfl
  have Oh3 : co α a0 1 βh3 [] [(50, 101)] := co_call Oh2 ph3.1 nh2.2 (by rw [kh2]; decide)
  have kh3 : hp_K βh3 ah2 = 6 := ph3.2.1
  refine W.widen (k := 2) (n := 66) (Nat.le_of_ble_eq_true rfl) (Nat.le_of_ble_eq_true rfl) ?_
  refine q_putnZ (κ := 101) (k := 1) (φ := 51) (pc' := 21) C Bh3 Oh3.1 fl_X0_18 rfl rfl rfl rfl rfl rfl (gx_sN Bh3.2.2 Oh3) dX0_init_18 rfl (fun βh4 Hh4 Lh4 eh4 yh4 Bh4 => ?_)
  have Oh4 : co α a0 1 βh4 [51] [(50, 101)] := by rw [eh4]; exact co_sN Oh3 ⟨(Or.inl (by rw [kh3]; rfl)), by rw [kh3]; decide, by rw [kh3]; decide, nh2.1, (by rw [kh3]; intro q; exact absurd q (by decide))⟩
  have Eh4 : βh4 = (F_X0_init_4 α Hs.size a0) := by rw [eh4, Eh3, uh2]; try rfl
  have Zh4 : Hh4.size = Hs.size + (2) := yh4.trans Zh3
  refine lv_aload_n hx hb dX0_init_21 rfl (lv_at hl 0 rfl) (hp_n (n := 22) rfl ?_)
  refine lv_iconst (v := 0) hx hb dX0_init_22 (by decide) (hp_n (n := 23) rfl ?_)
  refine q_putiZ (κ := 101) (k := 2) (φ := 52) (pc' := 26) C Bh4 Oh4.1 fl_X0_22 rfl rfl rfl rfl rfl rfl (gx_sI Bh4.2.2 (gc_i0 _)) dX0_init_23 rfl (fun βh5 Hh5 Lh5 eh5 yh5 Bh5 => ?_)
  have Oh5 : co α a0 1 βh5 [51] [(52, 0), (50, 101)] := by rw [eh5]; exact co_sI Oh4 (by decide)
  have Eh5 : βh5 = (F_X0_init_5 α Hs.size a0) := by rw [eh5, Eh4]; try rfl
  have Zh5 : Hh5.size = Hs.size + (2) := yh5.trans Zh4
  refine lv_aload_n hx hb dX0_init_26 rfl (lv_at hl 0 rfl) (hp_n (n := 27) rfl ?_)
  refine lv_iconst (v := 0) hx hb dX0_init_27 (by decide) (hp_n (n := 28) rfl ?_)
  refine q_putiZ (κ := 101) (k := 3) (φ := 53) (pc' := 31) C Bh5 Oh5.1 fl_X0_25 rfl rfl rfl rfl rfl rfl (gx_sI Bh5.2.2 (gc_i0 _)) dX0_init_28 rfl (fun βh6 Hh6 Lh6 eh6 yh6 Bh6 => ?_)
  have Oh6 : co α a0 1 βh6 [51] [(53, 0), (52, 0), (50, 101)] := by rw [eh6]; exact co_sI Oh5 (by decide)
  have Eh6 : βh6 = (F_X0_init_6 α Hs.size a0) := by rw [eh6, Eh5]; try rfl
  have Zh6 : Hh6.size = Hs.size + (2) := yh6.trans Zh5
  refine lv_aload_n hx hb dX0_init_31 rfl (lv_at hl 0 rfl) (hp_n (n := 32) rfl ?_)
  refine lv_iconst (v := 0) hx hb dX0_init_32 (by decide) (hp_n (n := 33) rfl ?_)
  refine q_putiZ (κ := 101) (k := 4) (φ := 54) (pc' := 36) C Bh6 Oh6.1 fl_X0_28 rfl rfl rfl rfl rfl rfl (gx_sI Bh6.2.2 (gc_i0 _)) dX0_init_33 rfl (fun βh7 Hh7 Lh7 eh7 yh7 Bh7 => ?_)
  have Oh7 : co α a0 1 βh7 [51] [(54, 0), (53, 0), (52, 0), (50, 101)] := by rw [eh7]; exact co_sI Oh6 (by decide)
  have Eh7 : βh7 = (F_X0_init_7 α Hs.size a0) := by rw [eh7, Eh6]; try rfl
  have Zh7 : Hh7.size = Hs.size + (2) := yh7.trans Zh6
  obtain ⟨Bh8, kh8, fh8, -⟩ := co_fin Bh7 Oh7 (by decide) (by decide) (by decide) (fun q => absurd q (by decide))
  refine W.widen (k := 2) (n := 66) (Nat.le_of_ble_eq_true rfl) (Nat.le_of_ble_eq_true rfl) ?_
  exact q_vretZ C Bh8 Zh7 hr hlk ⟨⟨Bh8.2.2, kh8, fh8⟩, by rw [Eh7]; try rfl⟩ dX0_init_36
def F_X6_init_0 (α : hp_T) (h a0 : Nat) : hp_T := α
def F_X6_init_1 (α : hp_T) (h a0 : Nat) : hp_T := hp_nw (F_X6_init_0 α h a0) (h + (0)) 36
def F_X6_init_2 (α : hp_T) (h a0 : Nat) : hp_T := hp_sN (F_X6_init_1 α h a0) 350 a0 (some (h + (0)))
def F_X6_init_3 (α : hp_T) (h a0 : Nat) : hp_T := hp_sI (F_X6_init_2 α h a0) 351 a0 0
def F_X6_init_4 (α : hp_T) (h a0 : Nat) : hp_T := hp_sI (F_X6_init_3 α h a0) 352 a0 0
def F_X6_init_5 (α : hp_T) (h a0 : Nat) : hp_T := hp_sI (F_X6_init_4 α h a0) 353 a0 0
def F_X6_init_6 (α : hp_T) (h a0 : Nat) : hp_T := hp_sI (F_X6_init_5 α h a0) 354 a0 0
def F_X6_init_7 (α : hp_T) (h a0 : Nat) : hp_T := hp_sI (F_X6_init_6 α h a0) 355 a0 0
def F_X6_init_8 (α : hp_T) (h a0 : Nat) : hp_T := hp_sI (F_X6_init_7 α h a0) 356 a0 0
def F_X6_init (α : hp_T) (h a0 : Nat) : hp_T := hp_cv (F_X6_init_8 α h a0) a0 7
set_option maxRecDepth 100000 in
set_option maxHeartbeats 4000000 in
theorem u_X6_init (Γ : hp_G) (l : Launch) (α : hp_T) (g : GC α) (Hs : Heap) (a0 : Nat) (k0 : hp_K α a0 = 107) (z0 : ∀ φ, hp_I α φ a0 = 0) : Met l yX6_init (hp_ws yX6_init cX6_init 1 none) (hp_rm 1 1 0) (hp_PcH Γ α Hs [.ref a0]) (hp_QZ Γ (Hs.size + 1) (fun β => (gx a0 α β ∧ hp_K β a0 = 7 ∧ (∀ q ∈ ([(356, 0), (355, 0), (354, 0), (353, 0), (352, 0), (351, 0)] : List (Nat × Int32)), hp_I β q.1 a0 = q.2)) ∧ β = F_X6_init α Hs.size a0)) 1 0 (hp_A Γ) := by
  refine hp_startZ (by decide) ?_
  intro p e s m below meth c C hr hlk B0 hnm hHs
  have Z : s.heap.size = Hs.size + 0 := by rw [hHs]; rfl
  have E : α = F_X6_init_0 α Hs.size a0 := rfl
  have C : hp_C Γ p m c cX6_init 1 s ([.ref a0] : List Value).toArray RX6 := C
  have hx := C.1.1
  have hb := C.1.2.1
  have hown := C.1.2.2.2.1
  have hts := C.1.2.2.2.2
  have B : hp_B Γ (gx a0) s α α s.heap [] := ⟨B0.1, B0.2.1, gx_rf g⟩
  have O : co α a0 7 α [] [] := co_0 k0 z0
  have hl := lv_entry ([.ref a0]) (n := 1) (Nat.le_of_ble_eq_true rfl)
  show W p l e (hp_rm 1 1 0) s m ([.ref a0] : List Value).toArray below meth c s.heap [] 0 0 (MQ below (hp_QZ Γ (Hs.size + 1) (fun β => (gx a0 α β ∧ hp_K β a0 = 7 ∧ (∀ q ∈ ([(356, 0), (355, 0), (354, 0), (353, 0), (352, 0), (351, 0)] : List (Nat × Int32)), hp_I β q.1 a0 = q.2)) ∧ β = F_X6_init α Hs.size a0)) ([.ref a0] : List Value).toArray s 1 0 (hp_A Γ)) (entryFrame m ([.ref a0] : List Value).toArray 1)
  rw [lg_entry_eq]
  generalize (lg_sl ([.ref a0]) ++ List.replicate (1 - (lg_sl ([.ref a0])).length) Slot.unset).toArray = ls at hl ⊢
  have hl : lv_has ls 1 [(0, .ref a0)] := hl
  refine lv_aload_n hx hb dX6_init_0 rfl (lv_at hl 0 rfl) (hp_n (n := 1) rfl ?_)
  refine q_obj (pc' := 4) C ol_X6 hl.1 rfl (by decide) dX6_init_1 rfl ?_
  refine lv_aload_n hx hb dX6_init_4 rfl (lv_at hl 0 rfl) (hp_n (n := 5) rfl ?_)
  refine lv_iconst (v := 0) hx hb dX6_init_5 (by decide) (hp_n (n := 6) rfl ?_)
  refine q_newaZ (κ := 36) (t := 1) (n := 0) (atype := .byte) (ty := .byte) (dv := .int 0) (pc' := 8) C B ac_byte rfl (by decide) rfl rfl (fun _ _ q => q) rfl (fun _ cA => nw_cx (by decide) cA) (by decide) (by decide +kernel) (Nat.le_of_ble_eq_true rfl) rfl (Nat.le_of_ble_eq_true rfl) (Nat.le_of_ble_eq_true rfl) dX6_init_6 rfl (fun q hq => gx_nw B.2.2 (by decide) hq) (fun βh1 ah1 Hh1 fh1 wh1 yh1 eh1 Bh1 => ?_)
  have uh1 : ah1 = Hs.size + (0) := by rw [wh1, Z]
  have nh1 := gx_new B.2.2 O fh1
  have Oh1 : co α a0 7 βh1 [] [] := by rw [eh1]; exact co_nw O fh1
  have kh1 : hp_K βh1 ah1 = 36 := by rw [eh1]; exact nw_k
  have Eh1 : βh1 = (F_X6_init_1 α Hs.size a0) := by rw [eh1, E, uh1]; try rfl
  have Zh1 : Hh1.size = Hs.size + (1) := zzk yh1 Z rfl
  refine W.widen (k := 1) (n := 0) (Nat.le_of_ble_eq_true rfl) (Nat.le_of_ble_eq_true rfl) ?_
  refine q_putnZ (κ := 107) (k := 0) (φ := 350) (pc' := 11) C Bh1 Oh1.1 fl_X6_9 rfl rfl rfl rfl rfl rfl (gx_sN Bh1.2.2 Oh1) dX6_init_8 rfl (fun βh2 Hh2 Lh2 eh2 yh2 Bh2 => ?_)
  have Oh2 : co α a0 7 βh2 [350] [] := by rw [eh2]; exact co_sN Oh1 ⟨(Or.inr ⟨rfl, by rw [kh1]⟩), by rw [kh1]; decide, by rw [kh1]; decide, nh1.1, (fun _ j => by rw [eh1]; exact nw_e)⟩
  have Eh2 : βh2 = (F_X6_init_2 α Hs.size a0) := by rw [eh2, Eh1, uh1]; try rfl
  have Zh2 : Hh2.size = Hs.size + (1) := yh2.trans Zh1
  refine lv_aload_n hx hb dX6_init_11 rfl (lv_at hl 0 rfl) (hp_n (n := 12) rfl ?_)
  refine lv_iconst (v := 0) hx hb dX6_init_12 (by decide) (hp_n (n := 13) rfl ?_)
  refine q_putiZ (κ := 107) (k := 1) (φ := 351) (pc' := 16) C Bh2 Oh2.1 fl_X6_15 rfl rfl rfl rfl rfl rfl (gx_sI Bh2.2.2 (gc_i0 _)) dX6_init_13 rfl (fun βh3 Hh3 Lh3 eh3 yh3 Bh3 => ?_)
  have Oh3 : co α a0 7 βh3 [350] [(351, 0)] := by rw [eh3]; exact co_sI Oh2 (by decide)
  have Eh3 : βh3 = (F_X6_init_3 α Hs.size a0) := by rw [eh3, Eh2]; try rfl
  have Zh3 : Hh3.size = Hs.size + (1) := yh3.trans Zh2
  refine lv_aload_n hx hb dX6_init_16 rfl (lv_at hl 0 rfl) (hp_n (n := 17) rfl ?_)
  refine lv_iconst (v := 0) hx hb dX6_init_17 (by decide) (hp_n (n := 18) rfl ?_)
  refine q_putiZ (κ := 107) (k := 2) (φ := 352) (pc' := 21) C Bh3 Oh3.1 fl_X6_19 rfl rfl rfl rfl rfl rfl (gx_sI Bh3.2.2 (gc_i0 _)) dX6_init_18 rfl (fun βh4 Hh4 Lh4 eh4 yh4 Bh4 => ?_)
  have Oh4 : co α a0 7 βh4 [350] [(352, 0), (351, 0)] := by rw [eh4]; exact co_sI Oh3 (by decide)
  have Eh4 : βh4 = (F_X6_init_4 α Hs.size a0) := by rw [eh4, Eh3]; try rfl
  have Zh4 : Hh4.size = Hs.size + (1) := yh4.trans Zh3
  refine lv_aload_n hx hb dX6_init_21 rfl (lv_at hl 0 rfl) (hp_n (n := 22) rfl ?_)
  refine lv_iconst (v := 0) hx hb dX6_init_22 (by decide) (hp_n (n := 23) rfl ?_)
  refine q_putiZ (κ := 107) (k := 3) (φ := 353) (pc' := 26) C Bh4 Oh4.1 fl_X6_22 rfl rfl rfl rfl rfl rfl (gx_sI Bh4.2.2 (gc_i0 _)) dX6_init_23 rfl (fun βh5 Hh5 Lh5 eh5 yh5 Bh5 => ?_)
  have Oh5 : co α a0 7 βh5 [350] [(353, 0), (352, 0), (351, 0)] := by rw [eh5]; exact co_sI Oh4 (by decide)
  have Eh5 : βh5 = (F_X6_init_5 α Hs.size a0) := by rw [eh5, Eh4]; try rfl
  have Zh5 : Hh5.size = Hs.size + (1) := yh5.trans Zh4
  refine lv_aload_n hx hb dX6_init_26 rfl (lv_at hl 0 rfl) (hp_n (n := 27) rfl ?_)
  refine lv_iconst (v := 0) hx hb dX6_init_27 (by decide) (hp_n (n := 28) rfl ?_)
  refine q_putiZ (κ := 107) (k := 4) (φ := 354) (pc' := 31) C Bh5 Oh5.1 fl_X6_25 rfl rfl rfl rfl rfl rfl (gx_sI Bh5.2.2 (gc_i0 _)) dX6_init_28 rfl (fun βh6 Hh6 Lh6 eh6 yh6 Bh6 => ?_)
  have Oh6 : co α a0 7 βh6 [350] [(354, 0), (353, 0), (352, 0), (351, 0)] := by rw [eh6]; exact co_sI Oh5 (by decide)
  have Eh6 : βh6 = (F_X6_init_6 α Hs.size a0) := by rw [eh6, Eh5]; try rfl
  have Zh6 : Hh6.size = Hs.size + (1) := yh6.trans Zh5
  refine lv_aload_n hx hb dX6_init_31 rfl (lv_at hl 0 rfl) (hp_n (n := 32) rfl ?_)
  refine lv_iconst (v := 0) hx hb dX6_init_32 (by decide) (hp_n (n := 33) rfl ?_)
  refine q_putiZ (κ := 107) (k := 5) (φ := 355) (pc' := 36) C Bh6 Oh6.1 fl_X6_28 rfl rfl rfl rfl rfl rfl (gx_sI Bh6.2.2 (gc_i0 _)) dX6_init_33 rfl (fun βh7 Hh7 Lh7 eh7 yh7 Bh7 => ?_)
  have Oh7 : co α a0 7 βh7 [350] [(355, 0), (354, 0), (353, 0), (352, 0), (351, 0)] := by rw [eh7]; exact co_sI Oh6 (by decide)
  have Eh7 : βh7 = (F_X6_init_7 α Hs.size a0) := by rw [eh7, Eh6]; try rfl
  have Zh7 : Hh7.size = Hs.size + (1) := yh7.trans Zh6
  refine lv_aload_n hx hb dX6_init_36 rfl (lv_at hl 0 rfl) (hp_n (n := 37) rfl ?_)
  refine lv_iconst (v := 0) hx hb dX6_init_37 (by decide) (hp_n (n := 38) rfl ?_)
  refine q_putiZ (κ := 107) (k := 6) (φ := 356) (pc' := 41) C Bh7 Oh7.1 fl_X6_31 rfl rfl rfl rfl rfl rfl (gx_sI Bh7.2.2 (gc_i0 _)) dX6_init_38 rfl (fun βh8 Hh8 Lh8 eh8 yh8 Bh8 => ?_)
  have Oh8 : co α a0 7 βh8 [350] [(356, 0), (355, 0), (354, 0), (353, 0), (352, 0), (351, 0)] := by rw [eh8]; exact co_sI Oh7 (by decide)
  have Eh8 : βh8 = (F_X6_init_8 α Hs.size a0) := by rw [eh8, Eh7]; try rfl
  have Zh8 : Hh8.size = Hs.size + (1) := yh8.trans Zh7
  obtain ⟨Bh9, kh9, fh9, -⟩ := co_fin Bh8 Oh8 (by decide) (by decide) (by decide) (fun q => absurd q (by decide))
  refine W.widen (k := 1) (n := 0) (Nat.le_of_ble_eq_true rfl) (Nat.le_of_ble_eq_true rfl) ?_
  exact q_vretZ C Bh9 Zh8 hr hlk ⟨⟨Bh9.2.2, kh9, fh9⟩, by rw [Eh8]; try rfl⟩ dX6_init_41
def F_X3_init_0 (α : hp_T) (h a0 : Nat) : hp_T := α
def F_X3_init_1 (α : hp_T) (h a0 : Nat) : hp_T := hp_nw (F_X3_init_0 α h a0) (h + (0)) 107
def F_X3_init_2 (α : hp_T) (h a0 : Nat) : hp_T := F_X6_init (F_X3_init_1 α h a0) (h + (1)) (h + (0))
def F_X3_init_3 (α : hp_T) (h a0 : Nat) : hp_T := hp_sN (F_X3_init_2 α h a0) 200 a0 (some (h + (0)))
def F_X3_init_4 (α : hp_T) (h a0 : Nat) : hp_T := hp_nw (F_X3_init_3 α h a0) (h + (2)) 106
def F_X3_init_5 (α : hp_T) (h a0 : Nat) : hp_T := F_X5_init (F_X3_init_4 α h a0) (h + (3)) (h + (2))
def F_X3_init_6 (α : hp_T) (h a0 : Nat) : hp_T := hp_sN (F_X3_init_5 α h a0) 201 a0 (some (h + (2)))
def F_X3_init_7 (α : hp_T) (h a0 : Nat) : hp_T := hp_nw (F_X3_init_6 α h a0) (h + (4)) 109
def F_X3_init_8 (α : hp_T) (h a0 : Nat) : hp_T := F_X8_init (F_X3_init_7 α h a0) (h + (5)) (h + (4))
def F_X3_init_9 (α : hp_T) (h a0 : Nat) : hp_T := hp_sN (F_X3_init_8 α h a0) 202 a0 (some (h + (4)))
def F_X3_init_10 (α : hp_T) (h a0 : Nat) : hp_T := hp_sI (F_X3_init_9 α h a0) 203 a0 65521
def F_X3_init_11 (α : hp_T) (h a0 : Nat) : hp_T := hp_sI (F_X3_init_10 α h a0) 204 a0 (-1)
def F_X3_init_12 (α : hp_T) (h a0 : Nat) : hp_T := hp_sI (F_X3_init_11 α h a0) 205 a0 (-1)
def F_X3_init_13 (α : hp_T) (h a0 : Nat) : hp_T := hp_sI (F_X3_init_12 α h a0) 206 a0 0
def F_X3_init_14 (α : hp_T) (h a0 : Nat) : hp_T := hp_nw (F_X3_init_13 α h a0) (h + (8)) 110
def F_X3_init_15 (α : hp_T) (h a0 : Nat) : hp_T := F_X9_init (F_X3_init_14 α h a0) (h + (9)) (h + (8))
def F_X3_init_16 (α : hp_T) (h a0 : Nat) : hp_T := hp_sN (F_X3_init_15 α h a0) 207 a0 (some (h + (8)))
def F_X3_init_17 (α : hp_T) (h a0 : Nat) : hp_T := hp_sI (F_X3_init_16 α h a0) 208 a0 0
def F_X3_init_18 (α : hp_T) (h a0 : Nat) : hp_T := hp_sI (F_X3_init_17 α h a0) 209 a0 0
def F_X3_init (α : hp_T) (h a0 : Nat) : hp_T := hp_cv (F_X3_init_18 α h a0) a0 4
set_option maxRecDepth 100000 in
set_option maxHeartbeats 4000000 in
theorem u_X3_init (Γ : hp_G) (l : Launch) (α : hp_T) (g : GC α) (Hs : Heap) (a0 : Nat) (k0 : hp_K α a0 = 104) (z0 : ∀ φ, hp_I α φ a0 = 0) : Met l yX3_init (hp_ws yX3_init cX3_init 1 none) (hp_rm 2 10 280) (hp_PcH Γ α Hs [.ref a0]) (hp_QZ Γ (Hs.size + 10) (fun β => (gx a0 α β ∧ hp_K β a0 = 4 ∧ (∀ q ∈ ([(209, 0), (208, 0), (206, 0), (205, (-1)), (204, (-1)), (203, 65521)] : List (Nat × Int32)), hp_I β q.1 a0 = q.2)) ∧ β = F_X3_init α Hs.size a0)) 10 280 (hp_A Γ) := by
  refine hp_startZ (by decide) ?_
  intro p e s m below meth c C hr hlk B0 hnm hHs
  have Z : s.heap.size = Hs.size + 0 := by rw [hHs]; rfl
  have E : α = F_X3_init_0 α Hs.size a0 := rfl
  have C : hp_C Γ p m c cX3_init 1 s ([.ref a0] : List Value).toArray RX3 := C
  have hx := C.1.1
  have hb := C.1.2.1
  have hown := C.1.2.2.2.1
  have hts := C.1.2.2.2.2
  have B : hp_B Γ (gx a0) s α α s.heap [] := ⟨B0.1, B0.2.1, gx_rf g⟩
  have O : co α a0 4 α [] [] := co_0 k0 z0
  have hl := lv_entry ([.ref a0]) (n := 1) (Nat.le_of_ble_eq_true rfl)
  show W p l e (hp_rm 2 10 280) s m ([.ref a0] : List Value).toArray below meth c s.heap [] 0 0 (MQ below (hp_QZ Γ (Hs.size + 10) (fun β => (gx a0 α β ∧ hp_K β a0 = 4 ∧ (∀ q ∈ ([(209, 0), (208, 0), (206, 0), (205, (-1)), (204, (-1)), (203, 65521)] : List (Nat × Int32)), hp_I β q.1 a0 = q.2)) ∧ β = F_X3_init α Hs.size a0)) ([.ref a0] : List Value).toArray s 10 280 (hp_A Γ)) (entryFrame m ([.ref a0] : List Value).toArray 1)
  rw [lg_entry_eq]
  generalize (lg_sl ([.ref a0]) ++ List.replicate (1 - (lg_sl ([.ref a0])).length) Slot.unset).toArray = ls at hl ⊢
  have hl : lv_has ls 1 [(0, .ref a0)] := hl
  refine lv_aload_n hx hb dX3_init_0 rfl (lv_at hl 0 rfl) (hp_n (n := 1) rfl ?_)
  refine q_obj (pc' := 4) C ol_X3 hl.1 rfl (by decide) dX3_init_1 rfl ?_
  refine lv_aload_n hx hb dX3_init_4 rfl (lv_at hl 0 rfl) (hp_n (n := 5) rfl ?_)
  refine q_newZ (κ := 7) (N := 7) (pc' := 8) C B cl_X3_9 it_X6 iz_X6 rfl in_7 tyX6_ok df_7 (by decide) rfl rfl rfl (Nat.le_of_ble_eq_true rfl) (Nat.le_of_ble_eq_true rfl) dX3_init_5 rfl (fun q hq => gx_nw B.2.2 (by decide) hq) (fun βh1 ah1 Hh1 fh1 wh1 yh1 eh1 Bh1 => ?_)
  have uh1 : ah1 = Hs.size + (0) := by rw [wh1, Z]
  have nh1 := gx_new B.2.2 O fh1
  have Oh1 : co α a0 4 βh1 [] [] := by rw [eh1]; exact co_nw O fh1
  have kh1 : hp_K βh1 ah1 = 107 := by rw [eh1]; exact nw_k
  have zh1 : ∀ φ, hp_I βh1 φ ah1 = 0 := fun φ => by rw [eh1]; exact nw_i
  have Eh1 : βh1 = (F_X3_init_1 α Hs.size a0) := by rw [eh1, E, uh1]; try rfl
  have Zh1 : Hh1.size = Hs.size + (1) := zzk yh1 Z rfl
  refine W.widen (k := 1) (n := 7) (Nat.le_of_ble_eq_true rfl) (Nat.le_of_ble_eq_true rfl) ?_
  refine lv_dup hx hb dX3_init_8 rfl (hp_n (n := 9) rfl ?_)
  refine q_cvZ (pc' := 12) Bh1 (hp_runIZ (As := []) (rest := [.ref ah1, .ref a0]) C Bh1 (u_X6_init Γ l βh1 Bh1.2.2.1 Hh1 ah1 kh1 zh1) lb_X6_init rfl li_X6_init lk_X3_11 rfl (by decide) rfl hl.1 rfl (Nat.le_of_ble_eq_true rfl) dX3_init_9 ⟨(Nat.le_of_ble_eq_true rfl), (Nat.le_of_ble_eq_true rfl)⟩) (fun q hq => gx_call Bh1.2.2 hq.1.1 nh1.1) rfl (fun βh2 Hh2 Lh2 yh2 pph2 Bh2 => ?_)
  have ph2 := pph2.1
  have Eh2 : βh2 = (F_X3_init_2 α Hs.size a0) := by rw [pph2.2, Eh1, Zh1, uh1]; try rfl
  have Zh2 : Hh2.size = Hs.size + (2) := zzk yh2 Zh1 rfl
  have Oh2 : co α a0 4 βh2 [] [] := co_call Oh1 ph2.1 nh1.2 (by rw [kh1]; decide)
  have kh2 : hp_K βh2 ah1 = 7 := ph2.2.1
  refine W.widen (k := 2) (n := 7) (Nat.le_of_ble_eq_true rfl) (Nat.le_of_ble_eq_true rfl) ?_
  refine q_putnFZ (κ := 104) (k := 0) (φ := 200) (pc' := 15) C Bh2 Oh2.1 fl_X3_12 rfl rfl rfl hnm rfl rfl rfl rfl (gx_sN Bh2.2.2 Oh2) dX3_init_12 rfl (fun βh3 Hh3 Lh3 eh3 yh3 Bh3 => ?_)
  have Oh3 : co α a0 4 βh3 [200] [] := by rw [eh3]; exact co_sN Oh2 ⟨(Or.inl (by rw [kh2]; rfl)), by rw [kh2]; decide, by rw [kh2]; decide, nh1.1, (by rw [kh2]; intro q; exact absurd q (by decide))⟩
  have Eh3 : βh3 = (F_X3_init_3 α Hs.size a0) := by rw [eh3, Eh2, uh1]; try rfl
  have Zh3 : Hh3.size = Hs.size + (2) := yh3.trans Zh2
  refine lv_aload_n hx hb dX3_init_15 rfl (lv_at hl 0 rfl) (hp_n (n := 16) rfl ?_)
  refine q_newZ (κ := 6) (N := 2) (pc' := 19) C Bh3 cl_X3_18 it_X5 iz_X5 rfl in_6 tyX5_ok df_6 (by decide) rfl rfl rfl (Nat.le_of_ble_eq_true rfl) (Nat.le_of_ble_eq_true rfl) dX3_init_16 rfl (fun q hq => gx_nw Bh3.2.2 (by decide) hq) (fun βh4 ah4 Hh4 fh4 wh4 yh4 eh4 Bh4 => ?_)
  have uh4 : ah4 = Hs.size + (2) := by rw [wh4, Zh3]
  have nh4 := gx_new Bh3.2.2 Oh3 fh4
  have Oh4 : co α a0 4 βh4 [200] [] := by rw [eh4]; exact co_nw Oh3 fh4
  have kh4 : hp_K βh4 ah4 = 106 := by rw [eh4]; exact nw_k
  have zh4 : ∀ φ, hp_I βh4 φ ah4 = 0 := fun φ => by rw [eh4]; exact nw_i
  have Eh4 : βh4 = (F_X3_init_4 α Hs.size a0) := by rw [eh4, Eh3, uh4]; try rfl
  have Zh4 : Hh4.size = Hs.size + (3) := zzk yh4 Zh3 rfl
  refine W.widen (k := 3) (n := 9) (Nat.le_of_ble_eq_true rfl) (Nat.le_of_ble_eq_true rfl) ?_
  refine lv_dup hx hb dX3_init_19 rfl (hp_n (n := 20) rfl ?_)
  refine q_cvZ (pc' := 23) Bh4 (hp_runIZ (As := []) (rest := [.ref ah4, .ref a0]) C Bh4 (u_X5_init Γ l βh4 Bh4.2.2.1 Hh4 ah4 kh4 zh4) lb_X5_init rfl li_X5_init lk_X3_20 rfl (by decide) rfl hl.1 rfl (Nat.le_of_ble_eq_true rfl) dX3_init_20 ⟨(Nat.le_of_ble_eq_true rfl), (Nat.le_of_ble_eq_true rfl)⟩) (fun q hq => gx_call Bh4.2.2 hq.1.1 nh4.1) rfl (fun βh5 Hh5 Lh5 yh5 pph5 Bh5 => ?_)
  have ph5 := pph5.1
  have Eh5 : βh5 = (F_X3_init_5 α Hs.size a0) := by rw [pph5.2, Eh4, Zh4, uh4]; try rfl
  have Zh5 : Hh5.size = Hs.size + (4) := zzk yh5 Zh4 rfl
  have Oh5 : co α a0 4 βh5 [200] [] := co_call Oh4 ph5.1 nh4.2 (by rw [kh4]; decide)
  have kh5 : hp_K βh5 ah4 = 6 := ph5.2.1
  refine W.widen (k := 4) (n := 73) (Nat.le_of_ble_eq_true rfl) (Nat.le_of_ble_eq_true rfl) ?_
  refine q_putnFZ (κ := 104) (k := 1) (φ := 201) (pc' := 26) C Bh5 Oh5.1 fl_X3_21 rfl rfl rfl hnm rfl rfl rfl rfl (gx_sN Bh5.2.2 Oh5) dX3_init_23 rfl (fun βh6 Hh6 Lh6 eh6 yh6 Bh6 => ?_)
  have Oh6 : co α a0 4 βh6 [201, 200] [] := by rw [eh6]; exact co_sN Oh5 ⟨(Or.inl (by rw [kh5]; rfl)), by rw [kh5]; decide, by rw [kh5]; decide, nh4.1, (by rw [kh5]; intro q; exact absurd q (by decide))⟩
  have Eh6 : βh6 = (F_X3_init_6 α Hs.size a0) := by rw [eh6, Eh5, uh4]; try rfl
  have Zh6 : Hh6.size = Hs.size + (4) := yh6.trans Zh5
  refine lv_aload_n hx hb dX3_init_26 rfl (lv_at hl 0 rfl) (hp_n (n := 27) rfl ?_)
  refine q_newZ (κ := 9) (N := 5) (pc' := 30) C Bh6 cl_X3_25 it_X8 iz_X8 rfl in_9 tyX8_ok df_9 (by decide) rfl rfl rfl (Nat.le_of_ble_eq_true rfl) (Nat.le_of_ble_eq_true rfl) dX3_init_27 rfl (fun q hq => gx_nw Bh6.2.2 (by decide) hq) (fun βh7 ah7 Hh7 fh7 wh7 yh7 eh7 Bh7 => ?_)
  have uh7 : ah7 = Hs.size + (4) := by rw [wh7, Zh6]
  have nh7 := gx_new Bh6.2.2 Oh6 fh7
  have Oh7 : co α a0 4 βh7 [201, 200] [] := by rw [eh7]; exact co_nw Oh6 fh7
  have kh7 : hp_K βh7 ah7 = 109 := by rw [eh7]; exact nw_k
  have zh7 : ∀ φ, hp_I βh7 φ ah7 = 0 := fun φ => by rw [eh7]; exact nw_i
  have Eh7 : βh7 = (F_X3_init_7 α Hs.size a0) := by rw [eh7, Eh6, uh7]; try rfl
  have Zh7 : Hh7.size = Hs.size + (5) := zzk yh7 Zh6 rfl
  refine W.widen (k := 5) (n := 78) (Nat.le_of_ble_eq_true rfl) (Nat.le_of_ble_eq_true rfl) ?_
  refine lv_dup hx hb dX3_init_30 rfl (hp_n (n := 31) rfl ?_)
  refine q_cvZ (pc' := 34) Bh7 (hp_runIZ (As := []) (rest := [.ref ah7, .ref a0]) C Bh7 (u_X8_init Γ l βh7 Bh7.2.2.1 Hh7 ah7 kh7 zh7) lb_X8_init rfl li_X8_init lk_X3_27 rfl (by decide) rfl hl.1 rfl (Nat.le_of_ble_eq_true rfl) dX3_init_31 ⟨(Nat.le_of_ble_eq_true rfl), (Nat.le_of_ble_eq_true rfl)⟩) (fun q hq => gx_call Bh7.2.2 hq.1.1 nh7.1) rfl (fun βh8 Hh8 Lh8 yh8 pph8 Bh8 => ?_)
  have ph8 := pph8.1
  have Eh8 : βh8 = (F_X3_init_8 α Hs.size a0) := by rw [pph8.2, Eh7, Zh7, uh7]; try rfl
  have Zh8 : Hh8.size = Hs.size + (8) := zzk yh8 Zh7 rfl
  have Oh8 : co α a0 4 βh8 [201, 200] [] := co_call Oh7 ph8.1 nh7.2 (by rw [kh7]; decide)
  have kh8 : hp_K βh8 ah7 = 9 := ph8.2.1
  refine W.widen (k := 8) (n := 270) (Nat.le_of_ble_eq_true rfl) (Nat.le_of_ble_eq_true rfl) ?_
  refine q_putnFZ (κ := 104) (k := 2) (φ := 202) (pc' := 37) C Bh8 Oh8.1 fl_X3_28 rfl rfl rfl hnm rfl rfl rfl rfl (gx_sN Bh8.2.2 Oh8) dX3_init_34 rfl (fun βh9 Hh9 Lh9 eh9 yh9 Bh9 => ?_)
  have Oh9 : co α a0 4 βh9 [202, 201, 200] [] := by rw [eh9]; exact co_sN Oh8 ⟨(Or.inl (by rw [kh8]; rfl)), by rw [kh8]; decide, by rw [kh8]; decide, nh7.1, (by rw [kh8]; intro q; exact absurd q (by decide))⟩
  have Eh9 : βh9 = (F_X3_init_9 α Hs.size a0) := by rw [eh9, Eh8, uh7]; try rfl
  have Zh9 : Hh9.size = Hs.size + (8) := yh9.trans Zh8
  refine lv_aload_n hx hb dX3_init_37 rfl (lv_at hl 0 rfl) (hp_n (n := 38) rfl ?_)
  refine lv_ldc hx hb hown (hts _ kc_X3_32) dX3_init_38 (hp_n (n := 40) rfl ?_)
  refine q_putiZ (κ := 104) (k := 3) (φ := 203) (pc' := 43) C Bh9 Oh9.1 fl_X3_33 rfl rfl rfl rfl rfl rfl (gx_sI Bh9.2.2 (fun q => absurd q (by decide))) dX3_init_40 rfl (fun βh10 Hh10 Lh10 eh10 yh10 Bh10 => ?_)
  have Oh10 : co α a0 4 βh10 [202, 201, 200] [(203, 65521)] := by rw [eh10]; exact co_sI Oh9 (by decide)
  have Eh10 : βh10 = (F_X3_init_10 α Hs.size a0) := by rw [eh10, Eh9]; try rfl
  have Zh10 : Hh10.size = Hs.size + (8) := yh10.trans Zh9
  refine lv_aload_n hx hb dX3_init_43 rfl (lv_at hl 0 rfl) (hp_n (n := 44) rfl ?_)
  refine lv_iconst (v := (-1)) hx hb dX3_init_44 (by decide) (hp_n (n := 45) rfl ?_)
  refine q_putiZ (κ := 104) (k := 4) (φ := 204) (pc' := 48) C Bh10 Oh10.1 fl_X3_37 rfl rfl rfl rfl rfl rfl (gx_sI Bh10.2.2 (fun q => absurd q (by decide))) dX3_init_45 rfl (fun βh11 Hh11 Lh11 eh11 yh11 Bh11 => ?_)
  have Oh11 : co α a0 4 βh11 [202, 201, 200] [(204, (-1)), (203, 65521)] := by rw [eh11]; exact co_sI Oh10 (by decide)
  have Eh11 : βh11 = (F_X3_init_11 α Hs.size a0) := by rw [eh11, Eh10]; try rfl
  have Zh11 : Hh11.size = Hs.size + (8) := yh11.trans Zh10
  refine lv_aload_n hx hb dX3_init_48 rfl (lv_at hl 0 rfl) (hp_n (n := 49) rfl ?_)
  refine lv_iconst (v := (-1)) hx hb dX3_init_49 (by decide) (hp_n (n := 50) rfl ?_)
  refine q_putiZ (κ := 104) (k := 5) (φ := 205) (pc' := 53) C Bh11 Oh11.1 fl_X3_40 rfl rfl rfl rfl rfl rfl (gx_sI Bh11.2.2 (fun q => absurd q (by decide))) dX3_init_50 rfl (fun βh12 Hh12 Lh12 eh12 yh12 Bh12 => ?_)
  have Oh12 : co α a0 4 βh12 [202, 201, 200] [(205, (-1)), (204, (-1)), (203, 65521)] := by rw [eh12]; exact co_sI Oh11 (by decide)
  have Eh12 : βh12 = (F_X3_init_12 α Hs.size a0) := by rw [eh12, Eh11]; try rfl
  have Zh12 : Hh12.size = Hs.size + (8) := yh12.trans Zh11
  refine lv_aload_n hx hb dX3_init_53 rfl (lv_at hl 0 rfl) (hp_n (n := 54) rfl ?_)
  refine lv_iconst (v := 0) hx hb dX3_init_54 (by decide) (hp_n (n := 55) rfl ?_)
  refine q_putiZ (κ := 104) (k := 6) (φ := 206) (pc' := 58) C Bh12 Oh12.1 fl_X3_43 rfl rfl rfl rfl rfl rfl (gx_sI Bh12.2.2 (gc_i0 _)) dX3_init_55 rfl (fun βh13 Hh13 Lh13 eh13 yh13 Bh13 => ?_)
  have Oh13 : co α a0 4 βh13 [202, 201, 200] [(206, 0), (205, (-1)), (204, (-1)), (203, 65521)] := by rw [eh13]; exact co_sI Oh12 (by decide)
  have Eh13 : βh13 = (F_X3_init_13 α Hs.size a0) := by rw [eh13, Eh12]; try rfl
  have Zh13 : Hh13.size = Hs.size + (8) := yh13.trans Zh12
  refine lv_aload_n hx hb dX3_init_58 rfl (lv_at hl 0 rfl) (hp_n (n := 59) rfl ?_)
  refine q_newZ (κ := 10) (N := 2) (pc' := 62) C Bh13 cl_X3_46 it_X9 iz_X9 rfl in_10 tyX9_ok df_10 (by decide) rfl rfl rfl (Nat.le_of_ble_eq_true rfl) (Nat.le_of_ble_eq_true rfl) dX3_init_59 rfl (fun q hq => gx_nw Bh13.2.2 (by decide) hq) (fun βh14 ah14 Hh14 fh14 wh14 yh14 eh14 Bh14 => ?_)
  have uh14 : ah14 = Hs.size + (8) := by rw [wh14, Zh13]
  have nh14 := gx_new Bh13.2.2 Oh13 fh14
  have Oh14 : co α a0 4 βh14 [202, 201, 200] [(206, 0), (205, (-1)), (204, (-1)), (203, 65521)] := by rw [eh14]; exact co_nw Oh13 fh14
  have kh14 : hp_K βh14 ah14 = 110 := by rw [eh14]; exact nw_k
  have zh14 : ∀ φ, hp_I βh14 φ ah14 = 0 := fun φ => by rw [eh14]; exact nw_i
  have Eh14 : βh14 = (F_X3_init_14 α Hs.size a0) := by rw [eh14, Eh13, uh14]; try rfl
  have Zh14 : Hh14.size = Hs.size + (9) := zzk yh14 Zh13 rfl
  refine W.widen (k := 9) (n := 272) (Nat.le_of_ble_eq_true rfl) (Nat.le_of_ble_eq_true rfl) ?_
  refine lv_dup hx hb dX3_init_62 rfl (hp_n (n := 63) rfl ?_)
  refine q_cvZ (pc' := 66) Bh14 (hp_runIZ (As := []) (rest := [.ref ah14, .ref a0]) C Bh14 (u_X9_init Γ l βh14 Bh14.2.2.1 Hh14 ah14 kh14 zh14) lb_X9_init rfl li_X9_init lk_X3_48 rfl (by decide) rfl hl.1 rfl (Nat.le_of_ble_eq_true rfl) dX3_init_63 ⟨(Nat.le_of_ble_eq_true rfl), (Nat.le_of_ble_eq_true rfl)⟩) (fun q hq => gx_call Bh14.2.2 hq.1.1 nh14.1) rfl (fun βh15 Hh15 Lh15 yh15 pph15 Bh15 => ?_)
  have ph15 := pph15.1
  have Eh15 : βh15 = (F_X3_init_15 α Hs.size a0) := by rw [pph15.2, Eh14, Zh14, uh14]; try rfl
  have Zh15 : Hh15.size = Hs.size + (10) := zzk yh15 Zh14 rfl
  have Oh15 : co α a0 4 βh15 [202, 201, 200] [(206, 0), (205, (-1)), (204, (-1)), (203, 65521)] := co_call Oh14 ph15.1 nh14.2 (by rw [kh14]; decide)
  have kh15 : hp_K βh15 ah14 = 10 := ph15.2.1
  refine W.widen (k := 10) (n := 280) (Nat.le_of_ble_eq_true rfl) (Nat.le_of_ble_eq_true rfl) ?_
  refine q_putnFZ (κ := 104) (k := 7) (φ := 207) (pc' := 69) C Bh15 Oh15.1 fl_X3_49 rfl rfl rfl hnm rfl rfl rfl rfl (gx_sN Bh15.2.2 Oh15) dX3_init_66 rfl (fun βh16 Hh16 Lh16 eh16 yh16 Bh16 => ?_)
  have Oh16 : co α a0 4 βh16 [207, 202, 201, 200] [(206, 0), (205, (-1)), (204, (-1)), (203, 65521)] := by rw [eh16]; exact co_sN Oh15 ⟨(Or.inl (by rw [kh15]; rfl)), by rw [kh15]; decide, by rw [kh15]; decide, nh14.1, (by rw [kh15]; intro q; exact absurd q (by decide))⟩
  have Eh16 : βh16 = (F_X3_init_16 α Hs.size a0) := by rw [eh16, Eh15, uh14]; try rfl
  have Zh16 : Hh16.size = Hs.size + (10) := yh16.trans Zh15
  refine lv_aload_n hx hb dX3_init_69 rfl (lv_at hl 0 rfl) (hp_n (n := 70) rfl ?_)
  refine lv_iconst (v := 0) hx hb dX3_init_70 (by decide) (hp_n (n := 71) rfl ?_)
  refine q_putiZ (κ := 104) (k := 8) (φ := 208) (pc' := 74) C Bh16 Oh16.1 fl_X3_53 rfl rfl rfl rfl rfl rfl (gx_sI Bh16.2.2 (gc_i0 _)) dX3_init_71 rfl (fun βh17 Hh17 Lh17 eh17 yh17 Bh17 => ?_)
  have Oh17 : co α a0 4 βh17 [207, 202, 201, 200] [(208, 0), (206, 0), (205, (-1)), (204, (-1)), (203, 65521)] := by rw [eh17]; exact co_sI Oh16 (by decide)
  have Eh17 : βh17 = (F_X3_init_17 α Hs.size a0) := by rw [eh17, Eh16]; try rfl
  have Zh17 : Hh17.size = Hs.size + (10) := yh17.trans Zh16
  refine lv_aload_n hx hb dX3_init_74 rfl (lv_at hl 0 rfl) (hp_n (n := 75) rfl ?_)
  refine lv_iconst (v := 0) hx hb dX3_init_75 (by decide) (hp_n (n := 76) rfl ?_)
  refine q_putiZ (κ := 104) (k := 9) (φ := 209) (pc' := 79) C Bh17 Oh17.1 fl_X3_56 rfl rfl rfl rfl rfl rfl (gx_sI Bh17.2.2 (gc_i0 _)) dX3_init_76 rfl (fun βh18 Hh18 Lh18 eh18 yh18 Bh18 => ?_)
  have Oh18 : co α a0 4 βh18 [207, 202, 201, 200] [(209, 0), (208, 0), (206, 0), (205, (-1)), (204, (-1)), (203, 65521)] := by rw [eh18]; exact co_sI Oh17 (by decide)
  have Eh18 : βh18 = (F_X3_init_18 α Hs.size a0) := by rw [eh18, Eh17]; try rfl
  have Zh18 : Hh18.size = Hs.size + (10) := yh18.trans Zh17
  obtain ⟨Bh19, kh19, fh19, -⟩ := co_fin Bh18 Oh18 (by decide) (by decide) (by decide) (fun q => absurd q (by decide))
  refine W.widen (k := 10) (n := 280) (Nat.le_of_ble_eq_true rfl) (Nat.le_of_ble_eq_true rfl) ?_
  exact q_vretZ C Bh19 Zh18 hr hlk ⟨⟨Bh19.2.2, kh19, fh19⟩, by rw [Eh18]; try rfl⟩ dX3_init_79
def F_X10_init_0 (α : hp_T) (h a0 : Nat) : hp_T := α
def F_X10_init_1 (α : hp_T) (h a0 : Nat) : hp_T := hp_sI (F_X10_init_0 α h a0) 550 a0 65521
def F_X10_init_2 (α : hp_T) (h a0 : Nat) : hp_T := hp_nw (F_X10_init_1 α h a0) (h + (0)) 30
def F_X10_init_3 (α : hp_T) (h a0 : Nat) : hp_T := hp_sN (F_X10_init_2 α h a0) 551 a0 (some (h + (0)))
def F_X10_init_4 (α : hp_T) (h a0 : Nat) : hp_T := hp_sI (F_X10_init_3 α h a0) 552 a0 1
def F_X10_init_5 (α : hp_T) (h a0 : Nat) : hp_T := hp_nw (F_X10_init_4 α h a0) (h + (1)) 31
def F_X10_init_6 (α : hp_T) (h a0 : Nat) : hp_T := hp_sN (F_X10_init_5 α h a0) 553 a0 (some (h + (1)))
def F_X10_init_7 (α : hp_T) (h a0 : Nat) : hp_T := hp_sI (F_X10_init_6 α h a0) 554 a0 0
def F_X10_init_8 (α : hp_T) (h a0 : Nat) : hp_T := hp_nw (F_X10_init_7 α h a0) (h + (2)) 32
def F_X10_init_9 (α : hp_T) (h a0 : Nat) : hp_T := hp_sN (F_X10_init_8 α h a0) 555 a0 (some (h + (2)))
def F_X10_init_10 (α : hp_T) (h a0 : Nat) : hp_T := hp_sI (F_X10_init_9 α h a0) 556 a0 0
def F_X10_init_11 (α : hp_T) (h a0 : Nat) : hp_T := hp_nw (F_X10_init_10 α h a0) (h + (3)) 33
def F_X10_init_12 (α : hp_T) (h a0 : Nat) : hp_T := hp_sN (F_X10_init_11 α h a0) 557 a0 (some (h + (3)))
def F_X10_init_13 (α : hp_T) (h a0 : Nat) : hp_T := hp_nw (F_X10_init_12 α h a0) (h + (4)) 106
def F_X10_init_14 (α : hp_T) (h a0 : Nat) : hp_T := F_X5_init (F_X10_init_13 α h a0) (h + (5)) (h + (4))
def F_X10_init_15 (α : hp_T) (h a0 : Nat) : hp_T := hp_sN (F_X10_init_14 α h a0) 558 a0 (some (h + (4)))
def F_X10_init_16 (α : hp_T) (h a0 : Nat) : hp_T := hp_nw (F_X10_init_15 α h a0) (h + (6)) 109
def F_X10_init_17 (α : hp_T) (h a0 : Nat) : hp_T := F_X8_init (F_X10_init_16 α h a0) (h + (7)) (h + (6))
def F_X10_init_18 (α : hp_T) (h a0 : Nat) : hp_T := hp_sN (F_X10_init_17 α h a0) 559 a0 (some (h + (6)))
def FL_X10_init_82 (α : hp_T) (h a0 : Nat) : Nat → hp_T
  | 0 => (F_X10_init_18 α h a0)
  | j82 + 1 => (hp_sQ (F_X2_init (hp_nw (FL_X10_init_82 α h a0 j82) (h + (10 + 99 * j82)) 103) (h + (10 + 99 * j82 + 1)) (h + (10 + 99 * j82))) 30 ((hp_N (FL_X10_init_82 α h a0 j82) 551 a0).getD 0) (j82) (some (h + (10 + 99 * j82))))
def FL_X10_init_112 (α : hp_T) (h a0 : Nat) : Nat → hp_T
  | 0 => (FL_X10_init_82 α h a0 4)
  | j112 + 1 => (hp_sQ (F_X1_init (hp_nw (FL_X10_init_112 α h a0 j112) (h + (406 + 3 * j112)) 102) (h + (406 + 3 * j112 + 1)) (h + (406 + 3 * j112))) 31 ((hp_N (FL_X10_init_112 α h a0 j112) 553 a0).getD 0) (j112) (some (h + (406 + 3 * j112))))
def FL_X10_init_142 (α : hp_T) (h a0 : Nat) : Nat → hp_T
  | 0 => (FL_X10_init_112 α h a0 16)
  | j142 + 1 => (hp_sQ (F_X7_init (hp_nw (FL_X10_init_142 α h a0 j142) (h + (454 + 1 * j142)) 108) (h + (454 + 1 * j142 + 1)) (h + (454 + 1 * j142))) 32 ((hp_N (FL_X10_init_142 α h a0 j142) 555 a0).getD 0) (j142) (some (h + (454 + 1 * j142))))
def F_X10_init (α : hp_T) (h a0 : Nat) : hp_T := hp_cv (FL_X10_init_142 α h a0 4) a0 11
set_option maxRecDepth 100000 in
set_option maxHeartbeats 4000000 in
theorem u_X10_init (Γ : hp_G) (l : Launch) (α : hp_T) (g : GC α) (Hs : Heap) (a0 : Nat) (k0 : hp_K α a0 = 111) (z0 : ∀ φ, hp_I α φ a0 = 0) : Met l yX10_init (hp_ws yX10_init cX10_init 2 none) (hp_rm 3 458 3803) (hp_PcH Γ α Hs [.ref a0]) (hp_QZ Γ (Hs.size + 458) (fun β => (gx a0 α β ∧ hp_K β a0 = 11 ∧ (∀ q ∈ ([(556, 0), (554, 0), (552, 1), (550, 65521)] : List (Nat × Int32)), hp_I β q.1 a0 = q.2)) ∧ β = F_X10_init α Hs.size a0)) 458 3803 (hp_A Γ) := by
  refine hp_startZ (by decide) ?_
  intro p e s m below meth c C hr hlk B0 hnm hHs
  have Z : s.heap.size = Hs.size + 0 := by rw [hHs]; rfl
  have E : α = F_X10_init_0 α Hs.size a0 := rfl
  have C : hp_C Γ p m c cX10_init 2 s ([.ref a0] : List Value).toArray RX10 := C
  have hx := C.1.1
  have hb := C.1.2.1
  have hown := C.1.2.2.2.1
  have hts := C.1.2.2.2.2
  have B : hp_B Γ (gx a0) s α α s.heap [] := ⟨B0.1, B0.2.1, gx_rf g⟩
  have O : co α a0 11 α [] [] := co_0 k0 z0
  have hl := lv_entry ([.ref a0]) (n := 2) (Nat.le_of_ble_eq_true rfl)
  show W p l e (hp_rm 3 458 3803) s m ([.ref a0] : List Value).toArray below meth c s.heap [] 0 0 (MQ below (hp_QZ Γ (Hs.size + 458) (fun β => (gx a0 α β ∧ hp_K β a0 = 11 ∧ (∀ q ∈ ([(556, 0), (554, 0), (552, 1), (550, 65521)] : List (Nat × Int32)), hp_I β q.1 a0 = q.2)) ∧ β = F_X10_init α Hs.size a0)) ([.ref a0] : List Value).toArray s 458 3803 (hp_A Γ)) (entryFrame m ([.ref a0] : List Value).toArray 2)
  rw [lg_entry_eq]
  generalize (lg_sl ([.ref a0]) ++ List.replicate (2 - (lg_sl ([.ref a0])).length) Slot.unset).toArray = ls at hl ⊢
  have hl : lv_has ls 2 [(0, .ref a0)] := hl
  refine lv_aload_n hx hb dX10_init_0 rfl (lv_at hl 0 rfl) (hp_n (n := 1) rfl ?_)
  refine q_obj (pc' := 4) C ol_X10 hl.1 rfl (by decide) dX10_init_1 rfl ?_
  refine lv_aload_n hx hb dX10_init_4 rfl (lv_at hl 0 rfl) (hp_n (n := 5) rfl ?_)
  refine lv_ldc hx hb hown (hts _ kc_X10_9) dX10_init_5 (hp_n (n := 7) rfl ?_)
  refine q_putiZ (κ := 111) (k := 0) (φ := 550) (pc' := 10) C B O.1 fl_X10_10 rfl rfl rfl rfl rfl rfl (gx_sI B.2.2 (fun q => absurd q (by decide))) dX10_init_7 rfl (fun βh1 Hh1 Lh1 eh1 yh1 Bh1 => ?_)
  have Oh1 : co α a0 11 βh1 [] [(550, 65521)] := by rw [eh1]; exact co_sI O (by decide)
  have Eh1 : βh1 = (F_X10_init_1 α Hs.size a0) := by rw [eh1, E]; try rfl
  have Zh1 : Hh1.size = Hs.size + (0) := yh1.trans Z
  refine lv_aload_n hx hb dX10_init_10 rfl (lv_at hl 0 rfl) (hp_n (n := 11) rfl ?_)
  refine lv_iconst (v := 4) hx hb dX10_init_11 (by decide) (hp_n (n := 12) rfl ?_)
  refine q_anewZ (κ := 30) (t := 4) (n := 4) (Cn := "ProvenRecord$Log") (pc' := 15) C Bh1 cl_X10_16 ao_X2 (by decide) rfl (by decide) rfl (by decide) (by decide +kernel) (Nat.le_of_ble_eq_true rfl) rfl (Nat.le_of_ble_eq_true rfl) (Nat.le_of_ble_eq_true rfl) dX10_init_12 rfl (fun q hq => gx_nw Bh1.2.2 (by decide) hq) (fun βh2 ah2 Hh2 fh2 wh2 yh2 eh2 Bh2 => ?_)
  have uh2 : ah2 = Hs.size + (0) := by rw [wh2, Zh1]
  have nh2 := gx_new Bh1.2.2 Oh1 fh2
  have Oh2 : co α a0 11 βh2 [] [(550, 65521)] := by rw [eh2]; exact co_nw Oh1 fh2
  have kh2 : hp_K βh2 ah2 = 30 := by rw [eh2]; exact nw_k
  have Eh2 : βh2 = (F_X10_init_2 α Hs.size a0) := by rw [eh2, Eh1, uh2]; try rfl
  have Zh2 : Hh2.size = Hs.size + (1) := zzk yh2 Zh1 rfl
  refine W.widen (k := 1) (n := 4) (Nat.le_of_ble_eq_true rfl) (Nat.le_of_ble_eq_true rfl) ?_
  refine q_putnFZ (κ := 111) (k := 1) (φ := 551) (pc' := 18) C Bh2 Oh2.1 fl_X10_18 rfl rfl rfl hnm rfl rfl rfl rfl (gx_sN Bh2.2.2 Oh2) dX10_init_15 rfl (fun βh3 Hh3 Lh3 eh3 yh3 Bh3 => ?_)
  have Oh3 : co α a0 11 βh3 [551] [(550, 65521)] := by rw [eh3]; exact co_sN Oh2 ⟨(Or.inl (by rw [kh2]; rfl)), by rw [kh2]; decide, by rw [kh2]; decide, nh2.1, (fun _ j => by rw [eh2]; exact nw_e)⟩
  have Eh3 : βh3 = (F_X10_init_3 α Hs.size a0) := by rw [eh3, Eh2, uh2]; try rfl
  have Zh3 : Hh3.size = Hs.size + (1) := yh3.trans Zh2
  refine lv_aload_n hx hb dX10_init_18 rfl (lv_at hl 0 rfl) (hp_n (n := 19) rfl ?_)
  refine lv_iconst (v := 1) hx hb dX10_init_19 (by decide) (hp_n (n := 20) rfl ?_)
  refine q_putiZ (κ := 111) (k := 2) (φ := 552) (pc' := 23) C Bh3 Oh3.1 fl_X10_22 rfl rfl rfl rfl rfl rfl (gx_sI Bh3.2.2 (fun q => absurd q (by decide))) dX10_init_20 rfl (fun βh4 Hh4 Lh4 eh4 yh4 Bh4 => ?_)
  have Oh4 : co α a0 11 βh4 [551] [(552, 1), (550, 65521)] := by rw [eh4]; exact co_sI Oh3 (by decide)
  have Eh4 : βh4 = (F_X10_init_4 α Hs.size a0) := by rw [eh4, Eh3]; try rfl
  have Zh4 : Hh4.size = Hs.size + (1) := yh4.trans Zh3
  refine lv_aload_n hx hb dX10_init_23 rfl (lv_at hl 0 rfl) (hp_n (n := 24) rfl ?_)
  refine lv_bipush (v := 16) hx hb dX10_init_24 (by decide) (hp_n (n := 26) rfl ?_)
  refine q_anewZ (κ := 31) (t := 5) (n := 16) (Cn := "ProvenRecord$Frozen") (pc' := 29) C Bh4 cl_X10_25 ao_X1 (by decide) rfl (by decide) rfl (by decide) (by decide +kernel) (Nat.le_of_ble_eq_true rfl) rfl (Nat.le_of_ble_eq_true rfl) (Nat.le_of_ble_eq_true rfl) dX10_init_26 rfl (fun q hq => gx_nw Bh4.2.2 (by decide) hq) (fun βh5 ah5 Hh5 fh5 wh5 yh5 eh5 Bh5 => ?_)
  have uh5 : ah5 = Hs.size + (1) := by rw [wh5, Zh4]
  have nh5 := gx_new Bh4.2.2 Oh4 fh5
  have Oh5 : co α a0 11 βh5 [551] [(552, 1), (550, 65521)] := by rw [eh5]; exact co_nw Oh4 fh5
  have kh5 : hp_K βh5 ah5 = 31 := by rw [eh5]; exact nw_k
  have Eh5 : βh5 = (F_X10_init_5 α Hs.size a0) := by rw [eh5, Eh4, uh5]; try rfl
  have Zh5 : Hh5.size = Hs.size + (2) := zzk yh5 Zh4 rfl
  refine W.widen (k := 2) (n := 20) (Nat.le_of_ble_eq_true rfl) (Nat.le_of_ble_eq_true rfl) ?_
  refine q_putnFZ (κ := 111) (k := 3) (φ := 553) (pc' := 32) C Bh5 Oh5.1 fl_X10_27 rfl rfl rfl hnm rfl rfl rfl rfl (gx_sN Bh5.2.2 Oh5) dX10_init_29 rfl (fun βh6 Hh6 Lh6 eh6 yh6 Bh6 => ?_)
  have Oh6 : co α a0 11 βh6 [553, 551] [(552, 1), (550, 65521)] := by rw [eh6]; exact co_sN Oh5 ⟨(Or.inl (by rw [kh5]; rfl)), by rw [kh5]; decide, by rw [kh5]; decide, nh5.1, (fun _ j => by rw [eh5]; exact nw_e)⟩
  have Eh6 : βh6 = (F_X10_init_6 α Hs.size a0) := by rw [eh6, Eh5, uh5]; try rfl
  have Zh6 : Hh6.size = Hs.size + (2) := yh6.trans Zh5
  refine lv_aload_n hx hb dX10_init_32 rfl (lv_at hl 0 rfl) (hp_n (n := 33) rfl ?_)
  refine lv_iconst (v := 0) hx hb dX10_init_33 (by decide) (hp_n (n := 34) rfl ?_)
  refine q_putiZ (κ := 111) (k := 4) (φ := 554) (pc' := 37) C Bh6 Oh6.1 fl_X10_31 rfl rfl rfl rfl rfl rfl (gx_sI Bh6.2.2 (gc_i0 _)) dX10_init_34 rfl (fun βh7 Hh7 Lh7 eh7 yh7 Bh7 => ?_)
  have Oh7 : co α a0 11 βh7 [553, 551] [(554, 0), (552, 1), (550, 65521)] := by rw [eh7]; exact co_sI Oh6 (by decide)
  have Eh7 : βh7 = (F_X10_init_7 α Hs.size a0) := by rw [eh7, Eh6]; try rfl
  have Zh7 : Hh7.size = Hs.size + (2) := yh7.trans Zh6
  refine lv_aload_n hx hb dX10_init_37 rfl (lv_at hl 0 rfl) (hp_n (n := 38) rfl ?_)
  refine lv_iconst (v := 4) hx hb dX10_init_38 (by decide) (hp_n (n := 39) rfl ?_)
  refine q_anewZ (κ := 32) (t := 6) (n := 4) (Cn := "ProvenRecord$Watcher") (pc' := 42) C Bh7 cl_X10_34 ao_X7 (by decide) rfl (by decide) rfl (by decide) (by decide +kernel) (Nat.le_of_ble_eq_true rfl) rfl (Nat.le_of_ble_eq_true rfl) (Nat.le_of_ble_eq_true rfl) dX10_init_39 rfl (fun q hq => gx_nw Bh7.2.2 (by decide) hq) (fun βh8 ah8 Hh8 fh8 wh8 yh8 eh8 Bh8 => ?_)
  have uh8 : ah8 = Hs.size + (2) := by rw [wh8, Zh7]
  have nh8 := gx_new Bh7.2.2 Oh7 fh8
  have Oh8 : co α a0 11 βh8 [553, 551] [(554, 0), (552, 1), (550, 65521)] := by rw [eh8]; exact co_nw Oh7 fh8
  have kh8 : hp_K βh8 ah8 = 32 := by rw [eh8]; exact nw_k
  have Eh8 : βh8 = (F_X10_init_8 α Hs.size a0) := by rw [eh8, Eh7, uh8]; try rfl
  have Zh8 : Hh8.size = Hs.size + (3) := zzk yh8 Zh7 rfl
  refine W.widen (k := 3) (n := 24) (Nat.le_of_ble_eq_true rfl) (Nat.le_of_ble_eq_true rfl) ?_
  refine q_putnFZ (κ := 111) (k := 5) (φ := 555) (pc' := 45) C Bh8 Oh8.1 fl_X10_36 rfl rfl rfl hnm rfl rfl rfl rfl (gx_sN Bh8.2.2 Oh8) dX10_init_42 rfl (fun βh9 Hh9 Lh9 eh9 yh9 Bh9 => ?_)
  have Oh9 : co α a0 11 βh9 [555, 553, 551] [(554, 0), (552, 1), (550, 65521)] := by rw [eh9]; exact co_sN Oh8 ⟨(Or.inl (by rw [kh8]; rfl)), by rw [kh8]; decide, by rw [kh8]; decide, nh8.1, (fun _ j => by rw [eh8]; exact nw_e)⟩
  have Eh9 : βh9 = (F_X10_init_9 α Hs.size a0) := by rw [eh9, Eh8, uh8]; try rfl
  have Zh9 : Hh9.size = Hs.size + (3) := yh9.trans Zh8
  refine lv_aload_n hx hb dX10_init_45 rfl (lv_at hl 0 rfl) (hp_n (n := 46) rfl ?_)
  refine lv_iconst (v := 0) hx hb dX10_init_46 (by decide) (hp_n (n := 47) rfl ?_)
  refine q_putiZ (κ := 111) (k := 6) (φ := 556) (pc' := 50) C Bh9 Oh9.1 fl_X10_40 rfl rfl rfl rfl rfl rfl (gx_sI Bh9.2.2 (gc_i0 _)) dX10_init_47 rfl (fun βh10 Hh10 Lh10 eh10 yh10 Bh10 => ?_)
  have Oh10 : co α a0 11 βh10 [555, 553, 551] [(556, 0), (554, 0), (552, 1), (550, 65521)] := by rw [eh10]; exact co_sI Oh9 (by decide)
  have Eh10 : βh10 = (F_X10_init_10 α Hs.size a0) := by rw [eh10, Eh9]; try rfl
  have Zh10 : Hh10.size = Hs.size + (3) := yh10.trans Zh9
  refine lv_aload_n hx hb dX10_init_50 rfl (lv_at hl 0 rfl) (hp_n (n := 51) rfl ?_)
  refine lv_bipush (v := 48) hx hb dX10_init_51 (by decide) (hp_n (n := 53) rfl ?_)
  refine q_newaZ (κ := 33) (t := 0) (n := 48) (atype := .int) (ty := .int) (dv := .int 0) (pc' := 55) C Bh10 ac_int rfl (by decide) rfl rfl (fun _ _ q => q) rfl (fun _ cA => nw_cx (by decide) cA) (by decide) (by decide +kernel) (Nat.le_of_ble_eq_true rfl) rfl (Nat.le_of_ble_eq_true rfl) (Nat.le_of_ble_eq_true rfl) dX10_init_53 rfl (fun q hq => gx_nw Bh10.2.2 (by decide) hq) (fun βh11 ah11 Hh11 fh11 wh11 yh11 eh11 Bh11 => ?_)
  have uh11 : ah11 = Hs.size + (3) := by rw [wh11, Zh10]
  have nh11 := gx_new Bh10.2.2 Oh10 fh11
  have Oh11 : co α a0 11 βh11 [555, 553, 551] [(556, 0), (554, 0), (552, 1), (550, 65521)] := by rw [eh11]; exact co_nw Oh10 fh11
  have kh11 : hp_K βh11 ah11 = 33 := by rw [eh11]; exact nw_k
  have Eh11 : βh11 = (F_X10_init_11 α Hs.size a0) := by rw [eh11, Eh10, uh11]; try rfl
  have Zh11 : Hh11.size = Hs.size + (4) := zzk yh11 Zh10 rfl
  refine W.widen (k := 4) (n := 72) (Nat.le_of_ble_eq_true rfl) (Nat.le_of_ble_eq_true rfl) ?_
  refine q_putnFZ (κ := 111) (k := 7) (φ := 557) (pc' := 58) C Bh11 Oh11.1 fl_X10_43 rfl rfl rfl hnm rfl rfl rfl rfl (gx_sN Bh11.2.2 Oh11) dX10_init_55 rfl (fun βh12 Hh12 Lh12 eh12 yh12 Bh12 => ?_)
  have Oh12 : co α a0 11 βh12 [557, 555, 553, 551] [(556, 0), (554, 0), (552, 1), (550, 65521)] := by rw [eh12]; exact co_sN Oh11 ⟨(Or.inl (by rw [kh11]; rfl)), by rw [kh11]; decide, by rw [kh11]; decide, nh11.1, (fun _ j => by rw [eh11]; exact nw_e)⟩
  have Eh12 : βh12 = (F_X10_init_12 α Hs.size a0) := by rw [eh12, Eh11, uh11]; try rfl
  have Zh12 : Hh12.size = Hs.size + (4) := yh12.trans Zh11
  refine lv_aload_n hx hb dX10_init_58 rfl (lv_at hl 0 rfl) (hp_n (n := 59) rfl ?_)
  refine q_newZ (κ := 6) (N := 2) (pc' := 62) C Bh12 cl_X10_47 it_X5 iz_X5 rfl in_6 tyX5_ok df_6 (by decide) rfl rfl rfl (Nat.le_of_ble_eq_true rfl) (Nat.le_of_ble_eq_true rfl) dX10_init_59 rfl (fun q hq => gx_nw Bh12.2.2 (by decide) hq) (fun βh13 ah13 Hh13 fh13 wh13 yh13 eh13 Bh13 => ?_)
  have uh13 : ah13 = Hs.size + (4) := by rw [wh13, Zh12]
  have nh13 := gx_new Bh12.2.2 Oh12 fh13
  have Oh13 : co α a0 11 βh13 [557, 555, 553, 551] [(556, 0), (554, 0), (552, 1), (550, 65521)] := by rw [eh13]; exact co_nw Oh12 fh13
  have kh13 : hp_K βh13 ah13 = 106 := by rw [eh13]; exact nw_k
  have zh13 : ∀ φ, hp_I βh13 φ ah13 = 0 := fun φ => by rw [eh13]; exact nw_i
  have Eh13 : βh13 = (F_X10_init_13 α Hs.size a0) := by rw [eh13, Eh12, uh13]; try rfl
  have Zh13 : Hh13.size = Hs.size + (5) := zzk yh13 Zh12 rfl
  refine W.widen (k := 5) (n := 74) (Nat.le_of_ble_eq_true rfl) (Nat.le_of_ble_eq_true rfl) ?_
  refine lv_dup hx hb dX10_init_62 rfl (hp_n (n := 63) rfl ?_)
  refine q_cvZ (pc' := 66) Bh13 (hp_runIZ (As := []) (rest := [.ref ah13, .ref a0]) C Bh13 (u_X5_init Γ l βh13 Bh13.2.2.1 Hh13 ah13 kh13 zh13) lb_X5_init rfl li_X5_init lk_X10_49 rfl (by decide) rfl hl.1 rfl (Nat.le_of_ble_eq_true rfl) dX10_init_63 ⟨(Nat.le_of_ble_eq_true rfl), (Nat.le_of_ble_eq_true rfl)⟩) (fun q hq => gx_call Bh13.2.2 hq.1.1 nh13.1) rfl (fun βh14 Hh14 Lh14 yh14 pph14 Bh14 => ?_)
  have ph14 := pph14.1
  have Eh14 : βh14 = (F_X10_init_14 α Hs.size a0) := by rw [pph14.2, Eh13, Zh13, uh13]; try rfl
  have Zh14 : Hh14.size = Hs.size + (6) := zzk yh14 Zh13 rfl
  have Oh14 : co α a0 11 βh14 [557, 555, 553, 551] [(556, 0), (554, 0), (552, 1), (550, 65521)] := co_call Oh13 ph14.1 nh13.2 (by rw [kh13]; decide)
  have kh14 : hp_K βh14 ah13 = 6 := ph14.2.1
  refine W.widen (k := 6) (n := 138) (Nat.le_of_ble_eq_true rfl) (Nat.le_of_ble_eq_true rfl) ?_
  refine q_putnFZ (κ := 111) (k := 8) (φ := 558) (pc' := 69) C Bh14 Oh14.1 fl_X10_50 rfl rfl rfl hnm rfl rfl rfl rfl (gx_sN Bh14.2.2 Oh14) dX10_init_66 rfl (fun βh15 Hh15 Lh15 eh15 yh15 Bh15 => ?_)
  have Oh15 : co α a0 11 βh15 [558, 557, 555, 553, 551] [(556, 0), (554, 0), (552, 1), (550, 65521)] := by rw [eh15]; exact co_sN Oh14 ⟨(Or.inl (by rw [kh14]; rfl)), by rw [kh14]; decide, by rw [kh14]; decide, nh13.1, (by rw [kh14]; intro q; exact absurd q (by decide))⟩
  have Eh15 : βh15 = (F_X10_init_15 α Hs.size a0) := by rw [eh15, Eh14, uh13]; try rfl
  have Zh15 : Hh15.size = Hs.size + (6) := yh15.trans Zh14
  refine lv_aload_n hx hb dX10_init_69 rfl (lv_at hl 0 rfl) (hp_n (n := 70) rfl ?_)
  refine q_newZ (κ := 9) (N := 5) (pc' := 73) C Bh15 cl_X10_54 it_X8 iz_X8 rfl in_9 tyX8_ok df_9 (by decide) rfl rfl rfl (Nat.le_of_ble_eq_true rfl) (Nat.le_of_ble_eq_true rfl) dX10_init_70 rfl (fun q hq => gx_nw Bh15.2.2 (by decide) hq) (fun βh16 ah16 Hh16 fh16 wh16 yh16 eh16 Bh16 => ?_)
  have uh16 : ah16 = Hs.size + (6) := by rw [wh16, Zh15]
  have nh16 := gx_new Bh15.2.2 Oh15 fh16
  have Oh16 : co α a0 11 βh16 [558, 557, 555, 553, 551] [(556, 0), (554, 0), (552, 1), (550, 65521)] := by rw [eh16]; exact co_nw Oh15 fh16
  have kh16 : hp_K βh16 ah16 = 109 := by rw [eh16]; exact nw_k
  have zh16 : ∀ φ, hp_I βh16 φ ah16 = 0 := fun φ => by rw [eh16]; exact nw_i
  have Eh16 : βh16 = (F_X10_init_16 α Hs.size a0) := by rw [eh16, Eh15, uh16]; try rfl
  have Zh16 : Hh16.size = Hs.size + (7) := zzk yh16 Zh15 rfl
  refine W.widen (k := 7) (n := 143) (Nat.le_of_ble_eq_true rfl) (Nat.le_of_ble_eq_true rfl) ?_
  refine lv_dup hx hb dX10_init_73 rfl (hp_n (n := 74) rfl ?_)
  refine q_cvZ (pc' := 77) Bh16 (hp_runIZ (As := []) (rest := [.ref ah16, .ref a0]) C Bh16 (u_X8_init Γ l βh16 Bh16.2.2.1 Hh16 ah16 kh16 zh16) lb_X8_init rfl li_X8_init lk_X10_56 rfl (by decide) rfl hl.1 rfl (Nat.le_of_ble_eq_true rfl) dX10_init_74 ⟨(Nat.le_of_ble_eq_true rfl), (Nat.le_of_ble_eq_true rfl)⟩) (fun q hq => gx_call Bh16.2.2 hq.1.1 nh16.1) rfl (fun βh17 Hh17 Lh17 yh17 pph17 Bh17 => ?_)
  have ph17 := pph17.1
  have Eh17 : βh17 = (F_X10_init_17 α Hs.size a0) := by rw [pph17.2, Eh16, Zh16, uh16]; try rfl
  have Zh17 : Hh17.size = Hs.size + (10) := zzk yh17 Zh16 rfl
  have Oh17 : co α a0 11 βh17 [558, 557, 555, 553, 551] [(556, 0), (554, 0), (552, 1), (550, 65521)] := co_call Oh16 ph17.1 nh16.2 (by rw [kh16]; decide)
  have kh17 : hp_K βh17 ah16 = 9 := ph17.2.1
  refine W.widen (k := 10) (n := 335) (Nat.le_of_ble_eq_true rfl) (Nat.le_of_ble_eq_true rfl) ?_
  refine q_putnFZ (κ := 111) (k := 9) (φ := 559) (pc' := 80) C Bh17 Oh17.1 fl_X10_57 rfl rfl rfl hnm rfl rfl rfl rfl (gx_sN Bh17.2.2 Oh17) dX10_init_77 rfl (fun βh18 Hh18 Lh18 eh18 yh18 Bh18 => ?_)
  have Oh18 : co α a0 11 βh18 [559, 558, 557, 555, 553, 551] [(556, 0), (554, 0), (552, 1), (550, 65521)] := by rw [eh18]; exact co_sN Oh17 ⟨(Or.inl (by rw [kh17]; rfl)), by rw [kh17]; decide, by rw [kh17]; decide, nh16.1, (by rw [kh17]; intro q; exact absurd q (by decide))⟩
  have Eh18 : βh18 = (F_X10_init_18 α Hs.size a0) := by rw [eh18, Eh17, uh16]; try rfl
  have Zh18 : Hh18.size = Hs.size + (10) := yh18.trans Zh17
  refine lv_iconst (v := 0) hx hb dX10_init_80 (by decide) (hp_n (n := 81) rfl ?_)
  refine lv_istore_n (lv' := [(1, .int 0), (0, .ref a0)]) hx hb dX10_init_81 rfl hl (by decide) rfl (fun ls hl => hp_n (n := 82) rfl ?_)
  have J82 : ∀ (nq : Nat) (βh19 : hp_T) (Hh19 : Heap) (Lh19 : List Loc) (Bh19 : hp_B Γ (gx a0) s α βh19 Hh19 Lh19) (Oh19 : co α a0 11 βh19 [559, 558, 557, 555, 553, 551] [(556, 0), (554, 0), (552, 1), (550, 65521)]) (vh19 : Int32) (j82 : Nat) (Eh19 : βh19 = FL_X10_init_82 α Hs.size a0 j82) (Zh19 : Hh19.size = Hs.size + (10 + 99 * j82)) (hk82 : vh19.toInt = (j82 : Int)) (hj82 : j82 ≤ 4) (hm82 : 4 - j82 = nq) (ls : Array Slot) (hl : lv_has ls 2 [(0, .ref a0), (1, .int vh19)]), W p l e (hp_rm 3 458 3803) s m ([.ref a0] : List Value).toArray below meth c Hh19 Lh19 (10 + 99 * j82) (335 + 579 * j82) (MQ below (hp_QZ Γ (Hs.size + 458) (fun β => (gx a0 α β ∧ hp_K β a0 = 11 ∧ (∀ q ∈ ([(556, 0), (554, 0), (552, 1), (550, 65521)] : List (Nat × Int32)), hp_I β q.1 a0 = q.2)) ∧ β = F_X10_init α Hs.size a0)) ([.ref a0] : List Value).toArray s 458 3803 (hp_A Γ)) (F0 m 82 ls []) := by
    intro nq
    induction nq using Nat.strongRecOn with
    | ind nq ih82 =>
    intro βh19 Hh19 Lh19 Bh19 Oh19 vh19 j82 Eh19 Zh19 hk82 hj82 hm82 ls hl
    have litn : (4 : Int32).toInt = 4 := by decide
    obtain ⟨xh19, x1h19, x2h19, x3h19, -, x5h19, -⟩ := Oh19.2.1 551 (by decide)
    have kxh19 : hp_K βh19 xh19 = 30 := by rcases x2h19 with q | q; exact q; exact absurd q.1 (by decide)
    have lth19 : hp_K βh19 xh19 ≠ 0 ∧ True := ⟨x3h19, trivial⟩
    have cch19 : vh19.toNatClampNeg = j82 := cl_n hk82
    have xxh19 : (hp_N (FL_X10_init_82 α Hs.size a0 j82) 551 a0).getD 0 = xh19 := by rw [← Eh19, x1h19]; rfl
    refine lv_iload_n hx hb dX10_init_82 rfl (lv_at hl 1 rfl) (hp_n (n := 83) rfl ?_)
    refine lv_aload_n hx hb dX10_init_83 rfl (lv_at hl 0 rfl) (hp_n (n := 84) rfl ?_)
    refine q_get (v := .ref xh19) (κ := 111) (k := 1) (t := 3) (pc' := 87) C Bh19 Oh19.1 fl_X10_18 rfl rfl (by show va_rf (hp_N βh19 551 a0) = _; rw [x1h19]; rfl) dX10_init_84 rfl ?_
    refine q_alen (κ := 30) (t := 4) (n := 4) (x := 4) (ty := .object "ProvenRecord$Log") (pc' := 88) C Bh19 kxh19 (by decide) rfl rfl rfl dX10_init_87 rfl ?_
    refine lv_icmp_ge (tgt := 110) hx hb dX10_init_88 (by decide) (fun cq => ?_) (fun cq => hp_n (n := 91) rfl ?_)
    · have cq := il_le cq
      rw [litn] at cq
      have jn : j82 = 4 := by omega
      have Eq20 : βh19 = FL_X10_init_82 α Hs.size a0 4 := by rw [Eh19, jn]
      have Zq20 : Hh19.size = Hs.size + (406) := by rw [Zh19, jn]
      refine W.widen (k := 406) (n := 2651) (by omega) (by omega) ?_
      refine lv_iconst (v := 0) hx hb dX10_init_110 (by decide) (hp_n (n := 111) rfl ?_)
      refine lv_istore_n (lv' := [(1, .int 0), (0, .ref a0)]) hx hb dX10_init_111 rfl hl (by decide) rfl (fun ls hl => hp_n (n := 112) rfl ?_)
      have J112 : ∀ (nq : Nat) (βh21 : hp_T) (Hh21 : Heap) (Lh21 : List Loc) (Bh21 : hp_B Γ (gx a0) s α βh21 Hh21 Lh21) (Oh21 : co α a0 11 βh21 [559, 558, 557, 555, 553, 551] [(556, 0), (554, 0), (552, 1), (550, 65521)]) (vh21 : Int32) (j112 : Nat) (Eh21 : βh21 = FL_X10_init_112 α Hs.size a0 j112) (Zh21 : Hh21.size = Hs.size + (406 + 3 * j112)) (hk112 : vh21.toInt = (j112 : Int)) (hj112 : j112 ≤ 16) (hm112 : 16 - j112 = nq) (ls : Array Slot) (hl : lv_has ls 2 [(0, .ref a0), (1, .int vh21)]), W p l e (hp_rm 3 458 3803) s m ([.ref a0] : List Value).toArray below meth c Hh21 Lh21 (406 + 3 * j112) (2651 + 71 * j112) (MQ below (hp_QZ Γ (Hs.size + 458) (fun β => (gx a0 α β ∧ hp_K β a0 = 11 ∧ (∀ q ∈ ([(556, 0), (554, 0), (552, 1), (550, 65521)] : List (Nat × Int32)), hp_I β q.1 a0 = q.2)) ∧ β = F_X10_init α Hs.size a0)) ([.ref a0] : List Value).toArray s 458 3803 (hp_A Γ)) (F0 m 112 ls []) := by
        intro nq
        induction nq using Nat.strongRecOn with
        | ind nq ih112 =>
        intro βh21 Hh21 Lh21 Bh21 Oh21 vh21 j112 Eh21 Zh21 hk112 hj112 hm112 ls hl
        have litn : (16 : Int32).toInt = 16 := by decide
        obtain ⟨xh21, x1h21, x2h21, x3h21, -, x5h21, -⟩ := Oh21.2.1 553 (by decide)
        have kxh21 : hp_K βh21 xh21 = 31 := by rcases x2h21 with q | q; exact q; exact absurd q.1 (by decide)
        have lth21 : hp_K βh21 xh21 ≠ 0 ∧ True := ⟨x3h21, trivial⟩
        have cch21 : vh21.toNatClampNeg = j112 := cl_n hk112
        have xxh21 : (hp_N (FL_X10_init_112 α Hs.size a0 j112) 553 a0).getD 0 = xh21 := by rw [← Eh21, x1h21]; rfl
        refine lv_iload_n hx hb dX10_init_112 rfl (lv_at hl 1 rfl) (hp_n (n := 113) rfl ?_)
        refine lv_aload_n hx hb dX10_init_113 rfl (lv_at hl 0 rfl) (hp_n (n := 114) rfl ?_)
        refine q_get (v := .ref xh21) (κ := 111) (k := 3) (t := 3) (pc' := 117) C Bh21 Oh21.1 fl_X10_27 rfl rfl (by show va_rf (hp_N βh21 553 a0) = _; rw [x1h21]; rfl) dX10_init_114 rfl ?_
        refine q_alen (κ := 31) (t := 5) (n := 16) (x := 16) (ty := .object "ProvenRecord$Frozen") (pc' := 118) C Bh21 kxh21 (by decide) rfl rfl rfl dX10_init_117 rfl ?_
        refine lv_icmp_ge (tgt := 140) hx hb dX10_init_118 (by decide) (fun cq => ?_) (fun cq => hp_n (n := 121) rfl ?_)
        · have cq := il_le cq
          rw [litn] at cq
          have jn : j112 = 16 := by omega
          have Eq22 : βh21 = FL_X10_init_112 α Hs.size a0 16 := by rw [Eh21, jn]
          have Zq22 : Hh21.size = Hs.size + (454) := by rw [Zh21, jn]
          refine W.widen (k := 454) (n := 3787) (by omega) (by omega) ?_
          refine lv_iconst (v := 0) hx hb dX10_init_140 (by decide) (hp_n (n := 141) rfl ?_)
          refine lv_istore_n (lv' := [(1, .int 0), (0, .ref a0)]) hx hb dX10_init_141 rfl hl (by decide) rfl (fun ls hl => hp_n (n := 142) rfl ?_)
          have J142 : ∀ (nq : Nat) (βh23 : hp_T) (Hh23 : Heap) (Lh23 : List Loc) (Bh23 : hp_B Γ (gx a0) s α βh23 Hh23 Lh23) (Oh23 : co α a0 11 βh23 [559, 558, 557, 555, 553, 551] [(556, 0), (554, 0), (552, 1), (550, 65521)]) (vh23 : Int32) (j142 : Nat) (Eh23 : βh23 = FL_X10_init_142 α Hs.size a0 j142) (Zh23 : Hh23.size = Hs.size + (454 + 1 * j142)) (hk142 : vh23.toInt = (j142 : Int)) (hj142 : j142 ≤ 4) (hm142 : 4 - j142 = nq) (ls : Array Slot) (hl : lv_has ls 2 [(0, .ref a0), (1, .int vh23)]), W p l e (hp_rm 3 458 3803) s m ([.ref a0] : List Value).toArray below meth c Hh23 Lh23 (454 + 1 * j142) (3787 + 4 * j142) (MQ below (hp_QZ Γ (Hs.size + 458) (fun β => (gx a0 α β ∧ hp_K β a0 = 11 ∧ (∀ q ∈ ([(556, 0), (554, 0), (552, 1), (550, 65521)] : List (Nat × Int32)), hp_I β q.1 a0 = q.2)) ∧ β = F_X10_init α Hs.size a0)) ([.ref a0] : List Value).toArray s 458 3803 (hp_A Γ)) (F0 m 142 ls []) := by
            intro nq
            induction nq using Nat.strongRecOn with
            | ind nq ih142 =>
            intro βh23 Hh23 Lh23 Bh23 Oh23 vh23 j142 Eh23 Zh23 hk142 hj142 hm142 ls hl
            have litn : (4 : Int32).toInt = 4 := by decide
            obtain ⟨xh23, x1h23, x2h23, x3h23, -, x5h23, -⟩ := Oh23.2.1 555 (by decide)
            have kxh23 : hp_K βh23 xh23 = 32 := by rcases x2h23 with q | q; exact q; exact absurd q.1 (by decide)
            have lth23 : hp_K βh23 xh23 ≠ 0 ∧ True := ⟨x3h23, trivial⟩
            have cch23 : vh23.toNatClampNeg = j142 := cl_n hk142
            have xxh23 : (hp_N (FL_X10_init_142 α Hs.size a0 j142) 555 a0).getD 0 = xh23 := by rw [← Eh23, x1h23]; rfl
            refine lv_iload_n hx hb dX10_init_142 rfl (lv_at hl 1 rfl) (hp_n (n := 143) rfl ?_)
            refine lv_aload_n hx hb dX10_init_143 rfl (lv_at hl 0 rfl) (hp_n (n := 144) rfl ?_)
            refine q_get (v := .ref xh23) (κ := 111) (k := 5) (t := 3) (pc' := 147) C Bh23 Oh23.1 fl_X10_36 rfl rfl (by show va_rf (hp_N βh23 555 a0) = _; rw [x1h23]; rfl) dX10_init_144 rfl ?_
            refine q_alen (κ := 32) (t := 6) (n := 4) (x := 4) (ty := .object "ProvenRecord$Watcher") (pc' := 148) C Bh23 kxh23 (by decide) rfl rfl rfl dX10_init_147 rfl ?_
            refine lv_icmp_ge (tgt := 170) hx hb dX10_init_148 (by decide) (fun cq => ?_) (fun cq => hp_n (n := 151) rfl ?_)
            · have cq := il_le cq
              rw [litn] at cq
              have jn : j142 = 4 := by omega
              have Eq24 : βh23 = FL_X10_init_142 α Hs.size a0 4 := by rw [Eh23, jn]
              have Zq24 : Hh23.size = Hs.size + (458) := by rw [Zh23, jn]
              refine W.widen (k := 458) (n := 3803) (by omega) (by omega) ?_
              obtain ⟨Bh25, kh25, fh25, -⟩ := co_fin Bh23 Oh23 (by decide) (by decide) (by decide) (fun q => absurd q (by decide))
              refine W.widen (k := 458) (n := 3803) (by omega) (by omega) ?_
              exact q_vretZ C Bh25 Zq24 hr hlk ⟨⟨Bh25.2.2, kh25, fh25⟩, by rw [Eq24]; try rfl⟩ dX10_init_170
            have cq := il_nle cq
            rw [litn] at cq
            refine lv_aload_n hx hb dX10_init_151 rfl (lv_at hl 0 rfl) (hp_n (n := 152) rfl ?_)
            refine q_get (v := .ref xh23) (κ := 111) (k := 5) (t := 3) (pc' := 155) C Bh23 Oh23.1 fl_X10_36 rfl rfl (by show va_rf (hp_N βh23 555 a0) = _; rw [x1h23]; rfl) dX10_init_152 rfl ?_
            refine lv_iload_n hx hb dX10_init_155 rfl (lv_at hl 1 rfl) (hp_n (n := 156) rfl ?_)
            refine q_newZ (κ := 8) (N := 4) (pc' := 159) C Bh23 cl_X10_34 it_X7 iz_X7 rfl in_8 tyX7_ok df_8 (by decide) rfl rfl rfl (by omega) (by omega) dX10_init_156 rfl (fun q hq => gx_nw Bh23.2.2 (by decide) hq) (fun βh26 ah26 Hh26 fh26 wh26 yh26 eh26 Bh26 => ?_)
            have uh26 : ah26 = Hs.size + (454 + 1 * j142) := by rw [wh26, Zh23]
            have nh26 := gx_new Bh23.2.2 Oh23 fh26
            have Oh26 : co α a0 11 βh26 [559, 558, 557, 555, 553, 551] [(556, 0), (554, 0), (552, 1), (550, 65521)] := by rw [eh26]; exact co_nw Oh23 fh26
            have kh26 : hp_K βh26 ah26 = 108 := by rw [eh26]; exact nw_k
            have zh26 : ∀ φ, hp_I βh26 φ ah26 = 0 := fun φ => by rw [eh26]; exact nw_i
            have sh26 : sa βh23 βh26 xh23 := by rw [eh26]; exact sa_nw (fun q => lth23.1 (by rw [q]; exact fh26))
            have Eh26 : βh26 = (hp_nw (FL_X10_init_142 α Hs.size a0 j142) (Hs.size + (454 + 1 * j142)) 108) := by rw [eh26, Eh23, uh26]; try rfl
            have Zh26 : Hh26.size = Hs.size + (454 + 1 * j142 + 1) := zzk yh26 Zh23 rfl
            refine W.widen (k := 454 + 1 * j142 + 1) (n := 3787 + 4 * j142 + 4) (by omega) (by omega) ?_
            refine lv_dup hx hb dX10_init_159 rfl (hp_n (n := 160) rfl ?_)
            refine q_cvZ (pc' := 163) Bh26 (hp_runIZ (As := []) (rest := [.ref ah26, .int vh23, .ref xh23]) C Bh26 (u_X7_init Γ l βh26 Bh26.2.2.1 Hh26 ah26 kh26 zh26) lb_X7_init rfl li_X7_init lk_X10_63 rfl (by decide) rfl hl.1 rfl (Nat.le_of_ble_eq_true rfl) dX10_init_160 ⟨by omega, by omega⟩) (fun q hq => gx_call Bh26.2.2 hq.1.1 nh26.1) rfl (fun βh27 Hh27 Lh27 yh27 pph27 Bh27 => ?_)
            have ph27 := pph27.1
            have Eh27 : βh27 = (F_X7_init (hp_nw (FL_X10_init_142 α Hs.size a0 j142) (Hs.size + (454 + 1 * j142)) 108) (Hs.size + (454 + 1 * j142 + 1)) (Hs.size + (454 + 1 * j142))) := by rw [pph27.2, Eh26, Zh26, uh26]; try rfl
            have Zh27 : Hh27.size = Hs.size + (454 + 1 * j142 + 1 + 0) := zzk yh27 Zh26 rfl
            have Oh27 : co α a0 11 βh27 [559, 558, 557, 555, 553, 551] [(556, 0), (554, 0), (552, 1), (550, 65521)] := co_call Oh26 ph27.1 nh26.2 (by rw [kh26]; decide)
            have kh27 : hp_K βh27 ah26 = 8 := ph27.2.1
            have sh27 : sa βh26 βh27 xh23 := ph27.1.2 xh23 (fun q => by have := kh26; rw [← q, sh26.1, kxh23] at this; cases this) (by rw [sh26.1]; exact lth23.1)
            have krh27 : hp_K βh27 xh23 = 32 := by rw [sh27.1, sh26.1]; exact kxh23
            refine W.widen (k := 454 + 1 * j142 + 1) (n := 3787 + 4 * j142 + 4) (by omega) (by omega) ?_
            refine q_aasZ (κ := 32) (t := 6) (n := 4) (κv := 8) (r := hp_q 8) (pc' := 164) C Bh27 krh27 (by decide) rfl (by decide) kh27 rfl rfl rfl (vi_of (by omega) (by omega)) rfl (gx_sQ Bh27.2.2 x5h23 (by rw [kh27]; rfl)) dX10_init_163 rfl (fun βh28 Hh28 Lh28 eh28 yh28 Bh28 => ?_)
            have Oh28 : co α a0 11 βh28 [559, 558, 557, 555, 553, 551] [(556, 0), (554, 0), (552, 1), (550, 65521)] := by rw [eh28]; exact co_sQ Oh27
            have Eh28 : βh28 = (hp_sQ (F_X7_init (hp_nw (FL_X10_init_142 α Hs.size a0 j142) (Hs.size + (454 + 1 * j142)) 108) (Hs.size + (454 + 1 * j142 + 1)) (Hs.size + (454 + 1 * j142))) 32 ((hp_N (FL_X10_init_142 α Hs.size a0 j142) 555 a0).getD 0) (j142) (some (Hs.size + (454 + 1 * j142)))) := by rw [eh28, Eh27, uh26, cch23, xxh23]; try rfl
            have Zh28 : Hh28.size = Hs.size + (454 + 1 * j142 + 1 + 0) := yh28.trans Zh27
            obtain ⟨v29, ev29⟩ : ∃ y : Int32, y = vh23 + 1 := ⟨_, rfl⟩
            have qv29 : v29.toInt = vh23.toInt + 1 := by rw [ev29]; exact ii_add (x := vh23) (y := 1) (by rw [show (1 : Int32).toInt = 1 from rfl]; omega) (by rw [show (1 : Int32).toInt = 1 from rfl]; omega)
            refine lv_iinc (v := v29) (lv' := [(1, .int v29), (0, .ref a0)]) hx hb dX10_init_164 hl (k := 1) rfl (by rw [ev29]; rfl) (by decide) rfl (fun ls hl => hp_n (n := 167) rfl ?_)
            refine lv_goto (tgt := 142) hx hb dX10_init_167 (by decide) ?_
            refine W.widen (k := 454 + 1 * (j142 + 1)) (n := 3787 + 4 * (j142 + 1)) (by omega) (by omega) ?_
            exact ih142 _ (by omega) βh28 Hh28 Lh28 Bh28 Oh28 v29 (j142 + 1) (by rw [Eh28]; rfl) (by omega) (by omega) (by omega) rfl ls (lv_sub hl [1, 0] rfl)
          exact J142 _ βh21 Hh21 Lh21 Bh21 Oh21 0 0 (by rw [Eq22]; rfl) (by omega) rfl (by decide) rfl ls (lv_sub hl [1, 0] rfl)
        have cq := il_nle cq
        rw [litn] at cq
        refine lv_aload_n hx hb dX10_init_121 rfl (lv_at hl 0 rfl) (hp_n (n := 122) rfl ?_)
        refine q_get (v := .ref xh21) (κ := 111) (k := 3) (t := 3) (pc' := 125) C Bh21 Oh21.1 fl_X10_27 rfl rfl (by show va_rf (hp_N βh21 553 a0) = _; rw [x1h21]; rfl) dX10_init_122 rfl ?_
        refine lv_iload_n hx hb dX10_init_125 rfl (lv_at hl 1 rfl) (hp_n (n := 126) rfl ?_)
        refine q_newZ (κ := 2) (N := 5) (pc' := 129) C Bh21 cl_X10_25 it_X1 iz_X1 rfl in_2 tyX1_ok df_2 (by decide) rfl rfl rfl (by omega) (by omega) dX10_init_126 rfl (fun q hq => gx_nw Bh21.2.2 (by decide) hq) (fun βh30 ah30 Hh30 fh30 wh30 yh30 eh30 Bh30 => ?_)
        have uh30 : ah30 = Hs.size + (406 + 3 * j112) := by rw [wh30, Zh21]
        have nh30 := gx_new Bh21.2.2 Oh21 fh30
        have Oh30 : co α a0 11 βh30 [559, 558, 557, 555, 553, 551] [(556, 0), (554, 0), (552, 1), (550, 65521)] := by rw [eh30]; exact co_nw Oh21 fh30
        have kh30 : hp_K βh30 ah30 = 102 := by rw [eh30]; exact nw_k
        have zh30 : ∀ φ, hp_I βh30 φ ah30 = 0 := fun φ => by rw [eh30]; exact nw_i
        have sh30 : sa βh21 βh30 xh21 := by rw [eh30]; exact sa_nw (fun q => lth21.1 (by rw [q]; exact fh30))
        have Eh30 : βh30 = (hp_nw (FL_X10_init_112 α Hs.size a0 j112) (Hs.size + (406 + 3 * j112)) 102) := by rw [eh30, Eh21, uh30]; try rfl
        have Zh30 : Hh30.size = Hs.size + (406 + 3 * j112 + 1) := zzk yh30 Zh21 rfl
        refine W.widen (k := 406 + 3 * j112 + 1) (n := 2651 + 71 * j112 + 5) (by omega) (by omega) ?_
        refine lv_dup hx hb dX10_init_129 rfl (hp_n (n := 130) rfl ?_)
        refine q_cvZ (pc' := 133) Bh30 (hp_runIZ (As := []) (rest := [.ref ah30, .int vh21, .ref xh21]) C Bh30 (u_X1_init Γ l βh30 Bh30.2.2.1 Hh30 ah30 kh30 zh30) lb_X1_init rfl li_X1_init lk_X10_62 rfl (by decide) rfl hl.1 rfl (Nat.le_of_ble_eq_true rfl) dX10_init_130 ⟨by omega, by omega⟩) (fun q hq => gx_call Bh30.2.2 hq.1.1 nh30.1) rfl (fun βh31 Hh31 Lh31 yh31 pph31 Bh31 => ?_)
        have ph31 := pph31.1
        have Eh31 : βh31 = (F_X1_init (hp_nw (FL_X10_init_112 α Hs.size a0 j112) (Hs.size + (406 + 3 * j112)) 102) (Hs.size + (406 + 3 * j112 + 1)) (Hs.size + (406 + 3 * j112))) := by rw [pph31.2, Eh30, Zh30, uh30]; try rfl
        have Zh31 : Hh31.size = Hs.size + (406 + 3 * j112 + 1 + 2) := zzk yh31 Zh30 rfl
        have Oh31 : co α a0 11 βh31 [559, 558, 557, 555, 553, 551] [(556, 0), (554, 0), (552, 1), (550, 65521)] := co_call Oh30 ph31.1 nh30.2 (by rw [kh30]; decide)
        have kh31 : hp_K βh31 ah30 = 2 := ph31.2.1
        have sh31 : sa βh30 βh31 xh21 := ph31.1.2 xh21 (fun q => by have := kh30; rw [← q, sh30.1, kxh21] at this; cases this) (by rw [sh30.1]; exact lth21.1)
        have krh31 : hp_K βh31 xh21 = 31 := by rw [sh31.1, sh30.1]; exact kxh21
        refine W.widen (k := 406 + 3 * j112 + 3) (n := 2651 + 71 * j112 + 71) (by omega) (by omega) ?_
        refine q_aasZ (κ := 31) (t := 5) (n := 16) (κv := 2) (r := hp_q 2) (pc' := 134) C Bh31 krh31 (by decide) rfl (by decide) kh31 rfl rfl rfl (vi_of (by omega) (by omega)) rfl (gx_sQ Bh31.2.2 x5h21 (by rw [kh31]; rfl)) dX10_init_133 rfl (fun βh32 Hh32 Lh32 eh32 yh32 Bh32 => ?_)
        have Oh32 : co α a0 11 βh32 [559, 558, 557, 555, 553, 551] [(556, 0), (554, 0), (552, 1), (550, 65521)] := by rw [eh32]; exact co_sQ Oh31
        have Eh32 : βh32 = (hp_sQ (F_X1_init (hp_nw (FL_X10_init_112 α Hs.size a0 j112) (Hs.size + (406 + 3 * j112)) 102) (Hs.size + (406 + 3 * j112 + 1)) (Hs.size + (406 + 3 * j112))) 31 ((hp_N (FL_X10_init_112 α Hs.size a0 j112) 553 a0).getD 0) (j112) (some (Hs.size + (406 + 3 * j112)))) := by rw [eh32, Eh31, uh30, cch21, xxh21]; try rfl
        have Zh32 : Hh32.size = Hs.size + (406 + 3 * j112 + 1 + 2) := yh32.trans Zh31
        obtain ⟨v33, ev33⟩ : ∃ y : Int32, y = vh21 + 1 := ⟨_, rfl⟩
        have qv33 : v33.toInt = vh21.toInt + 1 := by rw [ev33]; exact ii_add (x := vh21) (y := 1) (by rw [show (1 : Int32).toInt = 1 from rfl]; omega) (by rw [show (1 : Int32).toInt = 1 from rfl]; omega)
        refine lv_iinc (v := v33) (lv' := [(1, .int v33), (0, .ref a0)]) hx hb dX10_init_134 hl (k := 1) rfl (by rw [ev33]; rfl) (by decide) rfl (fun ls hl => hp_n (n := 137) rfl ?_)
        refine lv_goto (tgt := 112) hx hb dX10_init_137 (by decide) ?_
        refine W.widen (k := 406 + 3 * (j112 + 1)) (n := 2651 + 71 * (j112 + 1)) (by omega) (by omega) ?_
        exact ih112 _ (by omega) βh32 Hh32 Lh32 Bh32 Oh32 v33 (j112 + 1) (by rw [Eh32]; rfl) (by omega) (by omega) (by omega) rfl ls (lv_sub hl [1, 0] rfl)
      exact J112 _ βh19 Hh19 Lh19 Bh19 Oh19 0 0 (by rw [Eq20]; rfl) (by omega) rfl (by decide) rfl ls (lv_sub hl [1, 0] rfl)
    have cq := il_nle cq
    rw [litn] at cq
    refine lv_aload_n hx hb dX10_init_91 rfl (lv_at hl 0 rfl) (hp_n (n := 92) rfl ?_)
    refine q_get (v := .ref xh19) (κ := 111) (k := 1) (t := 3) (pc' := 95) C Bh19 Oh19.1 fl_X10_18 rfl rfl (by show va_rf (hp_N βh19 551 a0) = _; rw [x1h19]; rfl) dX10_init_92 rfl ?_
    refine lv_iload_n hx hb dX10_init_95 rfl (lv_at hl 1 rfl) (hp_n (n := 96) rfl ?_)
    refine q_newZ (κ := 3) (N := 3) (pc' := 99) C Bh19 cl_X10_16 it_X2 iz_X2 rfl in_3 tyX2_ok df_3 (by decide) rfl rfl rfl (by omega) (by omega) dX10_init_96 rfl (fun q hq => gx_nw Bh19.2.2 (by decide) hq) (fun βh34 ah34 Hh34 fh34 wh34 yh34 eh34 Bh34 => ?_)
    have uh34 : ah34 = Hs.size + (10 + 99 * j82) := by rw [wh34, Zh19]
    have nh34 := gx_new Bh19.2.2 Oh19 fh34
    have Oh34 : co α a0 11 βh34 [559, 558, 557, 555, 553, 551] [(556, 0), (554, 0), (552, 1), (550, 65521)] := by rw [eh34]; exact co_nw Oh19 fh34
    have kh34 : hp_K βh34 ah34 = 103 := by rw [eh34]; exact nw_k
    have zh34 : ∀ φ, hp_I βh34 φ ah34 = 0 := fun φ => by rw [eh34]; exact nw_i
    have sh34 : sa βh19 βh34 xh19 := by rw [eh34]; exact sa_nw (fun q => lth19.1 (by rw [q]; exact fh34))
    have Eh34 : βh34 = (hp_nw (FL_X10_init_82 α Hs.size a0 j82) (Hs.size + (10 + 99 * j82)) 103) := by rw [eh34, Eh19, uh34]; try rfl
    have Zh34 : Hh34.size = Hs.size + (10 + 99 * j82 + 1) := zzk yh34 Zh19 rfl
    refine W.widen (k := 10 + 99 * j82 + 1) (n := 335 + 579 * j82 + 3) (by omega) (by omega) ?_
    refine lv_dup hx hb dX10_init_99 rfl (hp_n (n := 100) rfl ?_)
    refine q_cvZ (pc' := 103) Bh34 (hp_runIZ (As := []) (rest := [.ref ah34, .int vh19, .ref xh19]) C Bh34 (u_X2_init Γ l βh34 Bh34.2.2.1 Hh34 ah34 kh34 zh34) lb_X2_init rfl li_X2_init lk_X10_61 rfl (by decide) rfl hl.1 rfl (Nat.le_of_ble_eq_true rfl) dX10_init_100 ⟨by omega, by omega⟩) (fun q hq => gx_call Bh34.2.2 hq.1.1 nh34.1) rfl (fun βh35 Hh35 Lh35 yh35 pph35 Bh35 => ?_)
    have ph35 := pph35.1
    have Eh35 : βh35 = (F_X2_init (hp_nw (FL_X10_init_82 α Hs.size a0 j82) (Hs.size + (10 + 99 * j82)) 103) (Hs.size + (10 + 99 * j82 + 1)) (Hs.size + (10 + 99 * j82))) := by rw [pph35.2, Eh34, Zh34, uh34]; try rfl
    have Zh35 : Hh35.size = Hs.size + (10 + 99 * j82 + 1 + 98) := zzk yh35 Zh34 rfl
    have Oh35 : co α a0 11 βh35 [559, 558, 557, 555, 553, 551] [(556, 0), (554, 0), (552, 1), (550, 65521)] := co_call Oh34 ph35.1 nh34.2 (by rw [kh34]; decide)
    have kh35 : hp_K βh35 ah34 = 3 := ph35.2.1
    have sh35 : sa βh34 βh35 xh19 := ph35.1.2 xh19 (fun q => by have := kh34; rw [← q, sh34.1, kxh19] at this; cases this) (by rw [sh34.1]; exact lth19.1)
    have krh35 : hp_K βh35 xh19 = 30 := by rw [sh35.1, sh34.1]; exact kxh19
    refine W.widen (k := 10 + 99 * j82 + 99) (n := 335 + 579 * j82 + 579) (by omega) (by omega) ?_
    refine q_aasZ (κ := 30) (t := 4) (n := 4) (κv := 3) (r := hp_q 3) (pc' := 104) C Bh35 krh35 (by decide) rfl (by decide) kh35 rfl rfl rfl (vi_of (by omega) (by omega)) rfl (gx_sQ Bh35.2.2 x5h19 (by rw [kh35]; rfl)) dX10_init_103 rfl (fun βh36 Hh36 Lh36 eh36 yh36 Bh36 => ?_)
    have Oh36 : co α a0 11 βh36 [559, 558, 557, 555, 553, 551] [(556, 0), (554, 0), (552, 1), (550, 65521)] := by rw [eh36]; exact co_sQ Oh35
    have Eh36 : βh36 = (hp_sQ (F_X2_init (hp_nw (FL_X10_init_82 α Hs.size a0 j82) (Hs.size + (10 + 99 * j82)) 103) (Hs.size + (10 + 99 * j82 + 1)) (Hs.size + (10 + 99 * j82))) 30 ((hp_N (FL_X10_init_82 α Hs.size a0 j82) 551 a0).getD 0) (j82) (some (Hs.size + (10 + 99 * j82)))) := by rw [eh36, Eh35, uh34, cch19, xxh19]; try rfl
    have Zh36 : Hh36.size = Hs.size + (10 + 99 * j82 + 1 + 98) := yh36.trans Zh35
    obtain ⟨v37, ev37⟩ : ∃ y : Int32, y = vh19 + 1 := ⟨_, rfl⟩
    have qv37 : v37.toInt = vh19.toInt + 1 := by rw [ev37]; exact ii_add (x := vh19) (y := 1) (by rw [show (1 : Int32).toInt = 1 from rfl]; omega) (by rw [show (1 : Int32).toInt = 1 from rfl]; omega)
    refine lv_iinc (v := v37) (lv' := [(1, .int v37), (0, .ref a0)]) hx hb dX10_init_104 hl (k := 1) rfl (by rw [ev37]; rfl) (by decide) rfl (fun ls hl => hp_n (n := 107) rfl ?_)
    refine lv_goto (tgt := 82) hx hb dX10_init_107 (by decide) ?_
    refine W.widen (k := 10 + 99 * (j82 + 1)) (n := 335 + 579 * (j82 + 1)) (by omega) (by omega) ?_
    exact ih82 _ (by omega) βh36 Hh36 Lh36 Bh36 Oh36 v37 (j82 + 1) (by rw [Eh36]; rfl) (by omega) (by omega) (by omega) rfl ls (lv_sub hl [1, 0] rfl)
  exact J82 _ βh18 Hh18 Lh18 Bh18 Oh18 0 0 (by rw [Eh18]; rfl) (by omega) rfl (by decide) rfl ls (lv_sub hl [1, 0] rfl)
def F_X11_init_0 (α : hp_T) (h a0 : Nat) : hp_T := α
def F_X11_init_1 (α : hp_T) (h a0 : Nat) : hp_T := hp_sI (F_X11_init_0 α h a0) 600 a0 0
def F_X11_init_2 (α : hp_T) (h a0 : Nat) : hp_T := hp_nw (F_X11_init_1 α h a0) (h + (0)) 111
def F_X11_init_3 (α : hp_T) (h a0 : Nat) : hp_T := F_X10_init (F_X11_init_2 α h a0) (h + (1)) (h + (0))
def F_X11_init_4 (α : hp_T) (h a0 : Nat) : hp_T := hp_sN (F_X11_init_3 α h a0) 601 a0 (some (h + (0)))
def F_X11_init_5 (α : hp_T) (h a0 : Nat) : hp_T := hp_nw (F_X11_init_4 α h a0) (h + (459)) 111
def F_X11_init_6 (α : hp_T) (h a0 : Nat) : hp_T := F_X10_init (F_X11_init_5 α h a0) (h + (460)) (h + (459))
def F_X11_init_7 (α : hp_T) (h a0 : Nat) : hp_T := hp_sN (F_X11_init_6 α h a0) 602 a0 (some (h + (459)))
def F_X11_init_8 (α : hp_T) (h a0 : Nat) : hp_T := hp_nw (F_X11_init_7 α h a0) (h + (918)) 106
def F_X11_init_9 (α : hp_T) (h a0 : Nat) : hp_T := F_X5_init (F_X11_init_8 α h a0) (h + (919)) (h + (918))
def F_X11_init_10 (α : hp_T) (h a0 : Nat) : hp_T := hp_sN (F_X11_init_9 α h a0) 603 a0 (some (h + (918)))
def F_X11_init_11 (α : hp_T) (h a0 : Nat) : hp_T := hp_nw (F_X11_init_10 α h a0) (h + (920)) 24
def F_X11_init_12 (α : hp_T) (h a0 : Nat) : hp_T := hp_sN (F_X11_init_11 α h a0) 604 a0 (some (h + (920)))
def F_X11_init_13 (α : hp_T) (h a0 : Nat) : hp_T := hp_sI (F_X11_init_12 α h a0) 605 a0 0
def F_X11_init_14 (α : hp_T) (h a0 : Nat) : hp_T := hp_nw (F_X11_init_13 α h a0) (h + (921)) 110
def F_X11_init_15 (α : hp_T) (h a0 : Nat) : hp_T := F_X9_init (F_X11_init_14 α h a0) (h + (922)) (h + (921))
def F_X11_init_16 (α : hp_T) (h a0 : Nat) : hp_T := hp_sN (F_X11_init_15 α h a0) 606 a0 (some (h + (921)))
def F_X11_init_17 (α : hp_T) (h a0 : Nat) : hp_T := hp_nw (F_X11_init_16 α h a0) (h + (923)) 110
def F_X11_init_18 (α : hp_T) (h a0 : Nat) : hp_T := F_X9_init (F_X11_init_17 α h a0) (h + (924)) (h + (923))
def F_X11_init_19 (α : hp_T) (h a0 : Nat) : hp_T := hp_sN (F_X11_init_18 α h a0) 607 a0 (some (h + (923)))
def F_X11_init_20 (α : hp_T) (h a0 : Nat) : hp_T := hp_nw (F_X11_init_19 α h a0) (h + (925)) 106
def F_X11_init_21 (α : hp_T) (h a0 : Nat) : hp_T := F_X5_init (F_X11_init_20 α h a0) (h + (926)) (h + (925))
def F_X11_init_22 (α : hp_T) (h a0 : Nat) : hp_T := hp_sN (F_X11_init_21 α h a0) 608 a0 (some (h + (925)))
def F_X11_init_23 (α : hp_T) (h a0 : Nat) : hp_T := hp_nw (F_X11_init_22 α h a0) (h + (927)) 106
def F_X11_init_24 (α : hp_T) (h a0 : Nat) : hp_T := F_X5_init (F_X11_init_23 α h a0) (h + (928)) (h + (927))
def F_X11_init_25 (α : hp_T) (h a0 : Nat) : hp_T := hp_sN (F_X11_init_24 α h a0) 609 a0 (some (h + (927)))
def F_X11_init_26 (α : hp_T) (h a0 : Nat) : hp_T := hp_nw (F_X11_init_25 α h a0) (h + (929)) 25
def F_X11_init_27 (α : hp_T) (h a0 : Nat) : hp_T := hp_sN (F_X11_init_26 α h a0) 610 a0 (some (h + (929)))
def F_X11_init_28 (α : hp_T) (h a0 : Nat) : hp_T := hp_sI (F_X11_init_27 α h a0) 611 a0 0
def F_X11_init_29 (α : hp_T) (h a0 : Nat) : hp_T := hp_nw (F_X11_init_28 α h a0) (h + (930)) 109
def F_X11_init_30 (α : hp_T) (h a0 : Nat) : hp_T := F_X8_init (F_X11_init_29 α h a0) (h + (931)) (h + (930))
def F_X11_init_31 (α : hp_T) (h a0 : Nat) : hp_T := hp_sN (F_X11_init_30 α h a0) 612 a0 (some (h + (930)))
def F_X11_init_32 (α : hp_T) (h a0 : Nat) : hp_T := hp_nw (F_X11_init_31 α h a0) (h + (934)) 109
def F_X11_init_33 (α : hp_T) (h a0 : Nat) : hp_T := F_X8_init (F_X11_init_32 α h a0) (h + (935)) (h + (934))
def F_X11_init_34 (α : hp_T) (h a0 : Nat) : hp_T := hp_sN (F_X11_init_33 α h a0) 613 a0 (some (h + (934)))
def F_X11_init_35 (α : hp_T) (h a0 : Nat) : hp_T := hp_nw (F_X11_init_34 α h a0) (h + (938)) 106
def F_X11_init_36 (α : hp_T) (h a0 : Nat) : hp_T := F_X5_init (F_X11_init_35 α h a0) (h + (939)) (h + (938))
def F_X11_init_37 (α : hp_T) (h a0 : Nat) : hp_T := hp_sN (F_X11_init_36 α h a0) 614 a0 (some (h + (938)))
def F_X11_init_38 (α : hp_T) (h a0 : Nat) : hp_T := hp_nw (F_X11_init_37 α h a0) (h + (940)) 101
def F_X11_init_39 (α : hp_T) (h a0 : Nat) : hp_T := F_X0_init (F_X11_init_38 α h a0) (h + (941)) (h + (940))
def F_X11_init_40 (α : hp_T) (h a0 : Nat) : hp_T := hp_sN (F_X11_init_39 α h a0) 615 a0 (some (h + (940)))
def F_X11_init_41 (α : hp_T) (h a0 : Nat) : hp_T := hp_nw (F_X11_init_40 α h a0) (h + (943)) 104
def F_X11_init_42 (α : hp_T) (h a0 : Nat) : hp_T := F_X3_init (F_X11_init_41 α h a0) (h + (944)) (h + (943))
def F_X11_init_43 (α : hp_T) (h a0 : Nat) : hp_T := hp_sN (F_X11_init_42 α h a0) 616 a0 (some (h + (943)))
def F_X11_init_44 (α : hp_T) (h a0 : Nat) : hp_T := hp_nw (F_X11_init_43 α h a0) (h + (954)) 26
def F_X11_init_45 (α : hp_T) (h a0 : Nat) : hp_T := hp_sN (F_X11_init_44 α h a0) 617 a0 (some (h + (954)))
def F_X11_init_46 (α : hp_T) (h a0 : Nat) : hp_T := hp_sN (F_X11_init_45 α h a0) 618 a0 none
def F_X11_init (α : hp_T) (h a0 : Nat) : hp_T := hp_cv (F_X11_init_46 α h a0) a0 12
set_option maxRecDepth 100000 in
set_option maxHeartbeats 4000000 in
theorem u_X11_init (Γ : hp_G) (l : Launch) (α : hp_T) (g : GC α) (Hs : Heap) (a0 : Nat) (k0 : hp_K α a0 = 112) (z0 : ∀ φ, hp_I α φ a0 = 0) : Met l yX11_init (hp_ws yX11_init cX11_init 1 none) (hp_rm 4 955 10077) (hp_PcH Γ α Hs [.ref a0]) (hp_QZ Γ (Hs.size + 955) (fun β => (gx a0 α β ∧ hp_K β a0 = 12 ∧ (∀ q ∈ ([(611, 0), (605, 0), (600, 0)] : List (Nat × Int32)), hp_I β q.1 a0 = q.2) ∧ hp_N β 618 a0 = none) ∧ β = F_X11_init α Hs.size a0)) 955 10077 (hp_A Γ) := by
  refine hp_startZ (by decide) ?_
  intro p e s m below meth c C hr hlk B0 hnm hHs
  have Z : s.heap.size = Hs.size + 0 := by rw [hHs]; rfl
  have E : α = F_X11_init_0 α Hs.size a0 := rfl
  have C : hp_C Γ p m c cX11_init 1 s ([.ref a0] : List Value).toArray RX11 := C
  have hx := C.1.1
  have hb := C.1.2.1
  have hown := C.1.2.2.2.1
  have hts := C.1.2.2.2.2
  have B : hp_B Γ (gx a0) s α α s.heap [] := ⟨B0.1, B0.2.1, gx_rf g⟩
  have O : co α a0 12 α [] [] := co_0 k0 z0
  have hl := lv_entry ([.ref a0]) (n := 1) (Nat.le_of_ble_eq_true rfl)
  show W p l e (hp_rm 4 955 10077) s m ([.ref a0] : List Value).toArray below meth c s.heap [] 0 0 (MQ below (hp_QZ Γ (Hs.size + 955) (fun β => (gx a0 α β ∧ hp_K β a0 = 12 ∧ (∀ q ∈ ([(611, 0), (605, 0), (600, 0)] : List (Nat × Int32)), hp_I β q.1 a0 = q.2) ∧ hp_N β 618 a0 = none) ∧ β = F_X11_init α Hs.size a0)) ([.ref a0] : List Value).toArray s 955 10077 (hp_A Γ)) (entryFrame m ([.ref a0] : List Value).toArray 1)
  rw [lg_entry_eq]
  generalize (lg_sl ([.ref a0]) ++ List.replicate (1 - (lg_sl ([.ref a0])).length) Slot.unset).toArray = ls at hl ⊢
  have hl : lv_has ls 1 [(0, .ref a0)] := hl
  refine lv_aload_n hx hb dX11_init_0 rfl (lv_at hl 0 rfl) (hp_n (n := 1) rfl ?_)
  refine q_obj (pc' := 4) C ol_X11 hl.1 rfl (by decide) dX11_init_1 rfl ?_
  refine lv_aload_n hx hb dX11_init_4 rfl (lv_at hl 0 rfl) (hp_n (n := 5) rfl ?_)
  refine lv_iconst (v := 0) hx hb dX11_init_5 (by decide) (hp_n (n := 6) rfl ?_)
  refine q_putiZ (κ := 112) (k := 0) (φ := 600) (pc' := 9) C B O.1 fl_X11_9 rfl rfl rfl rfl rfl rfl (gx_sI B.2.2 (gc_i0 _)) dX11_init_6 rfl (fun βh1 Hh1 Lh1 eh1 yh1 Bh1 => ?_)
  have Oh1 : co α a0 12 βh1 [] [(600, 0)] := by rw [eh1]; exact co_sI O (by decide)
  have Eh1 : βh1 = (F_X11_init_1 α Hs.size a0) := by rw [eh1, E]; try rfl
  have Zh1 : Hh1.size = Hs.size + (0) := yh1.trans Z
  refine lv_aload_n hx hb dX11_init_9 rfl (lv_at hl 0 rfl) (hp_n (n := 10) rfl ?_)
  refine q_newZ (κ := 11) (N := 10) (pc' := 13) C Bh1 cl_X11_13 it_X10 iz_X10 rfl in_11 tyX10_ok df_11 (by decide) rfl rfl rfl (Nat.le_of_ble_eq_true rfl) (Nat.le_of_ble_eq_true rfl) dX11_init_10 rfl (fun q hq => gx_nw Bh1.2.2 (by decide) hq) (fun βh2 ah2 Hh2 fh2 wh2 yh2 eh2 Bh2 => ?_)
  have uh2 : ah2 = Hs.size + (0) := by rw [wh2, Zh1]
  have nh2 := gx_new Bh1.2.2 Oh1 fh2
  have Oh2 : co α a0 12 βh2 [] [(600, 0)] := by rw [eh2]; exact co_nw Oh1 fh2
  have kh2 : hp_K βh2 ah2 = 111 := by rw [eh2]; exact nw_k
  have zh2 : ∀ φ, hp_I βh2 φ ah2 = 0 := fun φ => by rw [eh2]; exact nw_i
  have Eh2 : βh2 = (F_X11_init_2 α Hs.size a0) := by rw [eh2, Eh1, uh2]; try rfl
  have Zh2 : Hh2.size = Hs.size + (1) := zzk yh2 Zh1 rfl
  refine W.widen (k := 1) (n := 10) (Nat.le_of_ble_eq_true rfl) (Nat.le_of_ble_eq_true rfl) ?_
  refine lv_dup hx hb dX11_init_13 rfl (hp_n (n := 14) rfl ?_)
  refine q_cvZ (pc' := 17) Bh2 (hp_runIZ (As := []) (rest := [.ref ah2, .ref a0]) C Bh2 (u_X10_init Γ l βh2 Bh2.2.2.1 Hh2 ah2 kh2 zh2) lb_X10_init rfl li_X10_init lk_X11_15 rfl (by decide) rfl hl.1 rfl (Nat.le_of_ble_eq_true rfl) dX11_init_14 ⟨(Nat.le_of_ble_eq_true rfl), (Nat.le_of_ble_eq_true rfl)⟩) (fun q hq => gx_call Bh2.2.2 hq.1.1 nh2.1) rfl (fun βh3 Hh3 Lh3 yh3 pph3 Bh3 => ?_)
  have ph3 := pph3.1
  have Eh3 : βh3 = (F_X11_init_3 α Hs.size a0) := by rw [pph3.2, Eh2, Zh2, uh2]; try rfl
  have Zh3 : Hh3.size = Hs.size + (459) := zzk yh3 Zh2 rfl
  have Oh3 : co α a0 12 βh3 [] [(600, 0)] := co_call Oh2 ph3.1 nh2.2 (by rw [kh2]; decide)
  have kh3 : hp_K βh3 ah2 = 11 := ph3.2.1
  refine W.widen (k := 459) (n := 3813) (Nat.le_of_ble_eq_true rfl) (Nat.le_of_ble_eq_true rfl) ?_
  refine q_putnZ (κ := 112) (k := 1) (φ := 601) (pc' := 20) C Bh3 Oh3.1 fl_X11_16 rfl rfl rfl rfl rfl rfl (gx_sN Bh3.2.2 Oh3) dX11_init_17 rfl (fun βh4 Hh4 Lh4 eh4 yh4 Bh4 => ?_)
  have Oh4 : co α a0 12 βh4 [601] [(600, 0)] := by rw [eh4]; exact co_sN Oh3 ⟨(Or.inl (by rw [kh3]; rfl)), by rw [kh3]; decide, by rw [kh3]; decide, nh2.1, (by rw [kh3]; intro q; exact absurd q (by decide))⟩
  have Eh4 : βh4 = (F_X11_init_4 α Hs.size a0) := by rw [eh4, Eh3, uh2]; try rfl
  have Zh4 : Hh4.size = Hs.size + (459) := yh4.trans Zh3
  refine lv_aload_n hx hb dX11_init_20 rfl (lv_at hl 0 rfl) (hp_n (n := 21) rfl ?_)
  refine q_newZ (κ := 11) (N := 10) (pc' := 24) C Bh4 cl_X11_13 it_X10 iz_X10 rfl in_11 tyX10_ok df_11 (by decide) rfl rfl rfl (Nat.le_of_ble_eq_true rfl) (Nat.le_of_ble_eq_true rfl) dX11_init_21 rfl (fun q hq => gx_nw Bh4.2.2 (by decide) hq) (fun βh5 ah5 Hh5 fh5 wh5 yh5 eh5 Bh5 => ?_)
  have uh5 : ah5 = Hs.size + (459) := by rw [wh5, Zh4]
  have nh5 := gx_new Bh4.2.2 Oh4 fh5
  have Oh5 : co α a0 12 βh5 [601] [(600, 0)] := by rw [eh5]; exact co_nw Oh4 fh5
  have kh5 : hp_K βh5 ah5 = 111 := by rw [eh5]; exact nw_k
  have zh5 : ∀ φ, hp_I βh5 φ ah5 = 0 := fun φ => by rw [eh5]; exact nw_i
  have Eh5 : βh5 = (F_X11_init_5 α Hs.size a0) := by rw [eh5, Eh4, uh5]; try rfl
  have Zh5 : Hh5.size = Hs.size + (460) := zzk yh5 Zh4 rfl
  refine W.widen (k := 460) (n := 3823) (Nat.le_of_ble_eq_true rfl) (Nat.le_of_ble_eq_true rfl) ?_
  refine lv_dup hx hb dX11_init_24 rfl (hp_n (n := 25) rfl ?_)
  refine q_cvZ (pc' := 28) Bh5 (hp_runIZ (As := []) (rest := [.ref ah5, .ref a0]) C Bh5 (u_X10_init Γ l βh5 Bh5.2.2.1 Hh5 ah5 kh5 zh5) lb_X10_init rfl li_X10_init lk_X11_15 rfl (by decide) rfl hl.1 rfl (Nat.le_of_ble_eq_true rfl) dX11_init_25 ⟨(Nat.le_of_ble_eq_true rfl), (Nat.le_of_ble_eq_true rfl)⟩) (fun q hq => gx_call Bh5.2.2 hq.1.1 nh5.1) rfl (fun βh6 Hh6 Lh6 yh6 pph6 Bh6 => ?_)
  have ph6 := pph6.1
  have Eh6 : βh6 = (F_X11_init_6 α Hs.size a0) := by rw [pph6.2, Eh5, Zh5, uh5]; try rfl
  have Zh6 : Hh6.size = Hs.size + (918) := zzk yh6 Zh5 rfl
  have Oh6 : co α a0 12 βh6 [601] [(600, 0)] := co_call Oh5 ph6.1 nh5.2 (by rw [kh5]; decide)
  have kh6 : hp_K βh6 ah5 = 11 := ph6.2.1
  refine W.widen (k := 918) (n := 7626) (Nat.le_of_ble_eq_true rfl) (Nat.le_of_ble_eq_true rfl) ?_
  refine q_putnZ (κ := 112) (k := 2) (φ := 602) (pc' := 31) C Bh6 Oh6.1 fl_X11_20 rfl rfl rfl rfl rfl rfl (gx_sN Bh6.2.2 Oh6) dX11_init_28 rfl (fun βh7 Hh7 Lh7 eh7 yh7 Bh7 => ?_)
  have Oh7 : co α a0 12 βh7 [602, 601] [(600, 0)] := by rw [eh7]; exact co_sN Oh6 ⟨(Or.inl (by rw [kh6]; rfl)), by rw [kh6]; decide, by rw [kh6]; decide, nh5.1, (by rw [kh6]; intro q; exact absurd q (by decide))⟩
  have Eh7 : βh7 = (F_X11_init_7 α Hs.size a0) := by rw [eh7, Eh6, uh5]; try rfl
  have Zh7 : Hh7.size = Hs.size + (918) := yh7.trans Zh6
  refine lv_aload_n hx hb dX11_init_31 rfl (lv_at hl 0 rfl) (hp_n (n := 32) rfl ?_)
  refine q_newZ (κ := 6) (N := 2) (pc' := 35) C Bh7 cl_X11_23 it_X5 iz_X5 rfl in_6 tyX5_ok df_6 (by decide) rfl rfl rfl (Nat.le_of_ble_eq_true rfl) (Nat.le_of_ble_eq_true rfl) dX11_init_32 rfl (fun q hq => gx_nw Bh7.2.2 (by decide) hq) (fun βh8 ah8 Hh8 fh8 wh8 yh8 eh8 Bh8 => ?_)
  have uh8 : ah8 = Hs.size + (918) := by rw [wh8, Zh7]
  have nh8 := gx_new Bh7.2.2 Oh7 fh8
  have Oh8 : co α a0 12 βh8 [602, 601] [(600, 0)] := by rw [eh8]; exact co_nw Oh7 fh8
  have kh8 : hp_K βh8 ah8 = 106 := by rw [eh8]; exact nw_k
  have zh8 : ∀ φ, hp_I βh8 φ ah8 = 0 := fun φ => by rw [eh8]; exact nw_i
  have Eh8 : βh8 = (F_X11_init_8 α Hs.size a0) := by rw [eh8, Eh7, uh8]; try rfl
  have Zh8 : Hh8.size = Hs.size + (919) := zzk yh8 Zh7 rfl
  refine W.widen (k := 919) (n := 7628) (Nat.le_of_ble_eq_true rfl) (Nat.le_of_ble_eq_true rfl) ?_
  refine lv_dup hx hb dX11_init_35 rfl (hp_n (n := 36) rfl ?_)
  refine q_cvZ (pc' := 39) Bh8 (hp_runIZ (As := []) (rest := [.ref ah8, .ref a0]) C Bh8 (u_X5_init Γ l βh8 Bh8.2.2.1 Hh8 ah8 kh8 zh8) lb_X5_init rfl li_X5_init lk_X11_25 rfl (by decide) rfl hl.1 rfl (Nat.le_of_ble_eq_true rfl) dX11_init_36 ⟨(Nat.le_of_ble_eq_true rfl), (Nat.le_of_ble_eq_true rfl)⟩) (fun q hq => gx_call Bh8.2.2 hq.1.1 nh8.1) rfl (fun βh9 Hh9 Lh9 yh9 pph9 Bh9 => ?_)
  have ph9 := pph9.1
  have Eh9 : βh9 = (F_X11_init_9 α Hs.size a0) := by rw [pph9.2, Eh8, Zh8, uh8]; try rfl
  have Zh9 : Hh9.size = Hs.size + (920) := zzk yh9 Zh8 rfl
  have Oh9 : co α a0 12 βh9 [602, 601] [(600, 0)] := co_call Oh8 ph9.1 nh8.2 (by rw [kh8]; decide)
  have kh9 : hp_K βh9 ah8 = 6 := ph9.2.1
  refine W.widen (k := 920) (n := 7692) (Nat.le_of_ble_eq_true rfl) (Nat.le_of_ble_eq_true rfl) ?_
  refine q_putnFZ (κ := 112) (k := 3) (φ := 603) (pc' := 42) C Bh9 Oh9.1 fl_X11_26 rfl rfl rfl hnm rfl rfl rfl rfl (gx_sN Bh9.2.2 Oh9) dX11_init_39 rfl (fun βh10 Hh10 Lh10 eh10 yh10 Bh10 => ?_)
  have Oh10 : co α a0 12 βh10 [603, 602, 601] [(600, 0)] := by rw [eh10]; exact co_sN Oh9 ⟨(Or.inl (by rw [kh9]; rfl)), by rw [kh9]; decide, by rw [kh9]; decide, nh8.1, (by rw [kh9]; intro q; exact absurd q (by decide))⟩
  have Eh10 : βh10 = (F_X11_init_10 α Hs.size a0) := by rw [eh10, Eh9, uh8]; try rfl
  have Zh10 : Hh10.size = Hs.size + (920) := yh10.trans Zh9
  refine lv_aload_n hx hb dX11_init_42 rfl (lv_at hl 0 rfl) (hp_n (n := 43) rfl ?_)
  refine lv_sipush (v := 900) hx hb dX11_init_43 (by decide) (hp_n (n := 46) rfl ?_)
  refine q_newaZ (κ := 24) (t := 1) (n := 900) (atype := .byte) (ty := .byte) (dv := .int 0) (pc' := 48) C Bh10 ac_byte rfl (by decide) rfl rfl (fun _ _ q => q) rfl (fun _ cA => nw_cx (by decide) cA) (by decide) (by decide +kernel) (Nat.le_of_ble_eq_true rfl) rfl (Nat.le_of_ble_eq_true rfl) (Nat.le_of_ble_eq_true rfl) dX11_init_46 rfl (fun q hq => gx_nw Bh10.2.2 (by decide) hq) (fun βh11 ah11 Hh11 fh11 wh11 yh11 eh11 Bh11 => ?_)
  have uh11 : ah11 = Hs.size + (920) := by rw [wh11, Zh10]
  have nh11 := gx_new Bh10.2.2 Oh10 fh11
  have Oh11 : co α a0 12 βh11 [603, 602, 601] [(600, 0)] := by rw [eh11]; exact co_nw Oh10 fh11
  have kh11 : hp_K βh11 ah11 = 24 := by rw [eh11]; exact nw_k
  have Eh11 : βh11 = (F_X11_init_11 α Hs.size a0) := by rw [eh11, Eh10, uh11]; try rfl
  have Zh11 : Hh11.size = Hs.size + (921) := zzk yh11 Zh10 rfl
  refine W.widen (k := 921) (n := 8592) (Nat.le_of_ble_eq_true rfl) (Nat.le_of_ble_eq_true rfl) ?_
  refine q_putnFZ (κ := 112) (k := 4) (φ := 604) (pc' := 51) C Bh11 Oh11.1 fl_X11_30 rfl rfl rfl hnm rfl rfl rfl rfl (gx_sN Bh11.2.2 Oh11) dX11_init_48 rfl (fun βh12 Hh12 Lh12 eh12 yh12 Bh12 => ?_)
  have Oh12 : co α a0 12 βh12 [604, 603, 602, 601] [(600, 0)] := by rw [eh12]; exact co_sN Oh11 ⟨(Or.inl (by rw [kh11]; rfl)), by rw [kh11]; decide, by rw [kh11]; decide, nh11.1, (fun _ j => by rw [eh11]; exact nw_e)⟩
  have Eh12 : βh12 = (F_X11_init_12 α Hs.size a0) := by rw [eh12, Eh11, uh11]; try rfl
  have Zh12 : Hh12.size = Hs.size + (921) := yh12.trans Zh11
  refine lv_aload_n hx hb dX11_init_51 rfl (lv_at hl 0 rfl) (hp_n (n := 52) rfl ?_)
  refine lv_iconst (v := 0) hx hb dX11_init_52 (by decide) (hp_n (n := 53) rfl ?_)
  refine q_putiZ (κ := 112) (k := 5) (φ := 605) (pc' := 56) C Bh12 Oh12.1 fl_X11_34 rfl rfl rfl rfl rfl rfl (gx_sI Bh12.2.2 (gc_i0 _)) dX11_init_53 rfl (fun βh13 Hh13 Lh13 eh13 yh13 Bh13 => ?_)
  have Oh13 : co α a0 12 βh13 [604, 603, 602, 601] [(605, 0), (600, 0)] := by rw [eh13]; exact co_sI Oh12 (by decide)
  have Eh13 : βh13 = (F_X11_init_13 α Hs.size a0) := by rw [eh13, Eh12]; try rfl
  have Zh13 : Hh13.size = Hs.size + (921) := yh13.trans Zh12
  refine lv_aload_n hx hb dX11_init_56 rfl (lv_at hl 0 rfl) (hp_n (n := 57) rfl ?_)
  refine q_newZ (κ := 10) (N := 2) (pc' := 60) C Bh13 cl_X11_37 it_X9 iz_X9 rfl in_10 tyX9_ok df_10 (by decide) rfl rfl rfl (Nat.le_of_ble_eq_true rfl) (Nat.le_of_ble_eq_true rfl) dX11_init_57 rfl (fun q hq => gx_nw Bh13.2.2 (by decide) hq) (fun βh14 ah14 Hh14 fh14 wh14 yh14 eh14 Bh14 => ?_)
  have uh14 : ah14 = Hs.size + (921) := by rw [wh14, Zh13]
  have nh14 := gx_new Bh13.2.2 Oh13 fh14
  have Oh14 : co α a0 12 βh14 [604, 603, 602, 601] [(605, 0), (600, 0)] := by rw [eh14]; exact co_nw Oh13 fh14
  have kh14 : hp_K βh14 ah14 = 110 := by rw [eh14]; exact nw_k
  have zh14 : ∀ φ, hp_I βh14 φ ah14 = 0 := fun φ => by rw [eh14]; exact nw_i
  have Eh14 : βh14 = (F_X11_init_14 α Hs.size a0) := by rw [eh14, Eh13, uh14]; try rfl
  have Zh14 : Hh14.size = Hs.size + (922) := zzk yh14 Zh13 rfl
  refine W.widen (k := 922) (n := 8594) (Nat.le_of_ble_eq_true rfl) (Nat.le_of_ble_eq_true rfl) ?_
  refine lv_dup hx hb dX11_init_60 rfl (hp_n (n := 61) rfl ?_)
  refine q_cvZ (pc' := 64) Bh14 (hp_runIZ (As := []) (rest := [.ref ah14, .ref a0]) C Bh14 (u_X9_init Γ l βh14 Bh14.2.2.1 Hh14 ah14 kh14 zh14) lb_X9_init rfl li_X9_init lk_X11_39 rfl (by decide) rfl hl.1 rfl (Nat.le_of_ble_eq_true rfl) dX11_init_61 ⟨(Nat.le_of_ble_eq_true rfl), (Nat.le_of_ble_eq_true rfl)⟩) (fun q hq => gx_call Bh14.2.2 hq.1.1 nh14.1) rfl (fun βh15 Hh15 Lh15 yh15 pph15 Bh15 => ?_)
  have ph15 := pph15.1
  have Eh15 : βh15 = (F_X11_init_15 α Hs.size a0) := by rw [pph15.2, Eh14, Zh14, uh14]; try rfl
  have Zh15 : Hh15.size = Hs.size + (923) := zzk yh15 Zh14 rfl
  have Oh15 : co α a0 12 βh15 [604, 603, 602, 601] [(605, 0), (600, 0)] := co_call Oh14 ph15.1 nh14.2 (by rw [kh14]; decide)
  have kh15 : hp_K βh15 ah14 = 10 := ph15.2.1
  refine W.widen (k := 923) (n := 8602) (Nat.le_of_ble_eq_true rfl) (Nat.le_of_ble_eq_true rfl) ?_
  refine q_putnZ (κ := 112) (k := 6) (φ := 606) (pc' := 67) C Bh15 Oh15.1 fl_X11_40 rfl rfl rfl rfl rfl rfl (gx_sN Bh15.2.2 Oh15) dX11_init_64 rfl (fun βh16 Hh16 Lh16 eh16 yh16 Bh16 => ?_)
  have Oh16 : co α a0 12 βh16 [606, 604, 603, 602, 601] [(605, 0), (600, 0)] := by rw [eh16]; exact co_sN Oh15 ⟨(Or.inl (by rw [kh15]; rfl)), by rw [kh15]; decide, by rw [kh15]; decide, nh14.1, (by rw [kh15]; intro q; exact absurd q (by decide))⟩
  have Eh16 : βh16 = (F_X11_init_16 α Hs.size a0) := by rw [eh16, Eh15, uh14]; try rfl
  have Zh16 : Hh16.size = Hs.size + (923) := yh16.trans Zh15
  refine lv_aload_n hx hb dX11_init_67 rfl (lv_at hl 0 rfl) (hp_n (n := 68) rfl ?_)
  refine q_newZ (κ := 10) (N := 2) (pc' := 71) C Bh16 cl_X11_37 it_X9 iz_X9 rfl in_10 tyX9_ok df_10 (by decide) rfl rfl rfl (Nat.le_of_ble_eq_true rfl) (Nat.le_of_ble_eq_true rfl) dX11_init_68 rfl (fun q hq => gx_nw Bh16.2.2 (by decide) hq) (fun βh17 ah17 Hh17 fh17 wh17 yh17 eh17 Bh17 => ?_)
  have uh17 : ah17 = Hs.size + (923) := by rw [wh17, Zh16]
  have nh17 := gx_new Bh16.2.2 Oh16 fh17
  have Oh17 : co α a0 12 βh17 [606, 604, 603, 602, 601] [(605, 0), (600, 0)] := by rw [eh17]; exact co_nw Oh16 fh17
  have kh17 : hp_K βh17 ah17 = 110 := by rw [eh17]; exact nw_k
  have zh17 : ∀ φ, hp_I βh17 φ ah17 = 0 := fun φ => by rw [eh17]; exact nw_i
  have Eh17 : βh17 = (F_X11_init_17 α Hs.size a0) := by rw [eh17, Eh16, uh17]; try rfl
  have Zh17 : Hh17.size = Hs.size + (924) := zzk yh17 Zh16 rfl
  refine W.widen (k := 924) (n := 8604) (Nat.le_of_ble_eq_true rfl) (Nat.le_of_ble_eq_true rfl) ?_
  refine lv_dup hx hb dX11_init_71 rfl (hp_n (n := 72) rfl ?_)
  refine q_cvZ (pc' := 75) Bh17 (hp_runIZ (As := []) (rest := [.ref ah17, .ref a0]) C Bh17 (u_X9_init Γ l βh17 Bh17.2.2.1 Hh17 ah17 kh17 zh17) lb_X9_init rfl li_X9_init lk_X11_39 rfl (by decide) rfl hl.1 rfl (Nat.le_of_ble_eq_true rfl) dX11_init_72 ⟨(Nat.le_of_ble_eq_true rfl), (Nat.le_of_ble_eq_true rfl)⟩) (fun q hq => gx_call Bh17.2.2 hq.1.1 nh17.1) rfl (fun βh18 Hh18 Lh18 yh18 pph18 Bh18 => ?_)
  have ph18 := pph18.1
  have Eh18 : βh18 = (F_X11_init_18 α Hs.size a0) := by rw [pph18.2, Eh17, Zh17, uh17]; try rfl
  have Zh18 : Hh18.size = Hs.size + (925) := zzk yh18 Zh17 rfl
  have Oh18 : co α a0 12 βh18 [606, 604, 603, 602, 601] [(605, 0), (600, 0)] := co_call Oh17 ph18.1 nh17.2 (by rw [kh17]; decide)
  have kh18 : hp_K βh18 ah17 = 10 := ph18.2.1
  refine W.widen (k := 925) (n := 8612) (Nat.le_of_ble_eq_true rfl) (Nat.le_of_ble_eq_true rfl) ?_
  refine q_putnZ (κ := 112) (k := 7) (φ := 607) (pc' := 78) C Bh18 Oh18.1 fl_X11_44 rfl rfl rfl rfl rfl rfl (gx_sN Bh18.2.2 Oh18) dX11_init_75 rfl (fun βh19 Hh19 Lh19 eh19 yh19 Bh19 => ?_)
  have Oh19 : co α a0 12 βh19 [607, 606, 604, 603, 602, 601] [(605, 0), (600, 0)] := by rw [eh19]; exact co_sN Oh18 ⟨(Or.inl (by rw [kh18]; rfl)), by rw [kh18]; decide, by rw [kh18]; decide, nh17.1, (by rw [kh18]; intro q; exact absurd q (by decide))⟩
  have Eh19 : βh19 = (F_X11_init_19 α Hs.size a0) := by rw [eh19, Eh18, uh17]; try rfl
  have Zh19 : Hh19.size = Hs.size + (925) := yh19.trans Zh18
  refine lv_aload_n hx hb dX11_init_78 rfl (lv_at hl 0 rfl) (hp_n (n := 79) rfl ?_)
  refine q_newZ (κ := 6) (N := 2) (pc' := 82) C Bh19 cl_X11_23 it_X5 iz_X5 rfl in_6 tyX5_ok df_6 (by decide) rfl rfl rfl (Nat.le_of_ble_eq_true rfl) (Nat.le_of_ble_eq_true rfl) dX11_init_79 rfl (fun q hq => gx_nw Bh19.2.2 (by decide) hq) (fun βh20 ah20 Hh20 fh20 wh20 yh20 eh20 Bh20 => ?_)
  have uh20 : ah20 = Hs.size + (925) := by rw [wh20, Zh19]
  have nh20 := gx_new Bh19.2.2 Oh19 fh20
  have Oh20 : co α a0 12 βh20 [607, 606, 604, 603, 602, 601] [(605, 0), (600, 0)] := by rw [eh20]; exact co_nw Oh19 fh20
  have kh20 : hp_K βh20 ah20 = 106 := by rw [eh20]; exact nw_k
  have zh20 : ∀ φ, hp_I βh20 φ ah20 = 0 := fun φ => by rw [eh20]; exact nw_i
  have Eh20 : βh20 = (F_X11_init_20 α Hs.size a0) := by rw [eh20, Eh19, uh20]; try rfl
  have Zh20 : Hh20.size = Hs.size + (926) := zzk yh20 Zh19 rfl
  refine W.widen (k := 926) (n := 8614) (Nat.le_of_ble_eq_true rfl) (Nat.le_of_ble_eq_true rfl) ?_
  refine lv_dup hx hb dX11_init_82 rfl (hp_n (n := 83) rfl ?_)
  refine q_cvZ (pc' := 86) Bh20 (hp_runIZ (As := []) (rest := [.ref ah20, .ref a0]) C Bh20 (u_X5_init Γ l βh20 Bh20.2.2.1 Hh20 ah20 kh20 zh20) lb_X5_init rfl li_X5_init lk_X11_25 rfl (by decide) rfl hl.1 rfl (Nat.le_of_ble_eq_true rfl) dX11_init_83 ⟨(Nat.le_of_ble_eq_true rfl), (Nat.le_of_ble_eq_true rfl)⟩) (fun q hq => gx_call Bh20.2.2 hq.1.1 nh20.1) rfl (fun βh21 Hh21 Lh21 yh21 pph21 Bh21 => ?_)
  have ph21 := pph21.1
  have Eh21 : βh21 = (F_X11_init_21 α Hs.size a0) := by rw [pph21.2, Eh20, Zh20, uh20]; try rfl
  have Zh21 : Hh21.size = Hs.size + (927) := zzk yh21 Zh20 rfl
  have Oh21 : co α a0 12 βh21 [607, 606, 604, 603, 602, 601] [(605, 0), (600, 0)] := co_call Oh20 ph21.1 nh20.2 (by rw [kh20]; decide)
  have kh21 : hp_K βh21 ah20 = 6 := ph21.2.1
  refine W.widen (k := 927) (n := 8678) (Nat.le_of_ble_eq_true rfl) (Nat.le_of_ble_eq_true rfl) ?_
  refine q_putnZ (κ := 112) (k := 8) (φ := 608) (pc' := 89) C Bh21 Oh21.1 fl_X11_47 rfl rfl rfl rfl rfl rfl (gx_sN Bh21.2.2 Oh21) dX11_init_86 rfl (fun βh22 Hh22 Lh22 eh22 yh22 Bh22 => ?_)
  have Oh22 : co α a0 12 βh22 [608, 607, 606, 604, 603, 602, 601] [(605, 0), (600, 0)] := by rw [eh22]; exact co_sN Oh21 ⟨(Or.inl (by rw [kh21]; rfl)), by rw [kh21]; decide, by rw [kh21]; decide, nh20.1, (by rw [kh21]; intro q; exact absurd q (by decide))⟩
  have Eh22 : βh22 = (F_X11_init_22 α Hs.size a0) := by rw [eh22, Eh21, uh20]; try rfl
  have Zh22 : Hh22.size = Hs.size + (927) := yh22.trans Zh21
  refine lv_aload_n hx hb dX11_init_89 rfl (lv_at hl 0 rfl) (hp_n (n := 90) rfl ?_)
  refine q_newZ (κ := 6) (N := 2) (pc' := 93) C Bh22 cl_X11_23 it_X5 iz_X5 rfl in_6 tyX5_ok df_6 (by decide) rfl rfl rfl (Nat.le_of_ble_eq_true rfl) (Nat.le_of_ble_eq_true rfl) dX11_init_90 rfl (fun q hq => gx_nw Bh22.2.2 (by decide) hq) (fun βh23 ah23 Hh23 fh23 wh23 yh23 eh23 Bh23 => ?_)
  have uh23 : ah23 = Hs.size + (927) := by rw [wh23, Zh22]
  have nh23 := gx_new Bh22.2.2 Oh22 fh23
  have Oh23 : co α a0 12 βh23 [608, 607, 606, 604, 603, 602, 601] [(605, 0), (600, 0)] := by rw [eh23]; exact co_nw Oh22 fh23
  have kh23 : hp_K βh23 ah23 = 106 := by rw [eh23]; exact nw_k
  have zh23 : ∀ φ, hp_I βh23 φ ah23 = 0 := fun φ => by rw [eh23]; exact nw_i
  have Eh23 : βh23 = (F_X11_init_23 α Hs.size a0) := by rw [eh23, Eh22, uh23]; try rfl
  have Zh23 : Hh23.size = Hs.size + (928) := zzk yh23 Zh22 rfl
  refine W.widen (k := 928) (n := 8680) (Nat.le_of_ble_eq_true rfl) (Nat.le_of_ble_eq_true rfl) ?_
  refine lv_dup hx hb dX11_init_93 rfl (hp_n (n := 94) rfl ?_)
  refine q_cvZ (pc' := 97) Bh23 (hp_runIZ (As := []) (rest := [.ref ah23, .ref a0]) C Bh23 (u_X5_init Γ l βh23 Bh23.2.2.1 Hh23 ah23 kh23 zh23) lb_X5_init rfl li_X5_init lk_X11_25 rfl (by decide) rfl hl.1 rfl (Nat.le_of_ble_eq_true rfl) dX11_init_94 ⟨(Nat.le_of_ble_eq_true rfl), (Nat.le_of_ble_eq_true rfl)⟩) (fun q hq => gx_call Bh23.2.2 hq.1.1 nh23.1) rfl (fun βh24 Hh24 Lh24 yh24 pph24 Bh24 => ?_)
  have ph24 := pph24.1
  have Eh24 : βh24 = (F_X11_init_24 α Hs.size a0) := by rw [pph24.2, Eh23, Zh23, uh23]; try rfl
  have Zh24 : Hh24.size = Hs.size + (929) := zzk yh24 Zh23 rfl
  have Oh24 : co α a0 12 βh24 [608, 607, 606, 604, 603, 602, 601] [(605, 0), (600, 0)] := co_call Oh23 ph24.1 nh23.2 (by rw [kh23]; decide)
  have kh24 : hp_K βh24 ah23 = 6 := ph24.2.1
  refine W.widen (k := 929) (n := 8744) (Nat.le_of_ble_eq_true rfl) (Nat.le_of_ble_eq_true rfl) ?_
  refine q_putnZ (κ := 112) (k := 9) (φ := 609) (pc' := 100) C Bh24 Oh24.1 fl_X11_50 rfl rfl rfl rfl rfl rfl (gx_sN Bh24.2.2 Oh24) dX11_init_97 rfl (fun βh25 Hh25 Lh25 eh25 yh25 Bh25 => ?_)
  have Oh25 : co α a0 12 βh25 [609, 608, 607, 606, 604, 603, 602, 601] [(605, 0), (600, 0)] := by rw [eh25]; exact co_sN Oh24 ⟨(Or.inl (by rw [kh24]; rfl)), by rw [kh24]; decide, by rw [kh24]; decide, nh23.1, (by rw [kh24]; intro q; exact absurd q (by decide))⟩
  have Eh25 : βh25 = (F_X11_init_25 α Hs.size a0) := by rw [eh25, Eh24, uh23]; try rfl
  have Zh25 : Hh25.size = Hs.size + (929) := yh25.trans Zh24
  refine lv_aload_n hx hb dX11_init_100 rfl (lv_at hl 0 rfl) (hp_n (n := 101) rfl ?_)
  refine lv_sipush (v := 256) hx hb dX11_init_101 (by decide) (hp_n (n := 104) rfl ?_)
  refine q_newaZ (κ := 25) (t := 1) (n := 256) (atype := .byte) (ty := .byte) (dv := .int 0) (pc' := 106) C Bh25 ac_byte rfl (by decide) rfl rfl (fun _ _ q => q) rfl (fun _ cA => nw_cx (by decide) cA) (by decide) (by decide +kernel) (Nat.le_of_ble_eq_true rfl) rfl (Nat.le_of_ble_eq_true rfl) (Nat.le_of_ble_eq_true rfl) dX11_init_104 rfl (fun q hq => gx_nw Bh25.2.2 (by decide) hq) (fun βh26 ah26 Hh26 fh26 wh26 yh26 eh26 Bh26 => ?_)
  have uh26 : ah26 = Hs.size + (929) := by rw [wh26, Zh25]
  have nh26 := gx_new Bh25.2.2 Oh25 fh26
  have Oh26 : co α a0 12 βh26 [609, 608, 607, 606, 604, 603, 602, 601] [(605, 0), (600, 0)] := by rw [eh26]; exact co_nw Oh25 fh26
  have kh26 : hp_K βh26 ah26 = 25 := by rw [eh26]; exact nw_k
  have Eh26 : βh26 = (F_X11_init_26 α Hs.size a0) := by rw [eh26, Eh25, uh26]; try rfl
  have Zh26 : Hh26.size = Hs.size + (930) := zzk yh26 Zh25 rfl
  refine W.widen (k := 930) (n := 9000) (Nat.le_of_ble_eq_true rfl) (Nat.le_of_ble_eq_true rfl) ?_
  refine q_putnFZ (κ := 112) (k := 10) (φ := 610) (pc' := 109) C Bh26 Oh26.1 fl_X11_53 rfl rfl rfl hnm rfl rfl rfl rfl (gx_sN Bh26.2.2 Oh26) dX11_init_106 rfl (fun βh27 Hh27 Lh27 eh27 yh27 Bh27 => ?_)
  have Oh27 : co α a0 12 βh27 [610, 609, 608, 607, 606, 604, 603, 602, 601] [(605, 0), (600, 0)] := by rw [eh27]; exact co_sN Oh26 ⟨(Or.inl (by rw [kh26]; rfl)), by rw [kh26]; decide, by rw [kh26]; decide, nh26.1, (fun _ j => by rw [eh26]; exact nw_e)⟩
  have Eh27 : βh27 = (F_X11_init_27 α Hs.size a0) := by rw [eh27, Eh26, uh26]; try rfl
  have Zh27 : Hh27.size = Hs.size + (930) := yh27.trans Zh26
  refine lv_aload_n hx hb dX11_init_109 rfl (lv_at hl 0 rfl) (hp_n (n := 110) rfl ?_)
  refine lv_iconst (v := 0) hx hb dX11_init_110 (by decide) (hp_n (n := 111) rfl ?_)
  refine q_putiZ (κ := 112) (k := 11) (φ := 611) (pc' := 114) C Bh27 Oh27.1 fl_X11_56 rfl rfl rfl rfl rfl rfl (gx_sI Bh27.2.2 (gc_i0 _)) dX11_init_111 rfl (fun βh28 Hh28 Lh28 eh28 yh28 Bh28 => ?_)
  have Oh28 : co α a0 12 βh28 [610, 609, 608, 607, 606, 604, 603, 602, 601] [(611, 0), (605, 0), (600, 0)] := by rw [eh28]; exact co_sI Oh27 (by decide)
  have Eh28 : βh28 = (F_X11_init_28 α Hs.size a0) := by rw [eh28, Eh27]; try rfl
  have Zh28 : Hh28.size = Hs.size + (930) := yh28.trans Zh27
  refine lv_aload_n hx hb dX11_init_114 rfl (lv_at hl 0 rfl) (hp_n (n := 115) rfl ?_)
  refine q_newZ (κ := 9) (N := 5) (pc' := 118) C Bh28 cl_X11_59 it_X8 iz_X8 rfl in_9 tyX8_ok df_9 (by decide) rfl rfl rfl (Nat.le_of_ble_eq_true rfl) (Nat.le_of_ble_eq_true rfl) dX11_init_115 rfl (fun q hq => gx_nw Bh28.2.2 (by decide) hq) (fun βh29 ah29 Hh29 fh29 wh29 yh29 eh29 Bh29 => ?_)
  have uh29 : ah29 = Hs.size + (930) := by rw [wh29, Zh28]
  have nh29 := gx_new Bh28.2.2 Oh28 fh29
  have Oh29 : co α a0 12 βh29 [610, 609, 608, 607, 606, 604, 603, 602, 601] [(611, 0), (605, 0), (600, 0)] := by rw [eh29]; exact co_nw Oh28 fh29
  have kh29 : hp_K βh29 ah29 = 109 := by rw [eh29]; exact nw_k
  have zh29 : ∀ φ, hp_I βh29 φ ah29 = 0 := fun φ => by rw [eh29]; exact nw_i
  have Eh29 : βh29 = (F_X11_init_29 α Hs.size a0) := by rw [eh29, Eh28, uh29]; try rfl
  have Zh29 : Hh29.size = Hs.size + (931) := zzk yh29 Zh28 rfl
  refine W.widen (k := 931) (n := 9005) (Nat.le_of_ble_eq_true rfl) (Nat.le_of_ble_eq_true rfl) ?_
  refine lv_dup hx hb dX11_init_118 rfl (hp_n (n := 119) rfl ?_)
  refine q_cvZ (pc' := 122) Bh29 (hp_runIZ (As := []) (rest := [.ref ah29, .ref a0]) C Bh29 (u_X8_init Γ l βh29 Bh29.2.2.1 Hh29 ah29 kh29 zh29) lb_X8_init rfl li_X8_init lk_X11_61 rfl (by decide) rfl hl.1 rfl (Nat.le_of_ble_eq_true rfl) dX11_init_119 ⟨(Nat.le_of_ble_eq_true rfl), (Nat.le_of_ble_eq_true rfl)⟩) (fun q hq => gx_call Bh29.2.2 hq.1.1 nh29.1) rfl (fun βh30 Hh30 Lh30 yh30 pph30 Bh30 => ?_)
  have ph30 := pph30.1
  have Eh30 : βh30 = (F_X11_init_30 α Hs.size a0) := by rw [pph30.2, Eh29, Zh29, uh29]; try rfl
  have Zh30 : Hh30.size = Hs.size + (934) := zzk yh30 Zh29 rfl
  have Oh30 : co α a0 12 βh30 [610, 609, 608, 607, 606, 604, 603, 602, 601] [(611, 0), (605, 0), (600, 0)] := co_call Oh29 ph30.1 nh29.2 (by rw [kh29]; decide)
  have kh30 : hp_K βh30 ah29 = 9 := ph30.2.1
  refine W.widen (k := 934) (n := 9197) (Nat.le_of_ble_eq_true rfl) (Nat.le_of_ble_eq_true rfl) ?_
  refine q_putnFZ (κ := 112) (k := 12) (φ := 612) (pc' := 125) C Bh30 Oh30.1 fl_X11_62 rfl rfl rfl hnm rfl rfl rfl rfl (gx_sN Bh30.2.2 Oh30) dX11_init_122 rfl (fun βh31 Hh31 Lh31 eh31 yh31 Bh31 => ?_)
  have Oh31 : co α a0 12 βh31 [612, 610, 609, 608, 607, 606, 604, 603, 602, 601] [(611, 0), (605, 0), (600, 0)] := by rw [eh31]; exact co_sN Oh30 ⟨(Or.inl (by rw [kh30]; rfl)), by rw [kh30]; decide, by rw [kh30]; decide, nh29.1, (by rw [kh30]; intro q; exact absurd q (by decide))⟩
  have Eh31 : βh31 = (F_X11_init_31 α Hs.size a0) := by rw [eh31, Eh30, uh29]; try rfl
  have Zh31 : Hh31.size = Hs.size + (934) := yh31.trans Zh30
  refine lv_aload_n hx hb dX11_init_125 rfl (lv_at hl 0 rfl) (hp_n (n := 126) rfl ?_)
  refine q_newZ (κ := 9) (N := 5) (pc' := 129) C Bh31 cl_X11_59 it_X8 iz_X8 rfl in_9 tyX8_ok df_9 (by decide) rfl rfl rfl (Nat.le_of_ble_eq_true rfl) (Nat.le_of_ble_eq_true rfl) dX11_init_126 rfl (fun q hq => gx_nw Bh31.2.2 (by decide) hq) (fun βh32 ah32 Hh32 fh32 wh32 yh32 eh32 Bh32 => ?_)
  have uh32 : ah32 = Hs.size + (934) := by rw [wh32, Zh31]
  have nh32 := gx_new Bh31.2.2 Oh31 fh32
  have Oh32 : co α a0 12 βh32 [612, 610, 609, 608, 607, 606, 604, 603, 602, 601] [(611, 0), (605, 0), (600, 0)] := by rw [eh32]; exact co_nw Oh31 fh32
  have kh32 : hp_K βh32 ah32 = 109 := by rw [eh32]; exact nw_k
  have zh32 : ∀ φ, hp_I βh32 φ ah32 = 0 := fun φ => by rw [eh32]; exact nw_i
  have Eh32 : βh32 = (F_X11_init_32 α Hs.size a0) := by rw [eh32, Eh31, uh32]; try rfl
  have Zh32 : Hh32.size = Hs.size + (935) := zzk yh32 Zh31 rfl
  refine W.widen (k := 935) (n := 9202) (Nat.le_of_ble_eq_true rfl) (Nat.le_of_ble_eq_true rfl) ?_
  refine lv_dup hx hb dX11_init_129 rfl (hp_n (n := 130) rfl ?_)
  refine q_cvZ (pc' := 133) Bh32 (hp_runIZ (As := []) (rest := [.ref ah32, .ref a0]) C Bh32 (u_X8_init Γ l βh32 Bh32.2.2.1 Hh32 ah32 kh32 zh32) lb_X8_init rfl li_X8_init lk_X11_61 rfl (by decide) rfl hl.1 rfl (Nat.le_of_ble_eq_true rfl) dX11_init_130 ⟨(Nat.le_of_ble_eq_true rfl), (Nat.le_of_ble_eq_true rfl)⟩) (fun q hq => gx_call Bh32.2.2 hq.1.1 nh32.1) rfl (fun βh33 Hh33 Lh33 yh33 pph33 Bh33 => ?_)
  have ph33 := pph33.1
  have Eh33 : βh33 = (F_X11_init_33 α Hs.size a0) := by rw [pph33.2, Eh32, Zh32, uh32]; try rfl
  have Zh33 : Hh33.size = Hs.size + (938) := zzk yh33 Zh32 rfl
  have Oh33 : co α a0 12 βh33 [612, 610, 609, 608, 607, 606, 604, 603, 602, 601] [(611, 0), (605, 0), (600, 0)] := co_call Oh32 ph33.1 nh32.2 (by rw [kh32]; decide)
  have kh33 : hp_K βh33 ah32 = 9 := ph33.2.1
  refine W.widen (k := 938) (n := 9394) (Nat.le_of_ble_eq_true rfl) (Nat.le_of_ble_eq_true rfl) ?_
  refine q_putnFZ (κ := 112) (k := 13) (φ := 613) (pc' := 136) C Bh33 Oh33.1 fl_X11_66 rfl rfl rfl hnm rfl rfl rfl rfl (gx_sN Bh33.2.2 Oh33) dX11_init_133 rfl (fun βh34 Hh34 Lh34 eh34 yh34 Bh34 => ?_)
  have Oh34 : co α a0 12 βh34 [613, 612, 610, 609, 608, 607, 606, 604, 603, 602, 601] [(611, 0), (605, 0), (600, 0)] := by rw [eh34]; exact co_sN Oh33 ⟨(Or.inl (by rw [kh33]; rfl)), by rw [kh33]; decide, by rw [kh33]; decide, nh32.1, (by rw [kh33]; intro q; exact absurd q (by decide))⟩
  have Eh34 : βh34 = (F_X11_init_34 α Hs.size a0) := by rw [eh34, Eh33, uh32]; try rfl
  have Zh34 : Hh34.size = Hs.size + (938) := yh34.trans Zh33
  refine lv_aload_n hx hb dX11_init_136 rfl (lv_at hl 0 rfl) (hp_n (n := 137) rfl ?_)
  refine q_newZ (κ := 6) (N := 2) (pc' := 140) C Bh34 cl_X11_23 it_X5 iz_X5 rfl in_6 tyX5_ok df_6 (by decide) rfl rfl rfl (Nat.le_of_ble_eq_true rfl) (Nat.le_of_ble_eq_true rfl) dX11_init_137 rfl (fun q hq => gx_nw Bh34.2.2 (by decide) hq) (fun βh35 ah35 Hh35 fh35 wh35 yh35 eh35 Bh35 => ?_)
  have uh35 : ah35 = Hs.size + (938) := by rw [wh35, Zh34]
  have nh35 := gx_new Bh34.2.2 Oh34 fh35
  have Oh35 : co α a0 12 βh35 [613, 612, 610, 609, 608, 607, 606, 604, 603, 602, 601] [(611, 0), (605, 0), (600, 0)] := by rw [eh35]; exact co_nw Oh34 fh35
  have kh35 : hp_K βh35 ah35 = 106 := by rw [eh35]; exact nw_k
  have zh35 : ∀ φ, hp_I βh35 φ ah35 = 0 := fun φ => by rw [eh35]; exact nw_i
  have Eh35 : βh35 = (F_X11_init_35 α Hs.size a0) := by rw [eh35, Eh34, uh35]; try rfl
  have Zh35 : Hh35.size = Hs.size + (939) := zzk yh35 Zh34 rfl
  refine W.widen (k := 939) (n := 9396) (Nat.le_of_ble_eq_true rfl) (Nat.le_of_ble_eq_true rfl) ?_
  refine lv_dup hx hb dX11_init_140 rfl (hp_n (n := 141) rfl ?_)
  refine q_cvZ (pc' := 144) Bh35 (hp_runIZ (As := []) (rest := [.ref ah35, .ref a0]) C Bh35 (u_X5_init Γ l βh35 Bh35.2.2.1 Hh35 ah35 kh35 zh35) lb_X5_init rfl li_X5_init lk_X11_25 rfl (by decide) rfl hl.1 rfl (Nat.le_of_ble_eq_true rfl) dX11_init_141 ⟨(Nat.le_of_ble_eq_true rfl), (Nat.le_of_ble_eq_true rfl)⟩) (fun q hq => gx_call Bh35.2.2 hq.1.1 nh35.1) rfl (fun βh36 Hh36 Lh36 yh36 pph36 Bh36 => ?_)
  have ph36 := pph36.1
  have Eh36 : βh36 = (F_X11_init_36 α Hs.size a0) := by rw [pph36.2, Eh35, Zh35, uh35]; try rfl
  have Zh36 : Hh36.size = Hs.size + (940) := zzk yh36 Zh35 rfl
  have Oh36 : co α a0 12 βh36 [613, 612, 610, 609, 608, 607, 606, 604, 603, 602, 601] [(611, 0), (605, 0), (600, 0)] := co_call Oh35 ph36.1 nh35.2 (by rw [kh35]; decide)
  have kh36 : hp_K βh36 ah35 = 6 := ph36.2.1
  refine W.widen (k := 940) (n := 9460) (Nat.le_of_ble_eq_true rfl) (Nat.le_of_ble_eq_true rfl) ?_
  refine q_putnFZ (κ := 112) (k := 14) (φ := 614) (pc' := 147) C Bh36 Oh36.1 fl_X11_69 rfl rfl rfl hnm rfl rfl rfl rfl (gx_sN Bh36.2.2 Oh36) dX11_init_144 rfl (fun βh37 Hh37 Lh37 eh37 yh37 Bh37 => ?_)
  have Oh37 : co α a0 12 βh37 [614, 613, 612, 610, 609, 608, 607, 606, 604, 603, 602, 601] [(611, 0), (605, 0), (600, 0)] := by rw [eh37]; exact co_sN Oh36 ⟨(Or.inl (by rw [kh36]; rfl)), by rw [kh36]; decide, by rw [kh36]; decide, nh35.1, (by rw [kh36]; intro q; exact absurd q (by decide))⟩
  have Eh37 : βh37 = (F_X11_init_37 α Hs.size a0) := by rw [eh37, Eh36, uh35]; try rfl
  have Zh37 : Hh37.size = Hs.size + (940) := yh37.trans Zh36
  refine lv_aload_n hx hb dX11_init_147 rfl (lv_at hl 0 rfl) (hp_n (n := 148) rfl ?_)
  refine q_newZ (κ := 1) (N := 5) (pc' := 151) C Bh37 cl_X11_72 it_X0 iz_X0 rfl in_1 tyX0_ok df_1 (by decide) rfl rfl rfl (Nat.le_of_ble_eq_true rfl) (Nat.le_of_ble_eq_true rfl) dX11_init_148 rfl (fun q hq => gx_nw Bh37.2.2 (by decide) hq) (fun βh38 ah38 Hh38 fh38 wh38 yh38 eh38 Bh38 => ?_)
  have uh38 : ah38 = Hs.size + (940) := by rw [wh38, Zh37]
  have nh38 := gx_new Bh37.2.2 Oh37 fh38
  have Oh38 : co α a0 12 βh38 [614, 613, 612, 610, 609, 608, 607, 606, 604, 603, 602, 601] [(611, 0), (605, 0), (600, 0)] := by rw [eh38]; exact co_nw Oh37 fh38
  have kh38 : hp_K βh38 ah38 = 101 := by rw [eh38]; exact nw_k
  have zh38 : ∀ φ, hp_I βh38 φ ah38 = 0 := fun φ => by rw [eh38]; exact nw_i
  have Eh38 : βh38 = (F_X11_init_38 α Hs.size a0) := by rw [eh38, Eh37, uh38]; try rfl
  have Zh38 : Hh38.size = Hs.size + (941) := zzk yh38 Zh37 rfl
  refine W.widen (k := 941) (n := 9465) (Nat.le_of_ble_eq_true rfl) (Nat.le_of_ble_eq_true rfl) ?_
  refine lv_dup hx hb dX11_init_151 rfl (hp_n (n := 152) rfl ?_)
  refine q_cvZ (pc' := 155) Bh38 (hp_runIZ (As := []) (rest := [.ref ah38, .ref a0]) C Bh38 (u_X0_init Γ l βh38 Bh38.2.2.1 Hh38 ah38 kh38 zh38) lb_X0_init rfl li_X0_init lk_X11_74 rfl (by decide) rfl hl.1 rfl (Nat.le_of_ble_eq_true rfl) dX11_init_152 ⟨(Nat.le_of_ble_eq_true rfl), (Nat.le_of_ble_eq_true rfl)⟩) (fun q hq => gx_call Bh38.2.2 hq.1.1 nh38.1) rfl (fun βh39 Hh39 Lh39 yh39 pph39 Bh39 => ?_)
  have ph39 := pph39.1
  have Eh39 : βh39 = (F_X11_init_39 α Hs.size a0) := by rw [pph39.2, Eh38, Zh38, uh38]; try rfl
  have Zh39 : Hh39.size = Hs.size + (943) := zzk yh39 Zh38 rfl
  have Oh39 : co α a0 12 βh39 [614, 613, 612, 610, 609, 608, 607, 606, 604, 603, 602, 601] [(611, 0), (605, 0), (600, 0)] := co_call Oh38 ph39.1 nh38.2 (by rw [kh38]; decide)
  have kh39 : hp_K βh39 ah38 = 1 := ph39.2.1
  refine W.widen (k := 943) (n := 9531) (Nat.le_of_ble_eq_true rfl) (Nat.le_of_ble_eq_true rfl) ?_
  refine q_putnFZ (κ := 112) (k := 15) (φ := 615) (pc' := 158) C Bh39 Oh39.1 fl_X11_75 rfl rfl rfl hnm rfl rfl rfl rfl (gx_sN Bh39.2.2 Oh39) dX11_init_155 rfl (fun βh40 Hh40 Lh40 eh40 yh40 Bh40 => ?_)
  have Oh40 : co α a0 12 βh40 [615, 614, 613, 612, 610, 609, 608, 607, 606, 604, 603, 602, 601] [(611, 0), (605, 0), (600, 0)] := by rw [eh40]; exact co_sN Oh39 ⟨(Or.inl (by rw [kh39]; rfl)), by rw [kh39]; decide, by rw [kh39]; decide, nh38.1, (by rw [kh39]; intro q; exact absurd q (by decide))⟩
  have Eh40 : βh40 = (F_X11_init_40 α Hs.size a0) := by rw [eh40, Eh39, uh38]; try rfl
  have Zh40 : Hh40.size = Hs.size + (943) := yh40.trans Zh39
  refine lv_aload_n hx hb dX11_init_158 rfl (lv_at hl 0 rfl) (hp_n (n := 159) rfl ?_)
  refine q_newZ (κ := 4) (N := 10) (pc' := 162) C Bh40 cl_X11_79 it_X3 iz_X3 rfl in_4 tyX3_ok df_4 (by decide) rfl rfl rfl (Nat.le_of_ble_eq_true rfl) (Nat.le_of_ble_eq_true rfl) dX11_init_159 rfl (fun q hq => gx_nw Bh40.2.2 (by decide) hq) (fun βh41 ah41 Hh41 fh41 wh41 yh41 eh41 Bh41 => ?_)
  have uh41 : ah41 = Hs.size + (943) := by rw [wh41, Zh40]
  have nh41 := gx_new Bh40.2.2 Oh40 fh41
  have Oh41 : co α a0 12 βh41 [615, 614, 613, 612, 610, 609, 608, 607, 606, 604, 603, 602, 601] [(611, 0), (605, 0), (600, 0)] := by rw [eh41]; exact co_nw Oh40 fh41
  have kh41 : hp_K βh41 ah41 = 104 := by rw [eh41]; exact nw_k
  have zh41 : ∀ φ, hp_I βh41 φ ah41 = 0 := fun φ => by rw [eh41]; exact nw_i
  have Eh41 : βh41 = (F_X11_init_41 α Hs.size a0) := by rw [eh41, Eh40, uh41]; try rfl
  have Zh41 : Hh41.size = Hs.size + (944) := zzk yh41 Zh40 rfl
  refine W.widen (k := 944) (n := 9541) (Nat.le_of_ble_eq_true rfl) (Nat.le_of_ble_eq_true rfl) ?_
  refine lv_dup hx hb dX11_init_162 rfl (hp_n (n := 163) rfl ?_)
  refine q_cvZ (pc' := 166) Bh41 (hp_runIZ (As := []) (rest := [.ref ah41, .ref a0]) C Bh41 (u_X3_init Γ l βh41 Bh41.2.2.1 Hh41 ah41 kh41 zh41) lb_X3_init rfl li_X3_init lk_X11_81 rfl (by decide) rfl hl.1 rfl (Nat.le_of_ble_eq_true rfl) dX11_init_163 ⟨(Nat.le_of_ble_eq_true rfl), (Nat.le_of_ble_eq_true rfl)⟩) (fun q hq => gx_call Bh41.2.2 hq.1.1 nh41.1) rfl (fun βh42 Hh42 Lh42 yh42 pph42 Bh42 => ?_)
  have ph42 := pph42.1
  have Eh42 : βh42 = (F_X11_init_42 α Hs.size a0) := by rw [pph42.2, Eh41, Zh41, uh41]; try rfl
  have Zh42 : Hh42.size = Hs.size + (954) := zzk yh42 Zh41 rfl
  have Oh42 : co α a0 12 βh42 [615, 614, 613, 612, 610, 609, 608, 607, 606, 604, 603, 602, 601] [(611, 0), (605, 0), (600, 0)] := co_call Oh41 ph42.1 nh41.2 (by rw [kh41]; decide)
  have kh42 : hp_K βh42 ah41 = 4 := ph42.2.1
  refine W.widen (k := 954) (n := 9821) (Nat.le_of_ble_eq_true rfl) (Nat.le_of_ble_eq_true rfl) ?_
  refine q_putnFZ (κ := 112) (k := 16) (φ := 616) (pc' := 169) C Bh42 Oh42.1 fl_X11_82 rfl rfl rfl hnm rfl rfl rfl rfl (gx_sN Bh42.2.2 Oh42) dX11_init_166 rfl (fun βh43 Hh43 Lh43 eh43 yh43 Bh43 => ?_)
  have Oh43 : co α a0 12 βh43 [616, 615, 614, 613, 612, 610, 609, 608, 607, 606, 604, 603, 602, 601] [(611, 0), (605, 0), (600, 0)] := by rw [eh43]; exact co_sN Oh42 ⟨(Or.inl (by rw [kh42]; rfl)), by rw [kh42]; decide, by rw [kh42]; decide, nh41.1, (by rw [kh42]; intro q; exact absurd q (by decide))⟩
  have Eh43 : βh43 = (F_X11_init_43 α Hs.size a0) := by rw [eh43, Eh42, uh41]; try rfl
  have Zh43 : Hh43.size = Hs.size + (954) := yh43.trans Zh42
  refine lv_aload_n hx hb dX11_init_169 rfl (lv_at hl 0 rfl) (hp_n (n := 170) rfl ?_)
  refine lv_sipush (v := 256) hx hb dX11_init_170 (by decide) (hp_n (n := 173) rfl ?_)
  refine q_newaZ (κ := 26) (t := 0) (n := 256) (atype := .int) (ty := .int) (dv := .int 0) (pc' := 175) C Bh43 ac_int rfl (by decide) rfl rfl (fun _ _ q => q) rfl (fun _ cA => nw_cx (by decide) cA) (by decide) (by decide +kernel) (Nat.le_of_ble_eq_true rfl) rfl (Nat.le_of_ble_eq_true rfl) (Nat.le_of_ble_eq_true rfl) dX11_init_173 rfl (fun q hq => gx_nw Bh43.2.2 (by decide) hq) (fun βh44 ah44 Hh44 fh44 wh44 yh44 eh44 Bh44 => ?_)
  have uh44 : ah44 = Hs.size + (954) := by rw [wh44, Zh43]
  have nh44 := gx_new Bh43.2.2 Oh43 fh44
  have Oh44 : co α a0 12 βh44 [616, 615, 614, 613, 612, 610, 609, 608, 607, 606, 604, 603, 602, 601] [(611, 0), (605, 0), (600, 0)] := by rw [eh44]; exact co_nw Oh43 fh44
  have kh44 : hp_K βh44 ah44 = 26 := by rw [eh44]; exact nw_k
  have Eh44 : βh44 = (F_X11_init_44 α Hs.size a0) := by rw [eh44, Eh43, uh44]; try rfl
  have Zh44 : Hh44.size = Hs.size + (955) := zzk yh44 Zh43 rfl
  refine W.widen (k := 955) (n := 10077) (Nat.le_of_ble_eq_true rfl) (Nat.le_of_ble_eq_true rfl) ?_
  refine q_putnFZ (κ := 112) (k := 17) (φ := 617) (pc' := 178) C Bh44 Oh44.1 fl_X11_86 rfl rfl rfl hnm rfl rfl rfl rfl (gx_sN Bh44.2.2 Oh44) dX11_init_175 rfl (fun βh45 Hh45 Lh45 eh45 yh45 Bh45 => ?_)
  have Oh45 : co α a0 12 βh45 [617, 616, 615, 614, 613, 612, 610, 609, 608, 607, 606, 604, 603, 602, 601] [(611, 0), (605, 0), (600, 0)] := by rw [eh45]; exact co_sN Oh44 ⟨(Or.inl (by rw [kh44]; rfl)), by rw [kh44]; decide, by rw [kh44]; decide, nh44.1, (fun _ j => by rw [eh44]; exact nw_e)⟩
  have Eh45 : βh45 = (F_X11_init_45 α Hs.size a0) := by rw [eh45, Eh44, uh44]; try rfl
  have Zh45 : Hh45.size = Hs.size + (955) := yh45.trans Zh44
  refine lv_aload_n hx hb dX11_init_178 rfl (lv_at hl 0 rfl) (hp_n (n := 179) rfl ?_)
  refine lv_null hx hb dX11_init_179 (hp_n (n := 180) rfl ?_)
  refine q_put0Z (κ := 112) (k := 18) (φ := 618) (pc' := 183) C Bh45 Oh45.1 fl_X11_90 rfl rfl rfl rfl rfl rfl (gx_sN Bh45.2.2 Oh45) dX11_init_180 rfl (fun βh46 Hh46 Lh46 eh46 yh46 Bh46 => ?_)
  have Oh46 : co α a0 12 βh46 [617, 616, 615, 614, 613, 612, 610, 609, 608, 607, 606, 604, 603, 602, 601] [(611, 0), (605, 0), (600, 0)] := by rw [eh46]; exact co_s0 Oh45 (by decide)
  have N618 : hp_N βh46 618 a0 = none := by rw [eh46]; exact sN_at
  have Eh46 : βh46 = (F_X11_init_46 α Hs.size a0) := by rw [eh46, Eh45]; try rfl
  have Zh46 : Hh46.size = Hs.size + (955) := yh46.trans Zh45
  obtain ⟨Bh47, kh47, fh47, -⟩ := co_fin Bh46 Oh46 (by decide) (by decide) (by decide) (fun _ => N618)
  refine W.widen (k := 955) (n := 10077) (Nat.le_of_ble_eq_true rfl) (Nat.le_of_ble_eq_true rfl) ?_
  exact q_vretZ C Bh47 Zh46 hr hlk ⟨⟨Bh47.2.2, kh47, fh47, N618⟩, by rw [Eh46]; try rfl⟩ dX11_init_183
end JN9_0
section JN9_1
/-! ===== the reference's constructor, to the letter ===== -/
def saC (α β : hp_T) (b : Nat) : Prop := hp_K β b = hp_K α b ∧ (∀ φ, φ < 650 → hp_I β φ b = hp_I α φ b) ∧ (∀ φ, hp_R β φ b = hp_R α φ b) ∧ (∀ φ, hp_N β φ b = hp_N α φ b) ∧ (∀ κ j, κ < 40 → hp_E β κ b j = hp_E α κ b j) ∧ ∀ κ j, hp_Q β κ b j = hp_Q α κ b j
def ms_i0 (τ : ms_T) : Prop := (∀ φ, ms_I τ φ = if φ = 668 ∨ φ = 669 then -1 else 0) ∧ (∀ κ j, 40 ≤ κ → κ < 60 → κ ≠ 40 → κ ≠ 48 → ms_E τ κ j = 0) ∧ ms_E τ 40 0 = 1 ∧ ms_E τ 40 1 = 65521 ∧ ∀ j, 2 ≤ j → j < 1980 → ms_E τ 40 j = 0
theorem ms_mf_all : ∀ κ, κ < 60 → 40 ≤ κ → (κ, (ms_mf.lookup κ).getD 0) ∈ ms_mf := by decide +kernel
theorem hm_make2 {α : hp_T} {a0 : Nat} {l : List Nat} (hk : hp_K (hp_cv α a0 13) a0 = 13) (hx : ∀ φ ∈ l, ∃ x, hp_R (hp_cv α a0 13) φ a0 = x ∧ hp_N α φ a0 = some x ∧ hp_K (hp_cv α a0 13) x = hp_K α x ∧ gc_t φ (hp_K α x) ∧ (20 ≤ hp_K α x → ∀ j, hp_E α (hp_K α x) x j = 0)) (hl : ∀ q ∈ ms_mf, q.2 ∈ l) (lw : lwx α a0) : ∃ ρ σ, hm_M (hp_cv α a0 13) a0 ρ σ ∧ (∀ φ, ms_I σ φ = hp_I (hp_cv α a0 13) φ a0) ∧ ∀ κ j, 40 ≤ κ → κ < 60 → κ ≠ 48 → ms_E σ κ j = 0 := by
  obtain ⟨ρ, σ, hM, hσ⟩ := hm_make hk hx hl lw
  refine ⟨ρ, σ, hM, hσ, fun κ j h1 h2 _ => ?_⟩
  have hq := ms_mf_all κ h2 h1
  obtain ⟨o1, o2, o3, o4⟩ := ms_mf_ok _ hq
  obtain ⟨x, x1, x2, x3, x4, x5⟩ := hx _ (hl _ hq)
  rw [← hM.2.2.2.1 κ j h1 h2]
  have hr := (hM.2.1 _ hq).1
  dsimp only at hr x1 x4 o2 o3 o4
  rw [← hr, x1]
  have hkx : hp_K α x = κ := by
    rcases x4 with e | e
    · rw [e, o2]
    · exact absurd e.1 o3
  have := x5 (by rw [hkx]; omega) j
  rw [hkx] at this
  exact this
set_option maxRecDepth 100000 in
set_option maxHeartbeats 4000000 in
theorem u_X12_init (Γ : hp_G) (l : Launch) (α : hp_T) (g : GC α) (a0 : Nat) (k0 : hp_K α a0 = 113) (z0 : ∀ φ, hp_I α φ a0 = 0) : Met l yX12_init (hp_ws yX12_init cX12_init 1 none) (hp_rm 1 20 7108) (hp_Pc Γ α [.ref a0]) (hp_Qv Γ (fun β => GC β ∧ (∀ b, b ≠ a0 → hp_K α b ≠ 0 → saC α β b) ∧ ∃ ρ σ, hm_M β a0 ρ σ ∧ RI σ ∧ ms_i0 σ)) 20 7108 (hp_A Γ) := by
  refine hp_start (by decide) ?_
  intro p e s m below meth c C hr hlk B0 hnm
  have C : hp_C Γ p m c cX12_init 1 s ([.ref a0] : List Value).toArray RX12 := C
  have hx := C.1.1
  have hb := C.1.2.1
  have hown := C.1.2.2.2.1
  have hts := C.1.2.2.2.2
  have B : hp_B Γ (gx a0) s α α s.heap [] := ⟨B0.1, B0.2.1, gx_rf g⟩
  have O : co α a0 13 α [] [] := co_0 k0 z0
  have hl := lv_entry ([.ref a0]) (n := 1) (Nat.le_of_ble_eq_true rfl)
  show W p l e (hp_rm 1 20 7108) s m ([.ref a0] : List Value).toArray below meth c s.heap [] 0 0 (MQ below (hp_Qv Γ (fun β => GC β ∧ (∀ b, b ≠ a0 → hp_K α b ≠ 0 → saC α β b) ∧ ∃ ρ σ, hm_M β a0 ρ σ ∧ RI σ ∧ ms_i0 σ)) ([.ref a0] : List Value).toArray s 20 7108 (hp_A Γ)) (entryFrame m ([.ref a0] : List Value).toArray 1)
  rw [lg_entry_eq]
  generalize (lg_sl ([.ref a0]) ++ List.replicate (1 - (lg_sl ([.ref a0])).length) Slot.unset).toArray = ls at hl ⊢
  have hl : lv_has ls 1 [(0, .ref a0)] := hl
  refine lv_aload_n hx hb dX12_init_0 rfl (lv_at hl 0 rfl) (hp_n (n := 1) rfl ?_)
  refine q_obj (pc' := 4) C ol_X12 hl.1 rfl (by decide) dX12_init_1 rfl ?_
  refine lv_aload_n hx hb dX12_init_4 rfl (lv_at hl 0 rfl) (hp_n (n := 5) rfl ?_)
  refine lv_sipush (v := 1980) hx hb dX12_init_5 (by decide) (hp_n (n := 8) rfl ?_)
  refine q_newa (κ := 40) (t := 0) (n := 1980) (atype := .int) (ty := .int) (dv := .int 0) (pc' := 10) C B ac_int rfl (by decide) rfl rfl (fun _ _ q => q) rfl (fun _ cA => nw_cx (by decide) cA) (by decide) (by decide +kernel) (Nat.le_of_ble_eq_true rfl) rfl (by omega) (by omega) dX12_init_8 rfl (fun q hq => gx_nw B.2.2 (by decide) hq) (fun βh1 ah1 Hh1 fh1 eh1 Bh1 => ?_)
  have nh1 := gx_new B.2.2 O fh1
  have Oh1 : co α a0 13 βh1 [] [] := by rw [eh1]; exact co_nw O fh1
  have kh1 : hp_K βh1 ah1 = 40 := by rw [eh1]; exact nw_k
  refine W.widen (k := 1) (n := 1980) (by omega) (by omega) ?_
  refine q_putnF (κ := 113) (k := 0) (φ := 650) (pc' := 13) C Bh1 Oh1.1 fl_X12_7 rfl rfl rfl hnm rfl rfl rfl rfl (gx_sN Bh1.2.2 Oh1) dX12_init_10 rfl (fun βh2 Hh2 Lh2 eh2 Bh2 => ?_)
  have Oh2 : co α a0 13 βh2 [650] [] := by rw [eh2]; exact co_sN Oh1 ⟨Or.inl (by rw [kh1]; rfl), by rw [kh1]; decide, by rw [kh1]; decide, nh1.1, (fun _ j => by rw [eh1]; exact nw_e)⟩
  refine lv_aload_n hx hb dX12_init_13 rfl (lv_at hl 0 rfl) (hp_n (n := 14) rfl ?_)
  refine lv_sipush (v := 1980) hx hb dX12_init_14 (by decide) (hp_n (n := 17) rfl ?_)
  refine q_newa (κ := 41) (t := 0) (n := 1980) (atype := .int) (ty := .int) (dv := .int 0) (pc' := 19) C Bh2 ac_int rfl (by decide) rfl rfl (fun _ _ q => q) rfl (fun _ cA => nw_cx (by decide) cA) (by decide) (by decide +kernel) (Nat.le_of_ble_eq_true rfl) rfl (by omega) (by omega) dX12_init_17 rfl (fun q hq => gx_nw Bh2.2.2 (by decide) hq) (fun βh3 ah3 Hh3 fh3 eh3 Bh3 => ?_)
  have nh3 := gx_new Bh2.2.2 Oh2 fh3
  have Oh3 : co α a0 13 βh3 [650] [] := by rw [eh3]; exact co_nw Oh2 fh3
  have kh3 : hp_K βh3 ah3 = 41 := by rw [eh3]; exact nw_k
  refine W.widen (k := 2) (n := 3960) (by omega) (by omega) ?_
  refine q_putnF (κ := 113) (k := 1) (φ := 651) (pc' := 22) C Bh3 Oh3.1 fl_X12_13 rfl rfl rfl hnm rfl rfl rfl rfl (gx_sN Bh3.2.2 Oh3) dX12_init_19 rfl (fun βh4 Hh4 Lh4 eh4 Bh4 => ?_)
  have Oh4 : co α a0 13 βh4 [651, 650] [] := by rw [eh4]; exact co_sN Oh3 ⟨Or.inl (by rw [kh3]; rfl), by rw [kh3]; decide, by rw [kh3]; decide, nh3.1, (fun _ j => by rw [eh3]; exact nw_e)⟩
  refine lv_aload_n hx hb dX12_init_22 rfl (lv_at hl 0 rfl) (hp_n (n := 23) rfl ?_)
  refine lv_sipush (v := 128) hx hb dX12_init_23 (by decide) (hp_n (n := 26) rfl ?_)
  refine q_newa (κ := 42) (t := 0) (n := 128) (atype := .int) (ty := .int) (dv := .int 0) (pc' := 28) C Bh4 ac_int rfl (by decide) rfl rfl (fun _ _ q => q) rfl (fun _ cA => nw_cx (by decide) cA) (by decide) (by decide +kernel) (Nat.le_of_ble_eq_true rfl) rfl (by omega) (by omega) dX12_init_26 rfl (fun q hq => gx_nw Bh4.2.2 (by decide) hq) (fun βh5 ah5 Hh5 fh5 eh5 Bh5 => ?_)
  have nh5 := gx_new Bh4.2.2 Oh4 fh5
  have Oh5 : co α a0 13 βh5 [651, 650] [] := by rw [eh5]; exact co_nw Oh4 fh5
  have kh5 : hp_K βh5 ah5 = 42 := by rw [eh5]; exact nw_k
  refine W.widen (k := 3) (n := 4088) (by omega) (by omega) ?_
  refine q_putnF (κ := 113) (k := 4) (φ := 654) (pc' := 31) C Bh5 Oh5.1 fl_X12_16 rfl rfl rfl hnm rfl rfl rfl rfl (gx_sN Bh5.2.2 Oh5) dX12_init_28 rfl (fun βh6 Hh6 Lh6 eh6 Bh6 => ?_)
  have Oh6 : co α a0 13 βh6 [654, 651, 650] [] := by rw [eh6]; exact co_sN Oh5 ⟨Or.inl (by rw [kh5]; rfl), by rw [kh5]; decide, by rw [kh5]; decide, nh5.1, (fun _ j => by rw [eh5]; exact nw_e)⟩
  refine lv_aload_n hx hb dX12_init_31 rfl (lv_at hl 0 rfl) (hp_n (n := 32) rfl ?_)
  refine lv_sipush (v := 128) hx hb dX12_init_32 (by decide) (hp_n (n := 35) rfl ?_)
  refine q_newa (κ := 43) (t := 0) (n := 128) (atype := .int) (ty := .int) (dv := .int 0) (pc' := 37) C Bh6 ac_int rfl (by decide) rfl rfl (fun _ _ q => q) rfl (fun _ cA => nw_cx (by decide) cA) (by decide) (by decide +kernel) (Nat.le_of_ble_eq_true rfl) rfl (by omega) (by omega) dX12_init_35 rfl (fun q hq => gx_nw Bh6.2.2 (by decide) hq) (fun βh7 ah7 Hh7 fh7 eh7 Bh7 => ?_)
  have nh7 := gx_new Bh6.2.2 Oh6 fh7
  have Oh7 : co α a0 13 βh7 [654, 651, 650] [] := by rw [eh7]; exact co_nw Oh6 fh7
  have kh7 : hp_K βh7 ah7 = 43 := by rw [eh7]; exact nw_k
  refine W.widen (k := 4) (n := 4216) (by omega) (by omega) ?_
  refine q_putnF (κ := 113) (k := 5) (φ := 655) (pc' := 40) C Bh7 Oh7.1 fl_X12_19 rfl rfl rfl hnm rfl rfl rfl rfl (gx_sN Bh7.2.2 Oh7) dX12_init_37 rfl (fun βh8 Hh8 Lh8 eh8 Bh8 => ?_)
  have Oh8 : co α a0 13 βh8 [655, 654, 651, 650] [] := by rw [eh8]; exact co_sN Oh7 ⟨Or.inl (by rw [kh7]; rfl), by rw [kh7]; decide, by rw [kh7]; decide, nh7.1, (fun _ j => by rw [eh7]; exact nw_e)⟩
  refine lv_aload_n hx hb dX12_init_40 rfl (lv_at hl 0 rfl) (hp_n (n := 41) rfl ?_)
  refine lv_sipush (v := 128) hx hb dX12_init_41 (by decide) (hp_n (n := 44) rfl ?_)
  refine q_newa (κ := 44) (t := 0) (n := 128) (atype := .int) (ty := .int) (dv := .int 0) (pc' := 46) C Bh8 ac_int rfl (by decide) rfl rfl (fun _ _ q => q) rfl (fun _ cA => nw_cx (by decide) cA) (by decide) (by decide +kernel) (Nat.le_of_ble_eq_true rfl) rfl (by omega) (by omega) dX12_init_44 rfl (fun q hq => gx_nw Bh8.2.2 (by decide) hq) (fun βh9 ah9 Hh9 fh9 eh9 Bh9 => ?_)
  have nh9 := gx_new Bh8.2.2 Oh8 fh9
  have Oh9 : co α a0 13 βh9 [655, 654, 651, 650] [] := by rw [eh9]; exact co_nw Oh8 fh9
  have kh9 : hp_K βh9 ah9 = 44 := by rw [eh9]; exact nw_k
  refine W.widen (k := 5) (n := 4344) (by omega) (by omega) ?_
  refine q_putnF (κ := 113) (k := 6) (φ := 656) (pc' := 49) C Bh9 Oh9.1 fl_X12_22 rfl rfl rfl hnm rfl rfl rfl rfl (gx_sN Bh9.2.2 Oh9) dX12_init_46 rfl (fun βh10 Hh10 Lh10 eh10 Bh10 => ?_)
  have Oh10 : co α a0 13 βh10 [656, 655, 654, 651, 650] [] := by rw [eh10]; exact co_sN Oh9 ⟨Or.inl (by rw [kh9]; rfl), by rw [kh9]; decide, by rw [kh9]; decide, nh9.1, (fun _ j => by rw [eh9]; exact nw_e)⟩
  refine lv_aload_n hx hb dX12_init_49 rfl (lv_at hl 0 rfl) (hp_n (n := 50) rfl ?_)
  refine lv_bipush (v := 8) hx hb dX12_init_50 (by decide) (hp_n (n := 52) rfl ?_)
  refine q_newa (κ := 45) (t := 0) (n := 8) (atype := .int) (ty := .int) (dv := .int 0) (pc' := 54) C Bh10 ac_int rfl (by decide) rfl rfl (fun _ _ q => q) rfl (fun _ cA => nw_cx (by decide) cA) (by decide) (by decide +kernel) (Nat.le_of_ble_eq_true rfl) rfl (by omega) (by omega) dX12_init_52 rfl (fun q hq => gx_nw Bh10.2.2 (by decide) hq) (fun βh11 ah11 Hh11 fh11 eh11 Bh11 => ?_)
  have nh11 := gx_new Bh10.2.2 Oh10 fh11
  have Oh11 : co α a0 13 βh11 [656, 655, 654, 651, 650] [] := by rw [eh11]; exact co_nw Oh10 fh11
  have kh11 : hp_K βh11 ah11 = 45 := by rw [eh11]; exact nw_k
  refine W.widen (k := 6) (n := 4352) (by omega) (by omega) ?_
  refine q_putnF (κ := 113) (k := 12) (φ := 662) (pc' := 57) C Bh11 Oh11.1 fl_X12_25 rfl rfl rfl hnm rfl rfl rfl rfl (gx_sN Bh11.2.2 Oh11) dX12_init_54 rfl (fun βh12 Hh12 Lh12 eh12 Bh12 => ?_)
  have Oh12 : co α a0 13 βh12 [662, 656, 655, 654, 651, 650] [] := by rw [eh12]; exact co_sN Oh11 ⟨Or.inl (by rw [kh11]; rfl), by rw [kh11]; decide, by rw [kh11]; decide, nh11.1, (fun _ j => by rw [eh11]; exact nw_e)⟩
  refine lv_aload_n hx hb dX12_init_57 rfl (lv_at hl 0 rfl) (hp_n (n := 58) rfl ?_)
  refine lv_bipush (v := 8) hx hb dX12_init_58 (by decide) (hp_n (n := 60) rfl ?_)
  refine q_newa (κ := 46) (t := 0) (n := 8) (atype := .int) (ty := .int) (dv := .int 0) (pc' := 62) C Bh12 ac_int rfl (by decide) rfl rfl (fun _ _ q => q) rfl (fun _ cA => nw_cx (by decide) cA) (by decide) (by decide +kernel) (Nat.le_of_ble_eq_true rfl) rfl (by omega) (by omega) dX12_init_60 rfl (fun q hq => gx_nw Bh12.2.2 (by decide) hq) (fun βh13 ah13 Hh13 fh13 eh13 Bh13 => ?_)
  have nh13 := gx_new Bh12.2.2 Oh12 fh13
  have Oh13 : co α a0 13 βh13 [662, 656, 655, 654, 651, 650] [] := by rw [eh13]; exact co_nw Oh12 fh13
  have kh13 : hp_K βh13 ah13 = 46 := by rw [eh13]; exact nw_k
  refine W.widen (k := 7) (n := 4360) (by omega) (by omega) ?_
  refine q_putnF (κ := 113) (k := 13) (φ := 663) (pc' := 65) C Bh13 Oh13.1 fl_X12_28 rfl rfl rfl hnm rfl rfl rfl rfl (gx_sN Bh13.2.2 Oh13) dX12_init_62 rfl (fun βh14 Hh14 Lh14 eh14 Bh14 => ?_)
  have Oh14 : co α a0 13 βh14 [663, 662, 656, 655, 654, 651, 650] [] := by rw [eh14]; exact co_sN Oh13 ⟨Or.inl (by rw [kh13]; rfl), by rw [kh13]; decide, by rw [kh13]; decide, nh13.1, (fun _ j => by rw [eh13]; exact nw_e)⟩
  refine lv_aload_n hx hb dX12_init_65 rfl (lv_at hl 0 rfl) (hp_n (n := 66) rfl ?_)
  refine lv_sipush (v := 900) hx hb dX12_init_66 (by decide) (hp_n (n := 69) rfl ?_)
  refine q_newa (κ := 47) (t := 1) (n := 900) (atype := .byte) (ty := .byte) (dv := .int 0) (pc' := 71) C Bh14 ac_byte rfl (by decide) rfl rfl (fun _ _ q => q) rfl (fun _ cA => nw_cx (by decide) cA) (by decide) (by decide +kernel) (Nat.le_of_ble_eq_true rfl) rfl (by omega) (by omega) dX12_init_69 rfl (fun q hq => gx_nw Bh14.2.2 (by decide) hq) (fun βh15 ah15 Hh15 fh15 eh15 Bh15 => ?_)
  have nh15 := gx_new Bh14.2.2 Oh14 fh15
  have Oh15 : co α a0 13 βh15 [663, 662, 656, 655, 654, 651, 650] [] := by rw [eh15]; exact co_nw Oh14 fh15
  have kh15 : hp_K βh15 ah15 = 47 := by rw [eh15]; exact nw_k
  refine W.widen (k := 8) (n := 5260) (by omega) (by omega) ?_
  refine q_putnF (κ := 113) (k := 16) (φ := 666) (pc' := 74) C Bh15 Oh15.1 fl_X12_31 rfl rfl rfl hnm rfl rfl rfl rfl (gx_sN Bh15.2.2 Oh15) dX12_init_71 rfl (fun βh16 Hh16 Lh16 eh16 Bh16 => ?_)
  have Oh16 : co α a0 13 βh16 [666, 663, 662, 656, 655, 654, 651, 650] [] := by rw [eh16]; exact co_sN Oh15 ⟨Or.inl (by rw [kh15]; rfl), by rw [kh15]; decide, by rw [kh15]; decide, nh15.1, (fun _ j => by rw [eh15]; exact nw_e)⟩
  refine lv_aload_n hx hb dX12_init_74 rfl (lv_at hl 0 rfl) (hp_n (n := 75) rfl ?_)
  refine lv_iconst (v := (-1)) hx hb dX12_init_75 (by decide) (hp_n (n := 76) rfl ?_)
  refine q_puti (κ := 113) (k := 18) (φ := 668) (pc' := 79) C Bh16 Oh16.1 fl_X12_35 rfl rfl rfl rfl rfl rfl (gx_sI Bh16.2.2 (fun q => absurd q (by decide))) dX12_init_76 rfl (fun βh17 Hh17 Lh17 eh17 Bh17 => ?_)
  have Oh17 : co α a0 13 βh17 [666, 663, 662, 656, 655, 654, 651, 650] [(668, (-1))] := by rw [eh17]; exact co_sI Oh16 (by decide)
  refine lv_aload_n hx hb dX12_init_79 rfl (lv_at hl 0 rfl) (hp_n (n := 80) rfl ?_)
  refine lv_iconst (v := (-1)) hx hb dX12_init_80 (by decide) (hp_n (n := 81) rfl ?_)
  refine q_puti (κ := 113) (k := 19) (φ := 669) (pc' := 84) C Bh17 Oh17.1 fl_X12_39 rfl rfl rfl rfl rfl rfl (gx_sI Bh17.2.2 (fun q => absurd q (by decide))) dX12_init_81 rfl (fun βh18 Hh18 Lh18 eh18 Bh18 => ?_)
  have Oh18 : co α a0 13 βh18 [666, 663, 662, 656, 655, 654, 651, 650] [(669, (-1)), (668, (-1))] := by rw [eh18]; exact co_sI Oh17 (by decide)
  refine lv_aload_n hx hb dX12_init_84 rfl (lv_at hl 0 rfl) (hp_n (n := 85) rfl ?_)
  refine lv_bipush (v := 12) hx hb dX12_init_85 (by decide) (hp_n (n := 87) rfl ?_)
  refine q_newa (κ := 48) (t := 3) (n := 12) (atype := .long) (ty := .long) (dv := .long 0) (pc' := 89) C Bh18 ac_long rfl (by decide) rfl rfl (fun _ _ q => q) rfl (fun _ cA => nw_cl cA) (by decide) (by decide +kernel) (Nat.le_of_ble_eq_true rfl) rfl (by omega) (by omega) dX12_init_87 rfl (fun q hq => gx_nw Bh18.2.2 (by decide) hq) (fun βh19 ah19 Hh19 fh19 eh19 Bh19 => ?_)
  have nh19 := gx_new Bh18.2.2 Oh18 fh19
  have Oh19 : co α a0 13 βh19 [666, 663, 662, 656, 655, 654, 651, 650] [(669, (-1)), (668, (-1))] := by rw [eh19]; exact co_nw Oh18 fh19
  have kh19 : hp_K βh19 ah19 = 48 := by rw [eh19]; exact nw_k
  refine W.widen (k := 9) (n := 5272) (by omega) (by omega) ?_
  have lwh19 : ∀ j, j < 0 → hp_L βh19 48 ah19 j = ms_w j := fun j hj => absurd hj (Nat.not_lt_zero j)
  have zzh19 : ∀ ψ j, hp_E βh19 ψ ah19 j = 0 := fun ψ j => by rw [eh19]; exact nw_e
  refine lv_dup hx hb dX12_init_89 rfl (hp_n (n := 90) rfl ?_)
  refine lv_iconst (v := 0) hx hb dX12_init_90 (by decide) (hp_n (n := 91) rfl ?_)
  refine lv_ldc2 hx hb hown (hts _ kc_X12_42) dX12_init_91 (hp_n (n := 94) rfl ?_)
  refine q_las (κ := 48) (n := 12) (j := 0) (pc' := 95) C Bh19 kh19 (by decide) rfl (vi_of (by decide) (by decide)) rfl (gx_sL Bh19.2.2 nh19.1) dX12_init_94 rfl (fun βh20 Hh20 Lh20 eh20 Bh20 => ?_)
  have Oh20 : co α a0 13 βh20 [666, 663, 662, 656, 655, 654, 651, 650] [(669, (-1)), (668, (-1))] := by rw [eh20]; exact co_sL Oh19
  have kh20 : hp_K βh20 ah19 = 48 := by rw [eh20]; exact kh19
  have lwh20 : ∀ j, j < 1 → hp_L βh20 48 ah19 j = ms_w j := by rw [eh20]; exact sL_step lwh19 rfl
  have zzh20 : ∀ ψ j, hp_E βh20 ψ ah19 j = 0 := by rw [eh20]; exact zzh19
  refine lv_dup hx hb dX12_init_95 rfl (hp_n (n := 96) rfl ?_)
  refine lv_iconst (v := 1) hx hb dX12_init_96 (by decide) (hp_n (n := 97) rfl ?_)
  refine lv_ldc2 hx hb hown (hts _ kc_X12_44) dX12_init_97 (hp_n (n := 100) rfl ?_)
  refine q_las (κ := 48) (n := 12) (j := 1) (pc' := 101) C Bh20 kh20 (by decide) rfl (vi_of (by decide) (by decide)) rfl (gx_sL Bh20.2.2 nh19.1) dX12_init_100 rfl (fun βh21 Hh21 Lh21 eh21 Bh21 => ?_)
  have Oh21 : co α a0 13 βh21 [666, 663, 662, 656, 655, 654, 651, 650] [(669, (-1)), (668, (-1))] := by rw [eh21]; exact co_sL Oh20
  have kh21 : hp_K βh21 ah19 = 48 := by rw [eh21]; exact kh20
  have lwh21 : ∀ j, j < 2 → hp_L βh21 48 ah19 j = ms_w j := by rw [eh21]; exact sL_step lwh20 rfl
  have zzh21 : ∀ ψ j, hp_E βh21 ψ ah19 j = 0 := by rw [eh21]; exact zzh20
  refine lv_dup hx hb dX12_init_101 rfl (hp_n (n := 102) rfl ?_)
  refine lv_iconst (v := 2) hx hb dX12_init_102 (by decide) (hp_n (n := 103) rfl ?_)
  refine lv_ldc2 hx hb hown (hts _ kc_X12_46) dX12_init_103 (hp_n (n := 106) rfl ?_)
  refine q_las (κ := 48) (n := 12) (j := 2) (pc' := 107) C Bh21 kh21 (by decide) rfl (vi_of (by decide) (by decide)) rfl (gx_sL Bh21.2.2 nh19.1) dX12_init_106 rfl (fun βh22 Hh22 Lh22 eh22 Bh22 => ?_)
  have Oh22 : co α a0 13 βh22 [666, 663, 662, 656, 655, 654, 651, 650] [(669, (-1)), (668, (-1))] := by rw [eh22]; exact co_sL Oh21
  have kh22 : hp_K βh22 ah19 = 48 := by rw [eh22]; exact kh21
  have lwh22 : ∀ j, j < 3 → hp_L βh22 48 ah19 j = ms_w j := by rw [eh22]; exact sL_step lwh21 rfl
  have zzh22 : ∀ ψ j, hp_E βh22 ψ ah19 j = 0 := by rw [eh22]; exact zzh21
  refine lv_dup hx hb dX12_init_107 rfl (hp_n (n := 108) rfl ?_)
  refine lv_iconst (v := 3) hx hb dX12_init_108 (by decide) (hp_n (n := 109) rfl ?_)
  refine lv_ldc2 hx hb hown (hts _ kc_X12_48) dX12_init_109 (hp_n (n := 112) rfl ?_)
  refine q_las (κ := 48) (n := 12) (j := 3) (pc' := 113) C Bh22 kh22 (by decide) rfl (vi_of (by decide) (by decide)) rfl (gx_sL Bh22.2.2 nh19.1) dX12_init_112 rfl (fun βh23 Hh23 Lh23 eh23 Bh23 => ?_)
  have Oh23 : co α a0 13 βh23 [666, 663, 662, 656, 655, 654, 651, 650] [(669, (-1)), (668, (-1))] := by rw [eh23]; exact co_sL Oh22
  have kh23 : hp_K βh23 ah19 = 48 := by rw [eh23]; exact kh22
  have lwh23 : ∀ j, j < 4 → hp_L βh23 48 ah19 j = ms_w j := by rw [eh23]; exact sL_step lwh22 rfl
  have zzh23 : ∀ ψ j, hp_E βh23 ψ ah19 j = 0 := by rw [eh23]; exact zzh22
  refine lv_dup hx hb dX12_init_113 rfl (hp_n (n := 114) rfl ?_)
  refine lv_iconst (v := 4) hx hb dX12_init_114 (by decide) (hp_n (n := 115) rfl ?_)
  refine lv_ldc2 hx hb hown (hts _ kc_X12_50) dX12_init_115 (hp_n (n := 118) rfl ?_)
  refine q_las (κ := 48) (n := 12) (j := 4) (pc' := 119) C Bh23 kh23 (by decide) rfl (vi_of (by decide) (by decide)) rfl (gx_sL Bh23.2.2 nh19.1) dX12_init_118 rfl (fun βh24 Hh24 Lh24 eh24 Bh24 => ?_)
  have Oh24 : co α a0 13 βh24 [666, 663, 662, 656, 655, 654, 651, 650] [(669, (-1)), (668, (-1))] := by rw [eh24]; exact co_sL Oh23
  have kh24 : hp_K βh24 ah19 = 48 := by rw [eh24]; exact kh23
  have lwh24 : ∀ j, j < 5 → hp_L βh24 48 ah19 j = ms_w j := by rw [eh24]; exact sL_step lwh23 rfl
  have zzh24 : ∀ ψ j, hp_E βh24 ψ ah19 j = 0 := by rw [eh24]; exact zzh23
  refine lv_dup hx hb dX12_init_119 rfl (hp_n (n := 120) rfl ?_)
  refine lv_iconst (v := 5) hx hb dX12_init_120 (by decide) (hp_n (n := 121) rfl ?_)
  refine lv_ldc2 hx hb hown (hts _ kc_X12_52) dX12_init_121 (hp_n (n := 124) rfl ?_)
  refine q_las (κ := 48) (n := 12) (j := 5) (pc' := 125) C Bh24 kh24 (by decide) rfl (vi_of (by decide) (by decide)) rfl (gx_sL Bh24.2.2 nh19.1) dX12_init_124 rfl (fun βh25 Hh25 Lh25 eh25 Bh25 => ?_)
  have Oh25 : co α a0 13 βh25 [666, 663, 662, 656, 655, 654, 651, 650] [(669, (-1)), (668, (-1))] := by rw [eh25]; exact co_sL Oh24
  have kh25 : hp_K βh25 ah19 = 48 := by rw [eh25]; exact kh24
  have lwh25 : ∀ j, j < 6 → hp_L βh25 48 ah19 j = ms_w j := by rw [eh25]; exact sL_step lwh24 rfl
  have zzh25 : ∀ ψ j, hp_E βh25 ψ ah19 j = 0 := by rw [eh25]; exact zzh24
  refine lv_dup hx hb dX12_init_125 rfl (hp_n (n := 126) rfl ?_)
  refine lv_bipush (v := 6) hx hb dX12_init_126 (by decide) (hp_n (n := 128) rfl ?_)
  refine lv_ldc2 hx hb hown (hts _ kc_X12_54) dX12_init_128 (hp_n (n := 131) rfl ?_)
  refine q_las (κ := 48) (n := 12) (j := 6) (pc' := 132) C Bh25 kh25 (by decide) rfl (vi_of (by decide) (by decide)) rfl (gx_sL Bh25.2.2 nh19.1) dX12_init_131 rfl (fun βh26 Hh26 Lh26 eh26 Bh26 => ?_)
  have Oh26 : co α a0 13 βh26 [666, 663, 662, 656, 655, 654, 651, 650] [(669, (-1)), (668, (-1))] := by rw [eh26]; exact co_sL Oh25
  have kh26 : hp_K βh26 ah19 = 48 := by rw [eh26]; exact kh25
  have lwh26 : ∀ j, j < 7 → hp_L βh26 48 ah19 j = ms_w j := by rw [eh26]; exact sL_step lwh25 rfl
  have zzh26 : ∀ ψ j, hp_E βh26 ψ ah19 j = 0 := by rw [eh26]; exact zzh25
  refine lv_dup hx hb dX12_init_132 rfl (hp_n (n := 133) rfl ?_)
  refine lv_bipush (v := 7) hx hb dX12_init_133 (by decide) (hp_n (n := 135) rfl ?_)
  refine lv_ldc2 hx hb hown (hts _ kc_X12_56) dX12_init_135 (hp_n (n := 138) rfl ?_)
  refine q_las (κ := 48) (n := 12) (j := 7) (pc' := 139) C Bh26 kh26 (by decide) rfl (vi_of (by decide) (by decide)) rfl (gx_sL Bh26.2.2 nh19.1) dX12_init_138 rfl (fun βh27 Hh27 Lh27 eh27 Bh27 => ?_)
  have Oh27 : co α a0 13 βh27 [666, 663, 662, 656, 655, 654, 651, 650] [(669, (-1)), (668, (-1))] := by rw [eh27]; exact co_sL Oh26
  have kh27 : hp_K βh27 ah19 = 48 := by rw [eh27]; exact kh26
  have lwh27 : ∀ j, j < 8 → hp_L βh27 48 ah19 j = ms_w j := by rw [eh27]; exact sL_step lwh26 rfl
  have zzh27 : ∀ ψ j, hp_E βh27 ψ ah19 j = 0 := by rw [eh27]; exact zzh26
  refine lv_dup hx hb dX12_init_139 rfl (hp_n (n := 140) rfl ?_)
  refine lv_bipush (v := 8) hx hb dX12_init_140 (by decide) (hp_n (n := 142) rfl ?_)
  refine lv_ldc2 hx hb hown (hts _ kc_X12_58) dX12_init_142 (hp_n (n := 145) rfl ?_)
  refine q_las (κ := 48) (n := 12) (j := 8) (pc' := 146) C Bh27 kh27 (by decide) rfl (vi_of (by decide) (by decide)) rfl (gx_sL Bh27.2.2 nh19.1) dX12_init_145 rfl (fun βh28 Hh28 Lh28 eh28 Bh28 => ?_)
  have Oh28 : co α a0 13 βh28 [666, 663, 662, 656, 655, 654, 651, 650] [(669, (-1)), (668, (-1))] := by rw [eh28]; exact co_sL Oh27
  have kh28 : hp_K βh28 ah19 = 48 := by rw [eh28]; exact kh27
  have lwh28 : ∀ j, j < 9 → hp_L βh28 48 ah19 j = ms_w j := by rw [eh28]; exact sL_step lwh27 rfl
  have zzh28 : ∀ ψ j, hp_E βh28 ψ ah19 j = 0 := by rw [eh28]; exact zzh27
  refine lv_dup hx hb dX12_init_146 rfl (hp_n (n := 147) rfl ?_)
  refine lv_bipush (v := 9) hx hb dX12_init_147 (by decide) (hp_n (n := 149) rfl ?_)
  refine lv_ldc2 hx hb hown (hts _ kc_X12_60) dX12_init_149 (hp_n (n := 152) rfl ?_)
  refine q_las (κ := 48) (n := 12) (j := 9) (pc' := 153) C Bh28 kh28 (by decide) rfl (vi_of (by decide) (by decide)) rfl (gx_sL Bh28.2.2 nh19.1) dX12_init_152 rfl (fun βh29 Hh29 Lh29 eh29 Bh29 => ?_)
  have Oh29 : co α a0 13 βh29 [666, 663, 662, 656, 655, 654, 651, 650] [(669, (-1)), (668, (-1))] := by rw [eh29]; exact co_sL Oh28
  have kh29 : hp_K βh29 ah19 = 48 := by rw [eh29]; exact kh28
  have lwh29 : ∀ j, j < 10 → hp_L βh29 48 ah19 j = ms_w j := by rw [eh29]; exact sL_step lwh28 rfl
  have zzh29 : ∀ ψ j, hp_E βh29 ψ ah19 j = 0 := by rw [eh29]; exact zzh28
  refine lv_dup hx hb dX12_init_153 rfl (hp_n (n := 154) rfl ?_)
  refine lv_bipush (v := 10) hx hb dX12_init_154 (by decide) (hp_n (n := 156) rfl ?_)
  refine lv_ldc2 hx hb hown (hts _ kc_X12_62) dX12_init_156 (hp_n (n := 159) rfl ?_)
  refine q_las (κ := 48) (n := 12) (j := 10) (pc' := 160) C Bh29 kh29 (by decide) rfl (vi_of (by decide) (by decide)) rfl (gx_sL Bh29.2.2 nh19.1) dX12_init_159 rfl (fun βh30 Hh30 Lh30 eh30 Bh30 => ?_)
  have Oh30 : co α a0 13 βh30 [666, 663, 662, 656, 655, 654, 651, 650] [(669, (-1)), (668, (-1))] := by rw [eh30]; exact co_sL Oh29
  have kh30 : hp_K βh30 ah19 = 48 := by rw [eh30]; exact kh29
  have lwh30 : ∀ j, j < 11 → hp_L βh30 48 ah19 j = ms_w j := by rw [eh30]; exact sL_step lwh29 rfl
  have zzh30 : ∀ ψ j, hp_E βh30 ψ ah19 j = 0 := by rw [eh30]; exact zzh29
  refine lv_dup hx hb dX12_init_160 rfl (hp_n (n := 161) rfl ?_)
  refine lv_bipush (v := 11) hx hb dX12_init_161 (by decide) (hp_n (n := 163) rfl ?_)
  refine lv_ldc2 hx hb hown (hts _ kc_X12_64) dX12_init_163 (hp_n (n := 166) rfl ?_)
  refine q_las (κ := 48) (n := 12) (j := 11) (pc' := 167) C Bh30 kh30 (by decide) rfl (vi_of (by decide) (by decide)) rfl (gx_sL Bh30.2.2 nh19.1) dX12_init_166 rfl (fun βh31 Hh31 Lh31 eh31 Bh31 => ?_)
  have Oh31 : co α a0 13 βh31 [666, 663, 662, 656, 655, 654, 651, 650] [(669, (-1)), (668, (-1))] := by rw [eh31]; exact co_sL Oh30
  have kh31 : hp_K βh31 ah19 = 48 := by rw [eh31]; exact kh30
  have lwh31 : ∀ j, j < 12 → hp_L βh31 48 ah19 j = ms_w j := by rw [eh31]; exact sL_step lwh30 rfl
  have zzh31 : ∀ ψ j, hp_E βh31 ψ ah19 j = 0 := by rw [eh31]; exact zzh30
  refine q_putnF (κ := 113) (k := 28) (φ := 678) (pc' := 170) C Bh31 Oh31.1 fl_X12_66 rfl rfl rfl hnm rfl rfl rfl rfl (gx_sN Bh31.2.2 Oh31) dX12_init_167 rfl (fun βh32 Hh32 Lh32 eh32 Bh32 => ?_)
  have Oh32 : co α a0 13 βh32 [678, 666, 663, 662, 656, 655, 654, 651, 650] [(669, (-1)), (668, (-1))] := by rw [eh32]; exact co_sN Oh31 ⟨Or.inl (by rw [kh31]; rfl), by rw [kh31]; decide, by rw [kh31]; decide, nh19.1, (fun _ j => zzh31 _ j)⟩
  have Xh32 : lwx βh32 a0 := by rw [eh32]; exact ⟨ah19, sN_at, by show hp_K βh31 ah19 ≠ 0; rw [kh31]; decide, lwh31⟩
  refine lv_aload_n hx hb dX12_init_170 rfl (lv_at hl 0 rfl) (hp_n (n := 171) rfl ?_)
  refine lv_bipush (v := 20) hx hb dX12_init_171 (by decide) (hp_n (n := 173) rfl ?_)
  refine q_newa (κ := 49) (t := 0) (n := 20) (atype := .int) (ty := .int) (dv := .int 0) (pc' := 175) C Bh32 ac_int rfl (by decide) rfl rfl (fun _ _ q => q) rfl (fun _ cA => nw_cx (by decide) cA) (by decide) (by decide +kernel) (Nat.le_of_ble_eq_true rfl) rfl (by omega) (by omega) dX12_init_173 rfl (fun q hq => gx_nw Bh32.2.2 (by decide) hq) (fun βh33 ah33 Hh33 fh33 eh33 Bh33 => ?_)
  have Xh33 : lwx βh33 a0 := by rw [eh33]; exact lwx_nw Xh32 (by rw [Oh32.1]; decide) fh33
  have nh33 := gx_new Bh32.2.2 Oh32 fh33
  have Oh33 : co α a0 13 βh33 [678, 666, 663, 662, 656, 655, 654, 651, 650] [(669, (-1)), (668, (-1))] := by rw [eh33]; exact co_nw Oh32 fh33
  have kh33 : hp_K βh33 ah33 = 49 := by rw [eh33]; exact nw_k
  refine W.widen (k := 10) (n := 5292) (by omega) (by omega) ?_
  refine q_putnF (κ := 113) (k := 30) (φ := 680) (pc' := 178) C Bh33 Oh33.1 fl_X12_70 rfl rfl rfl hnm rfl rfl rfl rfl (gx_sN Bh33.2.2 Oh33) dX12_init_175 rfl (fun βh34 Hh34 Lh34 eh34 Bh34 => ?_)
  have Oh34 : co α a0 13 βh34 [680, 678, 666, 663, 662, 656, 655, 654, 651, 650] [(669, (-1)), (668, (-1))] := by rw [eh34]; exact co_sN Oh33 ⟨Or.inl (by rw [kh33]; rfl), by rw [kh33]; decide, by rw [kh33]; decide, nh33.1, (fun _ j => by rw [eh33]; exact nw_e)⟩
  have Xh34 : lwx βh34 a0 := by rw [eh34]; exact lwx_sN Xh33 (by decide)
  refine lv_aload_n hx hb dX12_init_178 rfl (lv_at hl 0 rfl) (hp_n (n := 179) rfl ?_)
  refine lv_bipush (v := 20) hx hb dX12_init_179 (by decide) (hp_n (n := 181) rfl ?_)
  refine q_newa (κ := 50) (t := 0) (n := 20) (atype := .int) (ty := .int) (dv := .int 0) (pc' := 183) C Bh34 ac_int rfl (by decide) rfl rfl (fun _ _ q => q) rfl (fun _ cA => nw_cx (by decide) cA) (by decide) (by decide +kernel) (Nat.le_of_ble_eq_true rfl) rfl (by omega) (by omega) dX12_init_181 rfl (fun q hq => gx_nw Bh34.2.2 (by decide) hq) (fun βh35 ah35 Hh35 fh35 eh35 Bh35 => ?_)
  have Xh35 : lwx βh35 a0 := by rw [eh35]; exact lwx_nw Xh34 (by rw [Oh34.1]; decide) fh35
  have nh35 := gx_new Bh34.2.2 Oh34 fh35
  have Oh35 : co α a0 13 βh35 [680, 678, 666, 663, 662, 656, 655, 654, 651, 650] [(669, (-1)), (668, (-1))] := by rw [eh35]; exact co_nw Oh34 fh35
  have kh35 : hp_K βh35 ah35 = 50 := by rw [eh35]; exact nw_k
  refine W.widen (k := 11) (n := 5312) (by omega) (by omega) ?_
  refine q_putnF (κ := 113) (k := 31) (φ := 681) (pc' := 186) C Bh35 Oh35.1 fl_X12_73 rfl rfl rfl hnm rfl rfl rfl rfl (gx_sN Bh35.2.2 Oh35) dX12_init_183 rfl (fun βh36 Hh36 Lh36 eh36 Bh36 => ?_)
  have Oh36 : co α a0 13 βh36 [681, 680, 678, 666, 663, 662, 656, 655, 654, 651, 650] [(669, (-1)), (668, (-1))] := by rw [eh36]; exact co_sN Oh35 ⟨Or.inl (by rw [kh35]; rfl), by rw [kh35]; decide, by rw [kh35]; decide, nh35.1, (fun _ j => by rw [eh35]; exact nw_e)⟩
  have Xh36 : lwx βh36 a0 := by rw [eh36]; exact lwx_sN Xh35 (by decide)
  refine lv_aload_n hx hb dX12_init_186 rfl (lv_at hl 0 rfl) (hp_n (n := 187) rfl ?_)
  refine lv_bipush (v := 64) hx hb dX12_init_187 (by decide) (hp_n (n := 189) rfl ?_)
  refine q_newa (κ := 51) (t := 0) (n := 64) (atype := .int) (ty := .int) (dv := .int 0) (pc' := 191) C Bh36 ac_int rfl (by decide) rfl rfl (fun _ _ q => q) rfl (fun _ cA => nw_cx (by decide) cA) (by decide) (by decide +kernel) (Nat.le_of_ble_eq_true rfl) rfl (by omega) (by omega) dX12_init_189 rfl (fun q hq => gx_nw Bh36.2.2 (by decide) hq) (fun βh37 ah37 Hh37 fh37 eh37 Bh37 => ?_)
  have Xh37 : lwx βh37 a0 := by rw [eh37]; exact lwx_nw Xh36 (by rw [Oh36.1]; decide) fh37
  have nh37 := gx_new Bh36.2.2 Oh36 fh37
  have Oh37 : co α a0 13 βh37 [681, 680, 678, 666, 663, 662, 656, 655, 654, 651, 650] [(669, (-1)), (668, (-1))] := by rw [eh37]; exact co_nw Oh36 fh37
  have kh37 : hp_K βh37 ah37 = 51 := by rw [eh37]; exact nw_k
  refine W.widen (k := 12) (n := 5376) (by omega) (by omega) ?_
  refine q_putnF (κ := 113) (k := 36) (φ := 686) (pc' := 194) C Bh37 Oh37.1 fl_X12_76 rfl rfl rfl hnm rfl rfl rfl rfl (gx_sN Bh37.2.2 Oh37) dX12_init_191 rfl (fun βh38 Hh38 Lh38 eh38 Bh38 => ?_)
  have Oh38 : co α a0 13 βh38 [686, 681, 680, 678, 666, 663, 662, 656, 655, 654, 651, 650] [(669, (-1)), (668, (-1))] := by rw [eh38]; exact co_sN Oh37 ⟨Or.inl (by rw [kh37]; rfl), by rw [kh37]; decide, by rw [kh37]; decide, nh37.1, (fun _ j => by rw [eh37]; exact nw_e)⟩
  have Xh38 : lwx βh38 a0 := by rw [eh38]; exact lwx_sN Xh37 (by decide)
  refine lv_aload_n hx hb dX12_init_194 rfl (lv_at hl 0 rfl) (hp_n (n := 195) rfl ?_)
  refine lv_bipush (v := 64) hx hb dX12_init_195 (by decide) (hp_n (n := 197) rfl ?_)
  refine q_newa (κ := 52) (t := 0) (n := 64) (atype := .int) (ty := .int) (dv := .int 0) (pc' := 199) C Bh38 ac_int rfl (by decide) rfl rfl (fun _ _ q => q) rfl (fun _ cA => nw_cx (by decide) cA) (by decide) (by decide +kernel) (Nat.le_of_ble_eq_true rfl) rfl (by omega) (by omega) dX12_init_197 rfl (fun q hq => gx_nw Bh38.2.2 (by decide) hq) (fun βh39 ah39 Hh39 fh39 eh39 Bh39 => ?_)
  have Xh39 : lwx βh39 a0 := by rw [eh39]; exact lwx_nw Xh38 (by rw [Oh38.1]; decide) fh39
  have nh39 := gx_new Bh38.2.2 Oh38 fh39
  have Oh39 : co α a0 13 βh39 [686, 681, 680, 678, 666, 663, 662, 656, 655, 654, 651, 650] [(669, (-1)), (668, (-1))] := by rw [eh39]; exact co_nw Oh38 fh39
  have kh39 : hp_K βh39 ah39 = 52 := by rw [eh39]; exact nw_k
  refine W.widen (k := 13) (n := 5440) (by omega) (by omega) ?_
  refine q_putnF (κ := 113) (k := 37) (φ := 687) (pc' := 202) C Bh39 Oh39.1 fl_X12_79 rfl rfl rfl hnm rfl rfl rfl rfl (gx_sN Bh39.2.2 Oh39) dX12_init_199 rfl (fun βh40 Hh40 Lh40 eh40 Bh40 => ?_)
  have Oh40 : co α a0 13 βh40 [687, 686, 681, 680, 678, 666, 663, 662, 656, 655, 654, 651, 650] [(669, (-1)), (668, (-1))] := by rw [eh40]; exact co_sN Oh39 ⟨Or.inl (by rw [kh39]; rfl), by rw [kh39]; decide, by rw [kh39]; decide, nh39.1, (fun _ j => by rw [eh39]; exact nw_e)⟩
  have Xh40 : lwx βh40 a0 := by rw [eh40]; exact lwx_sN Xh39 (by decide)
  refine lv_aload_n hx hb dX12_init_202 rfl (lv_at hl 0 rfl) (hp_n (n := 203) rfl ?_)
  refine lv_bipush (v := 64) hx hb dX12_init_203 (by decide) (hp_n (n := 205) rfl ?_)
  refine q_newa (κ := 53) (t := 0) (n := 64) (atype := .int) (ty := .int) (dv := .int 0) (pc' := 207) C Bh40 ac_int rfl (by decide) rfl rfl (fun _ _ q => q) rfl (fun _ cA => nw_cx (by decide) cA) (by decide) (by decide +kernel) (Nat.le_of_ble_eq_true rfl) rfl (by omega) (by omega) dX12_init_205 rfl (fun q hq => gx_nw Bh40.2.2 (by decide) hq) (fun βh41 ah41 Hh41 fh41 eh41 Bh41 => ?_)
  have Xh41 : lwx βh41 a0 := by rw [eh41]; exact lwx_nw Xh40 (by rw [Oh40.1]; decide) fh41
  have nh41 := gx_new Bh40.2.2 Oh40 fh41
  have Oh41 : co α a0 13 βh41 [687, 686, 681, 680, 678, 666, 663, 662, 656, 655, 654, 651, 650] [(669, (-1)), (668, (-1))] := by rw [eh41]; exact co_nw Oh40 fh41
  have kh41 : hp_K βh41 ah41 = 53 := by rw [eh41]; exact nw_k
  refine W.widen (k := 14) (n := 5504) (by omega) (by omega) ?_
  refine q_putnF (κ := 113) (k := 38) (φ := 688) (pc' := 210) C Bh41 Oh41.1 fl_X12_82 rfl rfl rfl hnm rfl rfl rfl rfl (gx_sN Bh41.2.2 Oh41) dX12_init_207 rfl (fun βh42 Hh42 Lh42 eh42 Bh42 => ?_)
  have Oh42 : co α a0 13 βh42 [688, 687, 686, 681, 680, 678, 666, 663, 662, 656, 655, 654, 651, 650] [(669, (-1)), (668, (-1))] := by rw [eh42]; exact co_sN Oh41 ⟨Or.inl (by rw [kh41]; rfl), by rw [kh41]; decide, by rw [kh41]; decide, nh41.1, (fun _ j => by rw [eh41]; exact nw_e)⟩
  have Xh42 : lwx βh42 a0 := by rw [eh42]; exact lwx_sN Xh41 (by decide)
  refine lv_aload_n hx hb dX12_init_210 rfl (lv_at hl 0 rfl) (hp_n (n := 211) rfl ?_)
  refine lv_bipush (v := 64) hx hb dX12_init_211 (by decide) (hp_n (n := 213) rfl ?_)
  refine q_newa (κ := 54) (t := 0) (n := 64) (atype := .int) (ty := .int) (dv := .int 0) (pc' := 215) C Bh42 ac_int rfl (by decide) rfl rfl (fun _ _ q => q) rfl (fun _ cA => nw_cx (by decide) cA) (by decide) (by decide +kernel) (Nat.le_of_ble_eq_true rfl) rfl (by omega) (by omega) dX12_init_213 rfl (fun q hq => gx_nw Bh42.2.2 (by decide) hq) (fun βh43 ah43 Hh43 fh43 eh43 Bh43 => ?_)
  have Xh43 : lwx βh43 a0 := by rw [eh43]; exact lwx_nw Xh42 (by rw [Oh42.1]; decide) fh43
  have nh43 := gx_new Bh42.2.2 Oh42 fh43
  have Oh43 : co α a0 13 βh43 [688, 687, 686, 681, 680, 678, 666, 663, 662, 656, 655, 654, 651, 650] [(669, (-1)), (668, (-1))] := by rw [eh43]; exact co_nw Oh42 fh43
  have kh43 : hp_K βh43 ah43 = 54 := by rw [eh43]; exact nw_k
  refine W.widen (k := 15) (n := 5568) (by omega) (by omega) ?_
  refine q_putnF (κ := 113) (k := 40) (φ := 690) (pc' := 218) C Bh43 Oh43.1 fl_X12_85 rfl rfl rfl hnm rfl rfl rfl rfl (gx_sN Bh43.2.2 Oh43) dX12_init_215 rfl (fun βh44 Hh44 Lh44 eh44 Bh44 => ?_)
  have Oh44 : co α a0 13 βh44 [690, 688, 687, 686, 681, 680, 678, 666, 663, 662, 656, 655, 654, 651, 650] [(669, (-1)), (668, (-1))] := by rw [eh44]; exact co_sN Oh43 ⟨Or.inl (by rw [kh43]; rfl), by rw [kh43]; decide, by rw [kh43]; decide, nh43.1, (fun _ j => by rw [eh43]; exact nw_e)⟩
  have Xh44 : lwx βh44 a0 := by rw [eh44]; exact lwx_sN Xh43 (by decide)
  refine lv_aload_n hx hb dX12_init_218 rfl (lv_at hl 0 rfl) (hp_n (n := 219) rfl ?_)
  refine lv_bipush (v := 64) hx hb dX12_init_219 (by decide) (hp_n (n := 221) rfl ?_)
  refine q_newa (κ := 55) (t := 0) (n := 64) (atype := .int) (ty := .int) (dv := .int 0) (pc' := 223) C Bh44 ac_int rfl (by decide) rfl rfl (fun _ _ q => q) rfl (fun _ cA => nw_cx (by decide) cA) (by decide) (by decide +kernel) (Nat.le_of_ble_eq_true rfl) rfl (by omega) (by omega) dX12_init_221 rfl (fun q hq => gx_nw Bh44.2.2 (by decide) hq) (fun βh45 ah45 Hh45 fh45 eh45 Bh45 => ?_)
  have Xh45 : lwx βh45 a0 := by rw [eh45]; exact lwx_nw Xh44 (by rw [Oh44.1]; decide) fh45
  have nh45 := gx_new Bh44.2.2 Oh44 fh45
  have Oh45 : co α a0 13 βh45 [690, 688, 687, 686, 681, 680, 678, 666, 663, 662, 656, 655, 654, 651, 650] [(669, (-1)), (668, (-1))] := by rw [eh45]; exact co_nw Oh44 fh45
  have kh45 : hp_K βh45 ah45 = 55 := by rw [eh45]; exact nw_k
  refine W.widen (k := 16) (n := 5632) (by omega) (by omega) ?_
  refine q_putnF (κ := 113) (k := 41) (φ := 691) (pc' := 226) C Bh45 Oh45.1 fl_X12_88 rfl rfl rfl hnm rfl rfl rfl rfl (gx_sN Bh45.2.2 Oh45) dX12_init_223 rfl (fun βh46 Hh46 Lh46 eh46 Bh46 => ?_)
  have Oh46 : co α a0 13 βh46 [691, 690, 688, 687, 686, 681, 680, 678, 666, 663, 662, 656, 655, 654, 651, 650] [(669, (-1)), (668, (-1))] := by rw [eh46]; exact co_sN Oh45 ⟨Or.inl (by rw [kh45]; rfl), by rw [kh45]; decide, by rw [kh45]; decide, nh45.1, (fun _ j => by rw [eh45]; exact nw_e)⟩
  have Xh46 : lwx βh46 a0 := by rw [eh46]; exact lwx_sN Xh45 (by decide)
  refine lv_aload_n hx hb dX12_init_226 rfl (lv_at hl 0 rfl) (hp_n (n := 227) rfl ?_)
  refine lv_bipush (v := 64) hx hb dX12_init_227 (by decide) (hp_n (n := 229) rfl ?_)
  refine q_newa (κ := 56) (t := 0) (n := 64) (atype := .int) (ty := .int) (dv := .int 0) (pc' := 231) C Bh46 ac_int rfl (by decide) rfl rfl (fun _ _ q => q) rfl (fun _ cA => nw_cx (by decide) cA) (by decide) (by decide +kernel) (Nat.le_of_ble_eq_true rfl) rfl (by omega) (by omega) dX12_init_229 rfl (fun q hq => gx_nw Bh46.2.2 (by decide) hq) (fun βh47 ah47 Hh47 fh47 eh47 Bh47 => ?_)
  have Xh47 : lwx βh47 a0 := by rw [eh47]; exact lwx_nw Xh46 (by rw [Oh46.1]; decide) fh47
  have nh47 := gx_new Bh46.2.2 Oh46 fh47
  have Oh47 : co α a0 13 βh47 [691, 690, 688, 687, 686, 681, 680, 678, 666, 663, 662, 656, 655, 654, 651, 650] [(669, (-1)), (668, (-1))] := by rw [eh47]; exact co_nw Oh46 fh47
  have kh47 : hp_K βh47 ah47 = 56 := by rw [eh47]; exact nw_k
  refine W.widen (k := 17) (n := 5696) (by omega) (by omega) ?_
  refine q_putnF (κ := 113) (k := 42) (φ := 692) (pc' := 234) C Bh47 Oh47.1 fl_X12_91 rfl rfl rfl hnm rfl rfl rfl rfl (gx_sN Bh47.2.2 Oh47) dX12_init_231 rfl (fun βh48 Hh48 Lh48 eh48 Bh48 => ?_)
  have Oh48 : co α a0 13 βh48 [692, 691, 690, 688, 687, 686, 681, 680, 678, 666, 663, 662, 656, 655, 654, 651, 650] [(669, (-1)), (668, (-1))] := by rw [eh48]; exact co_sN Oh47 ⟨Or.inl (by rw [kh47]; rfl), by rw [kh47]; decide, by rw [kh47]; decide, nh47.1, (fun _ j => by rw [eh47]; exact nw_e)⟩
  have Xh48 : lwx βh48 a0 := by rw [eh48]; exact lwx_sN Xh47 (by decide)
  refine lv_aload_n hx hb dX12_init_234 rfl (lv_at hl 0 rfl) (hp_n (n := 235) rfl ?_)
  refine lv_sipush (v := 256) hx hb dX12_init_235 (by decide) (hp_n (n := 238) rfl ?_)
  refine q_newa (κ := 57) (t := 0) (n := 256) (atype := .int) (ty := .int) (dv := .int 0) (pc' := 240) C Bh48 ac_int rfl (by decide) rfl rfl (fun _ _ q => q) rfl (fun _ cA => nw_cx (by decide) cA) (by decide) (by decide +kernel) (Nat.le_of_ble_eq_true rfl) rfl (by omega) (by omega) dX12_init_238 rfl (fun q hq => gx_nw Bh48.2.2 (by decide) hq) (fun βh49 ah49 Hh49 fh49 eh49 Bh49 => ?_)
  have Xh49 : lwx βh49 a0 := by rw [eh49]; exact lwx_nw Xh48 (by rw [Oh48.1]; decide) fh49
  have nh49 := gx_new Bh48.2.2 Oh48 fh49
  have Oh49 : co α a0 13 βh49 [692, 691, 690, 688, 687, 686, 681, 680, 678, 666, 663, 662, 656, 655, 654, 651, 650] [(669, (-1)), (668, (-1))] := by rw [eh49]; exact co_nw Oh48 fh49
  have kh49 : hp_K βh49 ah49 = 57 := by rw [eh49]; exact nw_k
  refine W.widen (k := 18) (n := 5952) (by omega) (by omega) ?_
  refine q_putnF (κ := 113) (k := 43) (φ := 693) (pc' := 243) C Bh49 Oh49.1 fl_X12_94 rfl rfl rfl hnm rfl rfl rfl rfl (gx_sN Bh49.2.2 Oh49) dX12_init_240 rfl (fun βh50 Hh50 Lh50 eh50 Bh50 => ?_)
  have Oh50 : co α a0 13 βh50 [693, 692, 691, 690, 688, 687, 686, 681, 680, 678, 666, 663, 662, 656, 655, 654, 651, 650] [(669, (-1)), (668, (-1))] := by rw [eh50]; exact co_sN Oh49 ⟨Or.inl (by rw [kh49]; rfl), by rw [kh49]; decide, by rw [kh49]; decide, nh49.1, (fun _ j => by rw [eh49]; exact nw_e)⟩
  have Xh50 : lwx βh50 a0 := by rw [eh50]; exact lwx_sN Xh49 (by decide)
  refine lv_aload_n hx hb dX12_init_243 rfl (lv_at hl 0 rfl) (hp_n (n := 244) rfl ?_)
  refine lv_sipush (v := 256) hx hb dX12_init_244 (by decide) (hp_n (n := 247) rfl ?_)
  refine q_newa (κ := 58) (t := 0) (n := 256) (atype := .int) (ty := .int) (dv := .int 0) (pc' := 249) C Bh50 ac_int rfl (by decide) rfl rfl (fun _ _ q => q) rfl (fun _ cA => nw_cx (by decide) cA) (by decide) (by decide +kernel) (Nat.le_of_ble_eq_true rfl) rfl (by omega) (by omega) dX12_init_247 rfl (fun q hq => gx_nw Bh50.2.2 (by decide) hq) (fun βh51 ah51 Hh51 fh51 eh51 Bh51 => ?_)
  have Xh51 : lwx βh51 a0 := by rw [eh51]; exact lwx_nw Xh50 (by rw [Oh50.1]; decide) fh51
  have nh51 := gx_new Bh50.2.2 Oh50 fh51
  have Oh51 : co α a0 13 βh51 [693, 692, 691, 690, 688, 687, 686, 681, 680, 678, 666, 663, 662, 656, 655, 654, 651, 650] [(669, (-1)), (668, (-1))] := by rw [eh51]; exact co_nw Oh50 fh51
  have kh51 : hp_K βh51 ah51 = 58 := by rw [eh51]; exact nw_k
  refine W.widen (k := 19) (n := 6208) (by omega) (by omega) ?_
  refine q_putnF (κ := 113) (k := 44) (φ := 694) (pc' := 252) C Bh51 Oh51.1 fl_X12_97 rfl rfl rfl hnm rfl rfl rfl rfl (gx_sN Bh51.2.2 Oh51) dX12_init_249 rfl (fun βh52 Hh52 Lh52 eh52 Bh52 => ?_)
  have Oh52 : co α a0 13 βh52 [694, 693, 692, 691, 690, 688, 687, 686, 681, 680, 678, 666, 663, 662, 656, 655, 654, 651, 650] [(669, (-1)), (668, (-1))] := by rw [eh52]; exact co_sN Oh51 ⟨Or.inl (by rw [kh51]; rfl), by rw [kh51]; decide, by rw [kh51]; decide, nh51.1, (fun _ j => by rw [eh51]; exact nw_e)⟩
  have Xh52 : lwx βh52 a0 := by rw [eh52]; exact lwx_sN Xh51 (by decide)
  refine lv_aload_n hx hb dX12_init_252 rfl (lv_at hl 0 rfl) (hp_n (n := 253) rfl ?_)
  refine lv_sipush (v := 900) hx hb dX12_init_253 (by decide) (hp_n (n := 256) rfl ?_)
  refine q_newa (κ := 59) (t := 0) (n := 900) (atype := .int) (ty := .int) (dv := .int 0) (pc' := 258) C Bh52 ac_int rfl (by decide) rfl rfl (fun _ _ q => q) rfl (fun _ cA => nw_cx (by decide) cA) (by decide) (by decide +kernel) (Nat.le_of_ble_eq_true rfl) rfl (by omega) (by omega) dX12_init_256 rfl (fun q hq => gx_nw Bh52.2.2 (by decide) hq) (fun βh53 ah53 Hh53 fh53 eh53 Bh53 => ?_)
  have Xh53 : lwx βh53 a0 := by rw [eh53]; exact lwx_nw Xh52 (by rw [Oh52.1]; decide) fh53
  have nh53 := gx_new Bh52.2.2 Oh52 fh53
  have Oh53 : co α a0 13 βh53 [694, 693, 692, 691, 690, 688, 687, 686, 681, 680, 678, 666, 663, 662, 656, 655, 654, 651, 650] [(669, (-1)), (668, (-1))] := by rw [eh53]; exact co_nw Oh52 fh53
  have kh53 : hp_K βh53 ah53 = 59 := by rw [eh53]; exact nw_k
  refine W.widen (k := 20) (n := 7108) (by omega) (by omega) ?_
  refine q_putnF (κ := 113) (k := 46) (φ := 696) (pc' := 261) C Bh53 Oh53.1 fl_X12_100 rfl rfl rfl hnm rfl rfl rfl rfl (gx_sN Bh53.2.2 Oh53) dX12_init_258 rfl (fun βh54 Hh54 Lh54 eh54 Bh54 => ?_)
  have Oh54 : co α a0 13 βh54 [696, 694, 693, 692, 691, 690, 688, 687, 686, 681, 680, 678, 666, 663, 662, 656, 655, 654, 651, 650] [(669, (-1)), (668, (-1))] := by rw [eh54]; exact co_sN Oh53 ⟨Or.inl (by rw [kh53]; rfl), by rw [kh53]; decide, by rw [kh53]; decide, nh53.1, (fun _ j => by rw [eh53]; exact nw_e)⟩
  have Xh54 : lwx βh54 a0 := by rw [eh54]; exact lwx_sN Xh53 (by decide)
  refine lv_aload_n hx hb dX12_init_261 rfl (lv_at hl 0 rfl) (hp_n (n := 262) rfl ?_)
  obtain ⟨Bc, kc, fc, zc, xc⟩ := co_fin Bh54 Oh54 (by decide) (by decide +kernel) (by decide +kernel) (fun q => absurd q (by decide))
  obtain ⟨ρ, σ, hM, hσ, hE0⟩ := hm_make2 kc xc (by decide) Xh54
  obtain ⟨τ, hτ, hp⟩ := s_clears 2000 (by decide) σ
  have Bt : hp_B Γ (fun _ _ => True) s α (hp_cv βh54 a0 13) Hh54 Lh54 := ⟨Bc.1, Bc.2.1, trivial⟩
  refine q_cv (pc' := 265) Bt (hp_runV (As := []) (rest := []) C Bt (m_X12_clears 2000 Γ l (hp_cv βh54 a0 13) a0 ρ σ hM τ hτ) lb_X12_clears lv_X12_clears lk_X12_103 kc rfl (by decide) rfl hl.1 rfl (Nat.le_of_ble_eq_true rfl) dX12_init_262 ⟨by omega, by omega⟩) (fun _ _ => trivial) rfl (fun βe He Le pe Be => ?_)
  refine W.widen (k := 20) (n := 7108) (by omega) (by omega) ?_
  refine q_vret C Be hr hlk ⟨gc_mo pe.1 Bc.2.2.1, fun b h1 h2 => ?_, ρ, τ, pe.2, ⟨⟨?_, ?_, ?_, ?_⟩, cl_rC hp⟩, ?_⟩ dX12_init_265
  · have hs := Bc.2.2.2 b h1 h2
    exact ⟨by rw [pe.1.1]; exact hs.1, fun φ hφ => by rw [pe.1.2.2.2.2.2.1 φ hφ]; exact hs.2.1 φ, fun φ => by rw [pe.1.2.1]; exact hs.2.2.2.1 φ, fun φ => by rw [pe.1.2.2.1]; exact hs.2.2.2.2.1 φ, fun κ j hκ => by rw [pe.1.2.2.2.2.2.2 κ hκ]; exact hs.2.2.2.2.2.1 κ j, fun κ j => by rw [pe.1.2.2.2.1]; exact hs.2.2.2.2.2.2.2 κ j⟩
  · rw [hp.1, hσ, zc 664 (by decide)]; decide
  · rw [hp.1, hσ, zc 667 (by decide)]; decide
  · rw [hp.1, hσ, zc 682 (by decide)]; decide
  · rw [hp.1, hσ, zc 697 (by decide)]; decide
  · refine ⟨fun φ => ?_, fun κ j h1 h2 h3 h4 => ?_, hp.2.2.1, hp.2.2.2.1, hp.2.2.2.2⟩
    · rw [hp.1, hσ]
      split
      · rename_i h
        rcases h with rfl | rfl
        · exact fc (668, -1) (by decide)
        · exact fc (669, -1) (by decide)
      · rename_i h
        refine zc φ (fun q hq e => h ?_)
        rcases List.mem_cons.mp hq with r | hq
        · rw [r] at e; exact Or.inr e.symm
        · rcases List.mem_cons.mp hq with r | hq
          · rw [r] at e; exact Or.inl e.symm
          · cases hq
    · rw [hp.2.1 κ j h3]; exact hE0 κ j h1 h2 h4
end JN9_1
section JN9_2
/-! ===== what the constructors make, and what they leave ===== -/
theorem sa_cv {α : hp_T} {a κ b : Nat} (hb : b ≠ a) : sa α (hp_cv α a κ) b := by
  refine ⟨?_, fun _ => rfl, fun _ => rfl, fun φ => ?_, fun _ => rfl, fun _ _ => rfl, fun _ _ => rfl, fun _ _ => rfl⟩
  · simp [hp_K, hp_cv, hb]
  · simp [hp_R, hp_cv, hb]
theorem cv_R {α : hp_T} {a κ φ v : Nat} (h : hp_N α φ a = some v) : hp_R (hp_cv α a κ) φ a = v := by
  have h2 : α.2.2.2.2.1 φ a = some v := h
  simp [hp_R, hp_cv, h2]
theorem hI_sN {α : hp_T} {φ ψ a b : Nat} {x : Option Nat} : hp_I (hp_sN α φ a x) ψ b = hp_I α ψ b := rfl
theorem hN_sI {α : hp_T} {φ ψ a b : Nat} {v : Int32} : hp_N (hp_sI α φ a v) ψ b = hp_N α ψ b := rfl
theorem sN_ne {α : hp_T} {φ ψ a b : Nat} {x : Option Nat} (h : ψ ≠ φ) : hp_N (hp_sN α φ a x) ψ b = hp_N α ψ b := by simp [hp_N, hp_sN, hp_up, h]
theorem tl_X5_3 (α : hp_T) (h a : Nat) (b : Nat) (hb : b ≠ a) : sa (F_X5_init_3 α h a) (F_X5_init α h a) b := sa_cv hb
theorem tl_X5_2 (α : hp_T) (h a : Nat) (b : Nat) (hb : b ≠ a) (hq : b < h + 1 ∨ h + 1 ≤ b) : sa (F_X5_init_2 α h a) (F_X5_init α h a) b := sa_tr (sa_sI hb) (tl_X5_3 α h a b hb)
theorem tl_X5_1 (α : hp_T) (h a : Nat) (b : Nat) (hb : b ≠ a) (hq : b < h + 1 ∨ h + 1 ≤ b) : sa (F_X5_init_1 α h a) (F_X5_init α h a) b := sa_tr (sa_sN hb) (tl_X5_2 α h a b hb (by omega))
theorem tl_X5_0 (α : hp_T) (h a : Nat) (b : Nat) (hb : b ≠ a) (hq : b < h + 0 ∨ h + 1 ≤ b) : sa (F_X5_init_0 α h a) (F_X5_init α h a) b := sa_tr (sa_nw (by omega)) (tl_X5_1 α h a b hb (by omega))
theorem fr_X5 (α : hp_T) (h a : Nat) (ha : a < h) (b : Nat) (hb : b ≠ a) (hq : b < h ∨ h + 1 ≤ b) : sa α (F_X5_init α h a) b := tl_X5_0 α h a b hb (by omega)
theorem ka_X5_3 (α : hp_T) (h a : Nat) (ha : a < h) (φ : Nat) (hφ : φ ≠ 301) : hp_N (F_X5_init_3 α h a) φ a = hp_N (F_X5_init_2 α h a) φ a ∧ hp_I (F_X5_init_3 α h a) φ a = hp_I (F_X5_init_2 α h a) φ a := ⟨hN_sI, hp_I_ne hφ⟩
theorem fd_X5_300 (α : hp_T) (h a : Nat) (ha : a < h) : hp_R (F_X5_init α h a) 300 a = h + 0 := cv_R ((ka_X5_3 α h a ha 300 (by decide)).1.trans (show hp_N (hp_sN (F_X5_init_1 α h a) 300 a (some (h + (0)))) 300 a = some (h + (0)) from sN_at))
theorem tl_X9_3 (α : hp_T) (h a : Nat) (b : Nat) (hb : b ≠ a) : sa (F_X9_init_3 α h a) (F_X9_init α h a) b := sa_cv hb
theorem tl_X9_2 (α : hp_T) (h a : Nat) (b : Nat) (hb : b ≠ a) (hq : b < h + 1 ∨ h + 1 ≤ b) : sa (F_X9_init_2 α h a) (F_X9_init α h a) b := sa_tr (sa_sI hb) (tl_X9_3 α h a b hb)
theorem tl_X9_1 (α : hp_T) (h a : Nat) (b : Nat) (hb : b ≠ a) (hq : b < h + 1 ∨ h + 1 ≤ b) : sa (F_X9_init_1 α h a) (F_X9_init α h a) b := sa_tr (sa_sN hb) (tl_X9_2 α h a b hb (by omega))
theorem tl_X9_0 (α : hp_T) (h a : Nat) (b : Nat) (hb : b ≠ a) (hq : b < h + 0 ∨ h + 1 ≤ b) : sa (F_X9_init_0 α h a) (F_X9_init α h a) b := sa_tr (sa_nw (by omega)) (tl_X9_1 α h a b hb (by omega))
theorem fr_X9 (α : hp_T) (h a : Nat) (ha : a < h) (b : Nat) (hb : b ≠ a) (hq : b < h ∨ h + 1 ≤ b) : sa α (F_X9_init α h a) b := tl_X9_0 α h a b hb (by omega)
theorem ka_X9_3 (α : hp_T) (h a : Nat) (ha : a < h) (φ : Nat) (hφ : φ ≠ 501) : hp_N (F_X9_init_3 α h a) φ a = hp_N (F_X9_init_2 α h a) φ a ∧ hp_I (F_X9_init_3 α h a) φ a = hp_I (F_X9_init_2 α h a) φ a := ⟨hN_sI, hp_I_ne hφ⟩
theorem fd_X9_500 (α : hp_T) (h a : Nat) (ha : a < h) : hp_R (F_X9_init α h a) 500 a = h + 0 := cv_R ((ka_X9_3 α h a ha 500 (by decide)).1.trans (show hp_N (hp_sN (F_X9_init_1 α h a) 500 a (some (h + (0)))) 500 a = some (h + (0)) from sN_at))
theorem fd_X9_501 (α : hp_T) (h a : Nat) (ha : a < h) : hp_I (F_X9_init α h a) 501 a = 0 := (show hp_I (hp_sI (F_X9_init_2 α h a) 501 a 0) 501 a = 0 from hp_I_at)
theorem tl_X7_4 (α : hp_T) (h a : Nat) (b : Nat) (hb : b ≠ a) : sa (F_X7_init_4 α h a) (F_X7_init α h a) b := sa_cv hb
theorem tl_X7_3 (α : hp_T) (h a : Nat) (b : Nat) (hb : b ≠ a) (hq : b < h + 0 ∨ h + 0 ≤ b) : sa (F_X7_init_3 α h a) (F_X7_init α h a) b := sa_tr (sa_sI hb) (tl_X7_4 α h a b hb)
theorem tl_X7_2 (α : hp_T) (h a : Nat) (b : Nat) (hb : b ≠ a) (hq : b < h + 0 ∨ h + 0 ≤ b) : sa (F_X7_init_2 α h a) (F_X7_init α h a) b := sa_tr (sa_sI hb) (tl_X7_3 α h a b hb (by omega))
theorem tl_X7_1 (α : hp_T) (h a : Nat) (b : Nat) (hb : b ≠ a) (hq : b < h + 0 ∨ h + 0 ≤ b) : sa (F_X7_init_1 α h a) (F_X7_init α h a) b := sa_tr (sa_sI hb) (tl_X7_2 α h a b hb (by omega))
theorem tl_X7_0 (α : hp_T) (h a : Nat) (b : Nat) (hb : b ≠ a) (hq : b < h + 0 ∨ h + 0 ≤ b) : sa (F_X7_init_0 α h a) (F_X7_init α h a) b := sa_tr (sa_sI hb) (tl_X7_1 α h a b hb (by omega))
theorem fr_X7 (α : hp_T) (h a : Nat) (ha : a < h) (b : Nat) (hb : b ≠ a) (hq : b < h ∨ h + 0 ≤ b) : sa α (F_X7_init α h a) b := tl_X7_0 α h a b hb (by omega)
theorem ka_X7_2 (α : hp_T) (h a : Nat) (ha : a < h) (φ : Nat) (hφ : φ ≠ 401) : hp_N (F_X7_init_2 α h a) φ a = hp_N (F_X7_init_1 α h a) φ a ∧ hp_I (F_X7_init_2 α h a) φ a = hp_I (F_X7_init_1 α h a) φ a := ⟨hN_sI, hp_I_ne hφ⟩
theorem ka_X7_3 (α : hp_T) (h a : Nat) (ha : a < h) (φ : Nat) (hφ : φ ≠ 402) : hp_N (F_X7_init_3 α h a) φ a = hp_N (F_X7_init_2 α h a) φ a ∧ hp_I (F_X7_init_3 α h a) φ a = hp_I (F_X7_init_2 α h a) φ a := ⟨hN_sI, hp_I_ne hφ⟩
theorem ka_X7_4 (α : hp_T) (h a : Nat) (ha : a < h) (φ : Nat) (hφ : φ ≠ 403) : hp_N (F_X7_init_4 α h a) φ a = hp_N (F_X7_init_3 α h a) φ a ∧ hp_I (F_X7_init_4 α h a) φ a = hp_I (F_X7_init_3 α h a) φ a := ⟨hN_sI, hp_I_ne hφ⟩
theorem fd_X7_400 (α : hp_T) (h a : Nat) (ha : a < h) : hp_I (F_X7_init α h a) 400 a = 0 := ((ka_X7_4 α h a ha 400 (by decide)).2.trans ((ka_X7_3 α h a ha 400 (by decide)).2.trans ((ka_X7_2 α h a ha 400 (by decide)).2.trans (show hp_I (hp_sI (F_X7_init_0 α h a) 400 a 0) 400 a = 0 from hp_I_at))))
theorem fd_X7_401 (α : hp_T) (h a : Nat) (ha : a < h) : hp_I (F_X7_init α h a) 401 a = 0 := ((ka_X7_4 α h a ha 401 (by decide)).2.trans ((ka_X7_3 α h a ha 401 (by decide)).2.trans (show hp_I (hp_sI (F_X7_init_1 α h a) 401 a 0) 401 a = 0 from hp_I_at)))
theorem fd_X7_402 (α : hp_T) (h a : Nat) (ha : a < h) : hp_I (F_X7_init α h a) 402 a = 0 := ((ka_X7_4 α h a ha 402 (by decide)).2.trans (show hp_I (hp_sI (F_X7_init_2 α h a) 402 a 0) 402 a = 0 from hp_I_at))
theorem fd_X7_403 (α : hp_T) (h a : Nat) (ha : a < h) : hp_I (F_X7_init α h a) 403 a = 0 := (show hp_I (hp_sI (F_X7_init_3 α h a) 403 a 0) 403 a = 0 from hp_I_at)
theorem tl_X8_8 (α : hp_T) (h a : Nat) (b : Nat) (hb : b ≠ a) : sa (F_X8_init_8 α h a) (F_X8_init α h a) b := sa_cv hb
theorem tl_X8_7 (α : hp_T) (h a : Nat) (b : Nat) (hb : b ≠ a) (hq : b < h + 3 ∨ h + 3 ≤ b) : sa (F_X8_init_7 α h a) (F_X8_init α h a) b := sa_tr (sa_sI hb) (tl_X8_8 α h a b hb)
theorem tl_X8_6 (α : hp_T) (h a : Nat) (b : Nat) (hb : b ≠ a) (hq : b < h + 3 ∨ h + 3 ≤ b) : sa (F_X8_init_6 α h a) (F_X8_init α h a) b := sa_tr (sa_sI hb) (tl_X8_7 α h a b hb (by omega))
theorem tl_X8_5 (α : hp_T) (h a : Nat) (b : Nat) (hb : b ≠ a) (hq : b < h + 3 ∨ h + 3 ≤ b) : sa (F_X8_init_5 α h a) (F_X8_init α h a) b := sa_tr (sa_sN hb) (tl_X8_6 α h a b hb (by omega))
theorem tl_X8_4 (α : hp_T) (h a : Nat) (b : Nat) (hb : b ≠ a) (hq : b < h + 2 ∨ h + 3 ≤ b) : sa (F_X8_init_4 α h a) (F_X8_init α h a) b := sa_tr (sa_nw (by omega)) (tl_X8_5 α h a b hb (by omega))
theorem tl_X8_3 (α : hp_T) (h a : Nat) (b : Nat) (hb : b ≠ a) (hq : b < h + 2 ∨ h + 3 ≤ b) : sa (F_X8_init_3 α h a) (F_X8_init α h a) b := sa_tr (sa_sN hb) (tl_X8_4 α h a b hb (by omega))
theorem tl_X8_2 (α : hp_T) (h a : Nat) (b : Nat) (hb : b ≠ a) (hq : b < h + 1 ∨ h + 3 ≤ b) : sa (F_X8_init_2 α h a) (F_X8_init α h a) b := sa_tr (sa_nw (by omega)) (tl_X8_3 α h a b hb (by omega))
theorem tl_X8_1 (α : hp_T) (h a : Nat) (b : Nat) (hb : b ≠ a) (hq : b < h + 1 ∨ h + 3 ≤ b) : sa (F_X8_init_1 α h a) (F_X8_init α h a) b := sa_tr (sa_sN hb) (tl_X8_2 α h a b hb (by omega))
theorem tl_X8_0 (α : hp_T) (h a : Nat) (b : Nat) (hb : b ≠ a) (hq : b < h + 0 ∨ h + 3 ≤ b) : sa (F_X8_init_0 α h a) (F_X8_init α h a) b := sa_tr (sa_nw (by omega)) (tl_X8_1 α h a b hb (by omega))
theorem fr_X8 (α : hp_T) (h a : Nat) (ha : a < h) (b : Nat) (hb : b ≠ a) (hq : b < h ∨ h + 3 ≤ b) : sa α (F_X8_init α h a) b := tl_X8_0 α h a b hb (by omega)
theorem ka_X8_3 (α : hp_T) (h a : Nat) (ha : a < h) (φ : Nat) : hp_N (F_X8_init_3 α h a) φ a = hp_N (F_X8_init_2 α h a) φ a ∧ hp_I (F_X8_init_3 α h a) φ a = hp_I (F_X8_init_2 α h a) φ a := by
  have q := sa_nw (α := (F_X8_init_2 α h a)) (h := h + (1)) (κ := 22) (b := a) (by omega)
  exact ⟨q.2.2.2.2.1 φ, q.2.1 φ⟩
theorem ka_X8_4 (α : hp_T) (h a : Nat) (ha : a < h) (φ : Nat) (hφ : φ ≠ 451) : hp_N (F_X8_init_4 α h a) φ a = hp_N (F_X8_init_3 α h a) φ a ∧ hp_I (F_X8_init_4 α h a) φ a = hp_I (F_X8_init_3 α h a) φ a := ⟨sN_ne hφ, hI_sN⟩
theorem ka_X8_5 (α : hp_T) (h a : Nat) (ha : a < h) (φ : Nat) : hp_N (F_X8_init_5 α h a) φ a = hp_N (F_X8_init_4 α h a) φ a ∧ hp_I (F_X8_init_5 α h a) φ a = hp_I (F_X8_init_4 α h a) φ a := by
  have q := sa_nw (α := (F_X8_init_4 α h a)) (h := h + (2)) (κ := 23) (b := a) (by omega)
  exact ⟨q.2.2.2.2.1 φ, q.2.1 φ⟩
theorem ka_X8_6 (α : hp_T) (h a : Nat) (ha : a < h) (φ : Nat) (hφ : φ ≠ 452) : hp_N (F_X8_init_6 α h a) φ a = hp_N (F_X8_init_5 α h a) φ a ∧ hp_I (F_X8_init_6 α h a) φ a = hp_I (F_X8_init_5 α h a) φ a := ⟨sN_ne hφ, hI_sN⟩
theorem ka_X8_7 (α : hp_T) (h a : Nat) (ha : a < h) (φ : Nat) (hφ : φ ≠ 453) : hp_N (F_X8_init_7 α h a) φ a = hp_N (F_X8_init_6 α h a) φ a ∧ hp_I (F_X8_init_7 α h a) φ a = hp_I (F_X8_init_6 α h a) φ a := ⟨hN_sI, hp_I_ne hφ⟩
theorem ka_X8_8 (α : hp_T) (h a : Nat) (ha : a < h) (φ : Nat) (hφ : φ ≠ 454) : hp_N (F_X8_init_8 α h a) φ a = hp_N (F_X8_init_7 α h a) φ a ∧ hp_I (F_X8_init_8 α h a) φ a = hp_I (F_X8_init_7 α h a) φ a := ⟨hN_sI, hp_I_ne hφ⟩
theorem fd_X8_450 (α : hp_T) (h a : Nat) (ha : a < h) : hp_R (F_X8_init α h a) 450 a = h + 0 := cv_R ((ka_X8_8 α h a ha 450 (by decide)).1.trans ((ka_X8_7 α h a ha 450 (by decide)).1.trans ((ka_X8_6 α h a ha 450 (by decide)).1.trans ((ka_X8_5 α h a ha 450).1.trans ((ka_X8_4 α h a ha 450 (by decide)).1.trans ((ka_X8_3 α h a ha 450).1.trans (show hp_N (hp_sN (F_X8_init_1 α h a) 450 a (some (h + (0)))) 450 a = some (h + (0)) from sN_at)))))))
theorem fd_X8_451 (α : hp_T) (h a : Nat) (ha : a < h) : hp_R (F_X8_init α h a) 451 a = h + 1 := cv_R ((ka_X8_8 α h a ha 451 (by decide)).1.trans ((ka_X8_7 α h a ha 451 (by decide)).1.trans ((ka_X8_6 α h a ha 451 (by decide)).1.trans ((ka_X8_5 α h a ha 451).1.trans (show hp_N (hp_sN (F_X8_init_3 α h a) 451 a (some (h + (1)))) 451 a = some (h + (1)) from sN_at)))))
theorem fd_X8_452 (α : hp_T) (h a : Nat) (ha : a < h) : hp_R (F_X8_init α h a) 452 a = h + 2 := cv_R ((ka_X8_8 α h a ha 452 (by decide)).1.trans ((ka_X8_7 α h a ha 452 (by decide)).1.trans (show hp_N (hp_sN (F_X8_init_5 α h a) 452 a (some (h + (2)))) 452 a = some (h + (2)) from sN_at)))
theorem tl_X1_7 (α : hp_T) (h a : Nat) (b : Nat) (hb : b ≠ a) : sa (F_X1_init_7 α h a) (F_X1_init α h a) b := sa_cv hb
theorem tl_X1_6 (α : hp_T) (h a : Nat) (b : Nat) (hb : b ≠ a) (hq : b < h + 2 ∨ h + 2 ≤ b) : sa (F_X1_init_6 α h a) (F_X1_init α h a) b := sa_tr (sa_sN hb) (tl_X1_7 α h a b hb)
theorem tl_X1_5 (α : hp_T) (h a : Nat) (b : Nat) (hb : b ≠ a) (hq : b < h + 0 ∨ h + 2 ≤ b) : sa (F_X1_init_5 α h a) (F_X1_init α h a) b := sa_tr (fr_X5 (F_X1_init_5 α h a) (h + (1)) (h + (0)) (by omega) b (by omega) (by omega)) (tl_X1_6 α h a b hb (by omega))
theorem tl_X1_4 (α : hp_T) (h a : Nat) (b : Nat) (hb : b ≠ a) (hq : b < h + 0 ∨ h + 2 ≤ b) : sa (F_X1_init_4 α h a) (F_X1_init α h a) b := sa_tr (sa_nw (by omega)) (tl_X1_5 α h a b hb (by omega))
theorem tl_X1_3 (α : hp_T) (h a : Nat) (b : Nat) (hb : b ≠ a) (hq : b < h + 0 ∨ h + 2 ≤ b) : sa (F_X1_init_3 α h a) (F_X1_init α h a) b := sa_tr (sa_sI hb) (tl_X1_4 α h a b hb (by omega))
theorem tl_X1_2 (α : hp_T) (h a : Nat) (b : Nat) (hb : b ≠ a) (hq : b < h + 0 ∨ h + 2 ≤ b) : sa (F_X1_init_2 α h a) (F_X1_init α h a) b := sa_tr (sa_sI hb) (tl_X1_3 α h a b hb (by omega))
theorem tl_X1_1 (α : hp_T) (h a : Nat) (b : Nat) (hb : b ≠ a) (hq : b < h + 0 ∨ h + 2 ≤ b) : sa (F_X1_init_1 α h a) (F_X1_init α h a) b := sa_tr (sa_sI hb) (tl_X1_2 α h a b hb (by omega))
theorem tl_X1_0 (α : hp_T) (h a : Nat) (b : Nat) (hb : b ≠ a) (hq : b < h + 0 ∨ h + 2 ≤ b) : sa (F_X1_init_0 α h a) (F_X1_init α h a) b := sa_tr (sa_sI hb) (tl_X1_1 α h a b hb (by omega))
theorem fr_X1 (α : hp_T) (h a : Nat) (ha : a < h) (b : Nat) (hb : b ≠ a) (hq : b < h ∨ h + 2 ≤ b) : sa α (F_X1_init α h a) b := tl_X1_0 α h a b hb (by omega)
theorem fd_X1_104 (α : hp_T) (h a : Nat) (ha : a < h) : hp_R (F_X1_init α h a) 104 a = h + 0 := cv_R (show hp_N (hp_sN (F_X1_init_6 α h a) 104 a (some (h + (0)))) 104 a = some (h + (0)) from sN_at)
theorem tl_X0_7 (α : hp_T) (h a : Nat) (b : Nat) (hb : b ≠ a) : sa (F_X0_init_7 α h a) (F_X0_init α h a) b := sa_cv hb
theorem tl_X0_6 (α : hp_T) (h a : Nat) (b : Nat) (hb : b ≠ a) (hq : b < h + 2 ∨ h + 2 ≤ b) : sa (F_X0_init_6 α h a) (F_X0_init α h a) b := sa_tr (sa_sI hb) (tl_X0_7 α h a b hb)
theorem tl_X0_5 (α : hp_T) (h a : Nat) (b : Nat) (hb : b ≠ a) (hq : b < h + 2 ∨ h + 2 ≤ b) : sa (F_X0_init_5 α h a) (F_X0_init α h a) b := sa_tr (sa_sI hb) (tl_X0_6 α h a b hb (by omega))
theorem tl_X0_4 (α : hp_T) (h a : Nat) (b : Nat) (hb : b ≠ a) (hq : b < h + 2 ∨ h + 2 ≤ b) : sa (F_X0_init_4 α h a) (F_X0_init α h a) b := sa_tr (sa_sI hb) (tl_X0_5 α h a b hb (by omega))
theorem tl_X0_3 (α : hp_T) (h a : Nat) (b : Nat) (hb : b ≠ a) (hq : b < h + 2 ∨ h + 2 ≤ b) : sa (F_X0_init_3 α h a) (F_X0_init α h a) b := sa_tr (sa_sN hb) (tl_X0_4 α h a b hb (by omega))
theorem tl_X0_2 (α : hp_T) (h a : Nat) (b : Nat) (hb : b ≠ a) (hq : b < h + 0 ∨ h + 2 ≤ b) : sa (F_X0_init_2 α h a) (F_X0_init α h a) b := sa_tr (fr_X5 (F_X0_init_2 α h a) (h + (1)) (h + (0)) (by omega) b (by omega) (by omega)) (tl_X0_3 α h a b hb (by omega))
theorem tl_X0_1 (α : hp_T) (h a : Nat) (b : Nat) (hb : b ≠ a) (hq : b < h + 0 ∨ h + 2 ≤ b) : sa (F_X0_init_1 α h a) (F_X0_init α h a) b := sa_tr (sa_nw (by omega)) (tl_X0_2 α h a b hb (by omega))
theorem tl_X0_0 (α : hp_T) (h a : Nat) (b : Nat) (hb : b ≠ a) (hq : b < h + 0 ∨ h + 2 ≤ b) : sa (F_X0_init_0 α h a) (F_X0_init α h a) b := sa_tr (sa_sI hb) (tl_X0_1 α h a b hb (by omega))
theorem fr_X0 (α : hp_T) (h a : Nat) (ha : a < h) (b : Nat) (hb : b ≠ a) (hq : b < h ∨ h + 2 ≤ b) : sa α (F_X0_init α h a) b := tl_X0_0 α h a b hb (by omega)
theorem tl_X6_8 (α : hp_T) (h a : Nat) (b : Nat) (hb : b ≠ a) : sa (F_X6_init_8 α h a) (F_X6_init α h a) b := sa_cv hb
theorem tl_X6_7 (α : hp_T) (h a : Nat) (b : Nat) (hb : b ≠ a) (hq : b < h + 1 ∨ h + 1 ≤ b) : sa (F_X6_init_7 α h a) (F_X6_init α h a) b := sa_tr (sa_sI hb) (tl_X6_8 α h a b hb)
theorem tl_X6_6 (α : hp_T) (h a : Nat) (b : Nat) (hb : b ≠ a) (hq : b < h + 1 ∨ h + 1 ≤ b) : sa (F_X6_init_6 α h a) (F_X6_init α h a) b := sa_tr (sa_sI hb) (tl_X6_7 α h a b hb (by omega))
theorem tl_X6_5 (α : hp_T) (h a : Nat) (b : Nat) (hb : b ≠ a) (hq : b < h + 1 ∨ h + 1 ≤ b) : sa (F_X6_init_5 α h a) (F_X6_init α h a) b := sa_tr (sa_sI hb) (tl_X6_6 α h a b hb (by omega))
theorem tl_X6_4 (α : hp_T) (h a : Nat) (b : Nat) (hb : b ≠ a) (hq : b < h + 1 ∨ h + 1 ≤ b) : sa (F_X6_init_4 α h a) (F_X6_init α h a) b := sa_tr (sa_sI hb) (tl_X6_5 α h a b hb (by omega))
theorem tl_X6_3 (α : hp_T) (h a : Nat) (b : Nat) (hb : b ≠ a) (hq : b < h + 1 ∨ h + 1 ≤ b) : sa (F_X6_init_3 α h a) (F_X6_init α h a) b := sa_tr (sa_sI hb) (tl_X6_4 α h a b hb (by omega))
theorem tl_X6_2 (α : hp_T) (h a : Nat) (b : Nat) (hb : b ≠ a) (hq : b < h + 1 ∨ h + 1 ≤ b) : sa (F_X6_init_2 α h a) (F_X6_init α h a) b := sa_tr (sa_sI hb) (tl_X6_3 α h a b hb (by omega))
theorem tl_X6_1 (α : hp_T) (h a : Nat) (b : Nat) (hb : b ≠ a) (hq : b < h + 1 ∨ h + 1 ≤ b) : sa (F_X6_init_1 α h a) (F_X6_init α h a) b := sa_tr (sa_sN hb) (tl_X6_2 α h a b hb (by omega))
theorem tl_X6_0 (α : hp_T) (h a : Nat) (b : Nat) (hb : b ≠ a) (hq : b < h + 0 ∨ h + 1 ≤ b) : sa (F_X6_init_0 α h a) (F_X6_init α h a) b := sa_tr (sa_nw (by omega)) (tl_X6_1 α h a b hb (by omega))
theorem fr_X6 (α : hp_T) (h a : Nat) (ha : a < h) (b : Nat) (hb : b ≠ a) (hq : b < h ∨ h + 1 ≤ b) : sa α (F_X6_init α h a) b := tl_X6_0 α h a b hb (by omega)
theorem tl_X3_18 (α : hp_T) (h a : Nat) (b : Nat) (hb : b ≠ a) : sa (F_X3_init_18 α h a) (F_X3_init α h a) b := sa_cv hb
theorem tl_X3_17 (α : hp_T) (h a : Nat) (b : Nat) (hb : b ≠ a) (hq : b < h + 10 ∨ h + 10 ≤ b) : sa (F_X3_init_17 α h a) (F_X3_init α h a) b := sa_tr (sa_sI hb) (tl_X3_18 α h a b hb)
theorem tl_X3_16 (α : hp_T) (h a : Nat) (b : Nat) (hb : b ≠ a) (hq : b < h + 10 ∨ h + 10 ≤ b) : sa (F_X3_init_16 α h a) (F_X3_init α h a) b := sa_tr (sa_sI hb) (tl_X3_17 α h a b hb (by omega))
theorem tl_X3_15 (α : hp_T) (h a : Nat) (b : Nat) (hb : b ≠ a) (hq : b < h + 10 ∨ h + 10 ≤ b) : sa (F_X3_init_15 α h a) (F_X3_init α h a) b := sa_tr (sa_sN hb) (tl_X3_16 α h a b hb (by omega))
theorem tl_X3_14 (α : hp_T) (h a : Nat) (b : Nat) (hb : b ≠ a) (hq : b < h + 8 ∨ h + 10 ≤ b) : sa (F_X3_init_14 α h a) (F_X3_init α h a) b := sa_tr (fr_X9 (F_X3_init_14 α h a) (h + (9)) (h + (8)) (by omega) b (by omega) (by omega)) (tl_X3_15 α h a b hb (by omega))
theorem tl_X3_13 (α : hp_T) (h a : Nat) (b : Nat) (hb : b ≠ a) (hq : b < h + 8 ∨ h + 10 ≤ b) : sa (F_X3_init_13 α h a) (F_X3_init α h a) b := sa_tr (sa_nw (by omega)) (tl_X3_14 α h a b hb (by omega))
theorem tl_X3_12 (α : hp_T) (h a : Nat) (b : Nat) (hb : b ≠ a) (hq : b < h + 8 ∨ h + 10 ≤ b) : sa (F_X3_init_12 α h a) (F_X3_init α h a) b := sa_tr (sa_sI hb) (tl_X3_13 α h a b hb (by omega))
theorem tl_X3_11 (α : hp_T) (h a : Nat) (b : Nat) (hb : b ≠ a) (hq : b < h + 8 ∨ h + 10 ≤ b) : sa (F_X3_init_11 α h a) (F_X3_init α h a) b := sa_tr (sa_sI hb) (tl_X3_12 α h a b hb (by omega))
theorem tl_X3_10 (α : hp_T) (h a : Nat) (b : Nat) (hb : b ≠ a) (hq : b < h + 8 ∨ h + 10 ≤ b) : sa (F_X3_init_10 α h a) (F_X3_init α h a) b := sa_tr (sa_sI hb) (tl_X3_11 α h a b hb (by omega))
theorem tl_X3_9 (α : hp_T) (h a : Nat) (b : Nat) (hb : b ≠ a) (hq : b < h + 8 ∨ h + 10 ≤ b) : sa (F_X3_init_9 α h a) (F_X3_init α h a) b := sa_tr (sa_sI hb) (tl_X3_10 α h a b hb (by omega))
theorem tl_X3_8 (α : hp_T) (h a : Nat) (b : Nat) (hb : b ≠ a) (hq : b < h + 8 ∨ h + 10 ≤ b) : sa (F_X3_init_8 α h a) (F_X3_init α h a) b := sa_tr (sa_sN hb) (tl_X3_9 α h a b hb (by omega))
theorem tl_X3_7 (α : hp_T) (h a : Nat) (b : Nat) (hb : b ≠ a) (hq : b < h + 4 ∨ h + 10 ≤ b) : sa (F_X3_init_7 α h a) (F_X3_init α h a) b := sa_tr (fr_X8 (F_X3_init_7 α h a) (h + (5)) (h + (4)) (by omega) b (by omega) (by omega)) (tl_X3_8 α h a b hb (by omega))
theorem tl_X3_6 (α : hp_T) (h a : Nat) (b : Nat) (hb : b ≠ a) (hq : b < h + 4 ∨ h + 10 ≤ b) : sa (F_X3_init_6 α h a) (F_X3_init α h a) b := sa_tr (sa_nw (by omega)) (tl_X3_7 α h a b hb (by omega))
theorem tl_X3_5 (α : hp_T) (h a : Nat) (b : Nat) (hb : b ≠ a) (hq : b < h + 4 ∨ h + 10 ≤ b) : sa (F_X3_init_5 α h a) (F_X3_init α h a) b := sa_tr (sa_sN hb) (tl_X3_6 α h a b hb (by omega))
theorem tl_X3_4 (α : hp_T) (h a : Nat) (b : Nat) (hb : b ≠ a) (hq : b < h + 2 ∨ h + 10 ≤ b) : sa (F_X3_init_4 α h a) (F_X3_init α h a) b := sa_tr (fr_X5 (F_X3_init_4 α h a) (h + (3)) (h + (2)) (by omega) b (by omega) (by omega)) (tl_X3_5 α h a b hb (by omega))
theorem tl_X3_3 (α : hp_T) (h a : Nat) (b : Nat) (hb : b ≠ a) (hq : b < h + 2 ∨ h + 10 ≤ b) : sa (F_X3_init_3 α h a) (F_X3_init α h a) b := sa_tr (sa_nw (by omega)) (tl_X3_4 α h a b hb (by omega))
theorem tl_X3_2 (α : hp_T) (h a : Nat) (b : Nat) (hb : b ≠ a) (hq : b < h + 2 ∨ h + 10 ≤ b) : sa (F_X3_init_2 α h a) (F_X3_init α h a) b := sa_tr (sa_sN hb) (tl_X3_3 α h a b hb (by omega))
theorem tl_X3_1 (α : hp_T) (h a : Nat) (b : Nat) (hb : b ≠ a) (hq : b < h + 0 ∨ h + 10 ≤ b) : sa (F_X3_init_1 α h a) (F_X3_init α h a) b := sa_tr (fr_X6 (F_X3_init_1 α h a) (h + (1)) (h + (0)) (by omega) b (by omega) (by omega)) (tl_X3_2 α h a b hb (by omega))
theorem tl_X3_0 (α : hp_T) (h a : Nat) (b : Nat) (hb : b ≠ a) (hq : b < h + 0 ∨ h + 10 ≤ b) : sa (F_X3_init_0 α h a) (F_X3_init α h a) b := sa_tr (sa_nw (by omega)) (tl_X3_1 α h a b hb (by omega))
theorem fr_X3 (α : hp_T) (h a : Nat) (ha : a < h) (b : Nat) (hb : b ≠ a) (hq : b < h ∨ h + 10 ≤ b) : sa α (F_X3_init α h a) b := tl_X3_0 α h a b hb (by omega)
theorem ka_X3_4 (α : hp_T) (h a : Nat) (ha : a < h) (φ : Nat) : hp_N (F_X3_init_4 α h a) φ a = hp_N (F_X3_init_3 α h a) φ a ∧ hp_I (F_X3_init_4 α h a) φ a = hp_I (F_X3_init_3 α h a) φ a := by
  have q := sa_nw (α := (F_X3_init_3 α h a)) (h := h + (2)) (κ := 106) (b := a) (by omega)
  exact ⟨q.2.2.2.2.1 φ, q.2.1 φ⟩
theorem ka_X3_5 (α : hp_T) (h a : Nat) (ha : a < h) (φ : Nat) : hp_N (F_X3_init_5 α h a) φ a = hp_N (F_X3_init_4 α h a) φ a ∧ hp_I (F_X3_init_5 α h a) φ a = hp_I (F_X3_init_4 α h a) φ a := by
  have q := fr_X5 (F_X3_init_4 α h a) (h + (3)) (h + (2)) (by omega) a (by omega) (by omega)
  exact ⟨q.2.2.2.2.1 φ, q.2.1 φ⟩
theorem ka_X3_6 (α : hp_T) (h a : Nat) (ha : a < h) (φ : Nat) (hφ : φ ≠ 201) : hp_N (F_X3_init_6 α h a) φ a = hp_N (F_X3_init_5 α h a) φ a ∧ hp_I (F_X3_init_6 α h a) φ a = hp_I (F_X3_init_5 α h a) φ a := ⟨sN_ne hφ, hI_sN⟩
theorem ka_X3_7 (α : hp_T) (h a : Nat) (ha : a < h) (φ : Nat) : hp_N (F_X3_init_7 α h a) φ a = hp_N (F_X3_init_6 α h a) φ a ∧ hp_I (F_X3_init_7 α h a) φ a = hp_I (F_X3_init_6 α h a) φ a := by
  have q := sa_nw (α := (F_X3_init_6 α h a)) (h := h + (4)) (κ := 109) (b := a) (by omega)
  exact ⟨q.2.2.2.2.1 φ, q.2.1 φ⟩
theorem ka_X3_8 (α : hp_T) (h a : Nat) (ha : a < h) (φ : Nat) : hp_N (F_X3_init_8 α h a) φ a = hp_N (F_X3_init_7 α h a) φ a ∧ hp_I (F_X3_init_8 α h a) φ a = hp_I (F_X3_init_7 α h a) φ a := by
  have q := fr_X8 (F_X3_init_7 α h a) (h + (5)) (h + (4)) (by omega) a (by omega) (by omega)
  exact ⟨q.2.2.2.2.1 φ, q.2.1 φ⟩
theorem ka_X3_9 (α : hp_T) (h a : Nat) (ha : a < h) (φ : Nat) (hφ : φ ≠ 202) : hp_N (F_X3_init_9 α h a) φ a = hp_N (F_X3_init_8 α h a) φ a ∧ hp_I (F_X3_init_9 α h a) φ a = hp_I (F_X3_init_8 α h a) φ a := ⟨sN_ne hφ, hI_sN⟩
theorem ka_X3_10 (α : hp_T) (h a : Nat) (ha : a < h) (φ : Nat) (hφ : φ ≠ 203) : hp_N (F_X3_init_10 α h a) φ a = hp_N (F_X3_init_9 α h a) φ a ∧ hp_I (F_X3_init_10 α h a) φ a = hp_I (F_X3_init_9 α h a) φ a := ⟨hN_sI, hp_I_ne hφ⟩
theorem ka_X3_11 (α : hp_T) (h a : Nat) (ha : a < h) (φ : Nat) (hφ : φ ≠ 204) : hp_N (F_X3_init_11 α h a) φ a = hp_N (F_X3_init_10 α h a) φ a ∧ hp_I (F_X3_init_11 α h a) φ a = hp_I (F_X3_init_10 α h a) φ a := ⟨hN_sI, hp_I_ne hφ⟩
theorem ka_X3_12 (α : hp_T) (h a : Nat) (ha : a < h) (φ : Nat) (hφ : φ ≠ 205) : hp_N (F_X3_init_12 α h a) φ a = hp_N (F_X3_init_11 α h a) φ a ∧ hp_I (F_X3_init_12 α h a) φ a = hp_I (F_X3_init_11 α h a) φ a := ⟨hN_sI, hp_I_ne hφ⟩
theorem ka_X3_13 (α : hp_T) (h a : Nat) (ha : a < h) (φ : Nat) (hφ : φ ≠ 206) : hp_N (F_X3_init_13 α h a) φ a = hp_N (F_X3_init_12 α h a) φ a ∧ hp_I (F_X3_init_13 α h a) φ a = hp_I (F_X3_init_12 α h a) φ a := ⟨hN_sI, hp_I_ne hφ⟩
theorem ka_X3_14 (α : hp_T) (h a : Nat) (ha : a < h) (φ : Nat) : hp_N (F_X3_init_14 α h a) φ a = hp_N (F_X3_init_13 α h a) φ a ∧ hp_I (F_X3_init_14 α h a) φ a = hp_I (F_X3_init_13 α h a) φ a := by
  have q := sa_nw (α := (F_X3_init_13 α h a)) (h := h + (8)) (κ := 110) (b := a) (by omega)
  exact ⟨q.2.2.2.2.1 φ, q.2.1 φ⟩
theorem ka_X3_15 (α : hp_T) (h a : Nat) (ha : a < h) (φ : Nat) : hp_N (F_X3_init_15 α h a) φ a = hp_N (F_X3_init_14 α h a) φ a ∧ hp_I (F_X3_init_15 α h a) φ a = hp_I (F_X3_init_14 α h a) φ a := by
  have q := fr_X9 (F_X3_init_14 α h a) (h + (9)) (h + (8)) (by omega) a (by omega) (by omega)
  exact ⟨q.2.2.2.2.1 φ, q.2.1 φ⟩
theorem ka_X3_16 (α : hp_T) (h a : Nat) (ha : a < h) (φ : Nat) (hφ : φ ≠ 207) : hp_N (F_X3_init_16 α h a) φ a = hp_N (F_X3_init_15 α h a) φ a ∧ hp_I (F_X3_init_16 α h a) φ a = hp_I (F_X3_init_15 α h a) φ a := ⟨sN_ne hφ, hI_sN⟩
theorem ka_X3_17 (α : hp_T) (h a : Nat) (ha : a < h) (φ : Nat) (hφ : φ ≠ 208) : hp_N (F_X3_init_17 α h a) φ a = hp_N (F_X3_init_16 α h a) φ a ∧ hp_I (F_X3_init_17 α h a) φ a = hp_I (F_X3_init_16 α h a) φ a := ⟨hN_sI, hp_I_ne hφ⟩
theorem ka_X3_18 (α : hp_T) (h a : Nat) (ha : a < h) (φ : Nat) (hφ : φ ≠ 209) : hp_N (F_X3_init_18 α h a) φ a = hp_N (F_X3_init_17 α h a) φ a ∧ hp_I (F_X3_init_18 α h a) φ a = hp_I (F_X3_init_17 α h a) φ a := ⟨hN_sI, hp_I_ne hφ⟩
theorem fd_X3_200 (α : hp_T) (h a : Nat) (ha : a < h) : hp_R (F_X3_init α h a) 200 a = h + 0 := cv_R ((ka_X3_18 α h a ha 200 (by decide)).1.trans ((ka_X3_17 α h a ha 200 (by decide)).1.trans ((ka_X3_16 α h a ha 200 (by decide)).1.trans ((ka_X3_15 α h a ha 200).1.trans ((ka_X3_14 α h a ha 200).1.trans ((ka_X3_13 α h a ha 200 (by decide)).1.trans ((ka_X3_12 α h a ha 200 (by decide)).1.trans ((ka_X3_11 α h a ha 200 (by decide)).1.trans ((ka_X3_10 α h a ha 200 (by decide)).1.trans ((ka_X3_9 α h a ha 200 (by decide)).1.trans ((ka_X3_8 α h a ha 200).1.trans ((ka_X3_7 α h a ha 200).1.trans ((ka_X3_6 α h a ha 200 (by decide)).1.trans ((ka_X3_5 α h a ha 200).1.trans ((ka_X3_4 α h a ha 200).1.trans (show hp_N (hp_sN (F_X3_init_2 α h a) 200 a (some (h + (0)))) 200 a = some (h + (0)) from sN_at))))))))))))))))
theorem fd_X3_207 (α : hp_T) (h a : Nat) (ha : a < h) : hp_R (F_X3_init α h a) 207 a = h + 8 := cv_R ((ka_X3_18 α h a ha 207 (by decide)).1.trans ((ka_X3_17 α h a ha 207 (by decide)).1.trans (show hp_N (hp_sN (F_X3_init_15 α h a) 207 a (some (h + (8)))) 207 a = some (h + (8)) from sN_at)))
theorem tl_X11_46 (α : hp_T) (h a : Nat) (b : Nat) (hb : b ≠ a) : sa (F_X11_init_46 α h a) (F_X11_init α h a) b := sa_cv hb
theorem tl_X11_45 (α : hp_T) (h a : Nat) (b : Nat) (hb : b ≠ a) (hq : b < h + 955 ∨ h + 955 ≤ b) : sa (F_X11_init_45 α h a) (F_X11_init α h a) b := sa_tr (sa_sN hb) (tl_X11_46 α h a b hb)
theorem tl_X11_44 (α : hp_T) (h a : Nat) (b : Nat) (hb : b ≠ a) (hq : b < h + 955 ∨ h + 955 ≤ b) : sa (F_X11_init_44 α h a) (F_X11_init α h a) b := sa_tr (sa_sN hb) (tl_X11_45 α h a b hb (by omega))
theorem tl_X11_43 (α : hp_T) (h a : Nat) (b : Nat) (hb : b ≠ a) (hq : b < h + 954 ∨ h + 955 ≤ b) : sa (F_X11_init_43 α h a) (F_X11_init α h a) b := sa_tr (sa_nw (by omega)) (tl_X11_44 α h a b hb (by omega))
theorem tl_X11_42 (α : hp_T) (h a : Nat) (b : Nat) (hb : b ≠ a) (hq : b < h + 954 ∨ h + 955 ≤ b) : sa (F_X11_init_42 α h a) (F_X11_init α h a) b := sa_tr (sa_sN hb) (tl_X11_43 α h a b hb (by omega))
theorem tl_X11_41 (α : hp_T) (h a : Nat) (b : Nat) (hb : b ≠ a) (hq : b < h + 943 ∨ h + 955 ≤ b) : sa (F_X11_init_41 α h a) (F_X11_init α h a) b := sa_tr (fr_X3 (F_X11_init_41 α h a) (h + (944)) (h + (943)) (by omega) b (by omega) (by omega)) (tl_X11_42 α h a b hb (by omega))
theorem tl_X11_40 (α : hp_T) (h a : Nat) (b : Nat) (hb : b ≠ a) (hq : b < h + 943 ∨ h + 955 ≤ b) : sa (F_X11_init_40 α h a) (F_X11_init α h a) b := sa_tr (sa_nw (by omega)) (tl_X11_41 α h a b hb (by omega))
theorem tl_X11_39 (α : hp_T) (h a : Nat) (b : Nat) (hb : b ≠ a) (hq : b < h + 943 ∨ h + 955 ≤ b) : sa (F_X11_init_39 α h a) (F_X11_init α h a) b := sa_tr (sa_sN hb) (tl_X11_40 α h a b hb (by omega))
theorem tl_X11_38 (α : hp_T) (h a : Nat) (b : Nat) (hb : b ≠ a) (hq : b < h + 940 ∨ h + 955 ≤ b) : sa (F_X11_init_38 α h a) (F_X11_init α h a) b := sa_tr (fr_X0 (F_X11_init_38 α h a) (h + (941)) (h + (940)) (by omega) b (by omega) (by omega)) (tl_X11_39 α h a b hb (by omega))
theorem tl_X11_37 (α : hp_T) (h a : Nat) (b : Nat) (hb : b ≠ a) (hq : b < h + 940 ∨ h + 955 ≤ b) : sa (F_X11_init_37 α h a) (F_X11_init α h a) b := sa_tr (sa_nw (by omega)) (tl_X11_38 α h a b hb (by omega))
theorem tl_X11_36 (α : hp_T) (h a : Nat) (b : Nat) (hb : b ≠ a) (hq : b < h + 940 ∨ h + 955 ≤ b) : sa (F_X11_init_36 α h a) (F_X11_init α h a) b := sa_tr (sa_sN hb) (tl_X11_37 α h a b hb (by omega))
theorem tl_X11_35 (α : hp_T) (h a : Nat) (b : Nat) (hb : b ≠ a) (hq : b < h + 938 ∨ h + 955 ≤ b) : sa (F_X11_init_35 α h a) (F_X11_init α h a) b := sa_tr (fr_X5 (F_X11_init_35 α h a) (h + (939)) (h + (938)) (by omega) b (by omega) (by omega)) (tl_X11_36 α h a b hb (by omega))
theorem tl_X11_34 (α : hp_T) (h a : Nat) (b : Nat) (hb : b ≠ a) (hq : b < h + 938 ∨ h + 955 ≤ b) : sa (F_X11_init_34 α h a) (F_X11_init α h a) b := sa_tr (sa_nw (by omega)) (tl_X11_35 α h a b hb (by omega))
theorem tl_X11_33 (α : hp_T) (h a : Nat) (b : Nat) (hb : b ≠ a) (hq : b < h + 938 ∨ h + 955 ≤ b) : sa (F_X11_init_33 α h a) (F_X11_init α h a) b := sa_tr (sa_sN hb) (tl_X11_34 α h a b hb (by omega))
theorem tl_X11_32 (α : hp_T) (h a : Nat) (b : Nat) (hb : b ≠ a) (hq : b < h + 934 ∨ h + 955 ≤ b) : sa (F_X11_init_32 α h a) (F_X11_init α h a) b := sa_tr (fr_X8 (F_X11_init_32 α h a) (h + (935)) (h + (934)) (by omega) b (by omega) (by omega)) (tl_X11_33 α h a b hb (by omega))
theorem tl_X11_31 (α : hp_T) (h a : Nat) (b : Nat) (hb : b ≠ a) (hq : b < h + 934 ∨ h + 955 ≤ b) : sa (F_X11_init_31 α h a) (F_X11_init α h a) b := sa_tr (sa_nw (by omega)) (tl_X11_32 α h a b hb (by omega))
theorem tl_X11_30 (α : hp_T) (h a : Nat) (b : Nat) (hb : b ≠ a) (hq : b < h + 934 ∨ h + 955 ≤ b) : sa (F_X11_init_30 α h a) (F_X11_init α h a) b := sa_tr (sa_sN hb) (tl_X11_31 α h a b hb (by omega))
theorem tl_X11_29 (α : hp_T) (h a : Nat) (b : Nat) (hb : b ≠ a) (hq : b < h + 930 ∨ h + 955 ≤ b) : sa (F_X11_init_29 α h a) (F_X11_init α h a) b := sa_tr (fr_X8 (F_X11_init_29 α h a) (h + (931)) (h + (930)) (by omega) b (by omega) (by omega)) (tl_X11_30 α h a b hb (by omega))
theorem tl_X11_28 (α : hp_T) (h a : Nat) (b : Nat) (hb : b ≠ a) (hq : b < h + 930 ∨ h + 955 ≤ b) : sa (F_X11_init_28 α h a) (F_X11_init α h a) b := sa_tr (sa_nw (by omega)) (tl_X11_29 α h a b hb (by omega))
theorem ka_X11_29 (α : hp_T) (h a : Nat) (ha : a < h) (φ : Nat) : hp_N (F_X11_init_29 α h a) φ a = hp_N (F_X11_init_28 α h a) φ a ∧ hp_I (F_X11_init_29 α h a) φ a = hp_I (F_X11_init_28 α h a) φ a := by
  have q := sa_nw (α := (F_X11_init_28 α h a)) (h := h + (930)) (κ := 109) (b := a) (by omega)
  exact ⟨q.2.2.2.2.1 φ, q.2.1 φ⟩
theorem ka_X11_30 (α : hp_T) (h a : Nat) (ha : a < h) (φ : Nat) : hp_N (F_X11_init_30 α h a) φ a = hp_N (F_X11_init_29 α h a) φ a ∧ hp_I (F_X11_init_30 α h a) φ a = hp_I (F_X11_init_29 α h a) φ a := by
  have q := fr_X8 (F_X11_init_29 α h a) (h + (931)) (h + (930)) (by omega) a (by omega) (by omega)
  exact ⟨q.2.2.2.2.1 φ, q.2.1 φ⟩
theorem ka_X11_31 (α : hp_T) (h a : Nat) (ha : a < h) (φ : Nat) (hφ : φ ≠ 612) : hp_N (F_X11_init_31 α h a) φ a = hp_N (F_X11_init_30 α h a) φ a ∧ hp_I (F_X11_init_31 α h a) φ a = hp_I (F_X11_init_30 α h a) φ a := ⟨sN_ne hφ, hI_sN⟩
theorem ka_X11_32 (α : hp_T) (h a : Nat) (ha : a < h) (φ : Nat) : hp_N (F_X11_init_32 α h a) φ a = hp_N (F_X11_init_31 α h a) φ a ∧ hp_I (F_X11_init_32 α h a) φ a = hp_I (F_X11_init_31 α h a) φ a := by
  have q := sa_nw (α := (F_X11_init_31 α h a)) (h := h + (934)) (κ := 109) (b := a) (by omega)
  exact ⟨q.2.2.2.2.1 φ, q.2.1 φ⟩
theorem ka_X11_33 (α : hp_T) (h a : Nat) (ha : a < h) (φ : Nat) : hp_N (F_X11_init_33 α h a) φ a = hp_N (F_X11_init_32 α h a) φ a ∧ hp_I (F_X11_init_33 α h a) φ a = hp_I (F_X11_init_32 α h a) φ a := by
  have q := fr_X8 (F_X11_init_32 α h a) (h + (935)) (h + (934)) (by omega) a (by omega) (by omega)
  exact ⟨q.2.2.2.2.1 φ, q.2.1 φ⟩
theorem ka_X11_34 (α : hp_T) (h a : Nat) (ha : a < h) (φ : Nat) (hφ : φ ≠ 613) : hp_N (F_X11_init_34 α h a) φ a = hp_N (F_X11_init_33 α h a) φ a ∧ hp_I (F_X11_init_34 α h a) φ a = hp_I (F_X11_init_33 α h a) φ a := ⟨sN_ne hφ, hI_sN⟩
theorem ka_X11_35 (α : hp_T) (h a : Nat) (ha : a < h) (φ : Nat) : hp_N (F_X11_init_35 α h a) φ a = hp_N (F_X11_init_34 α h a) φ a ∧ hp_I (F_X11_init_35 α h a) φ a = hp_I (F_X11_init_34 α h a) φ a := by
  have q := sa_nw (α := (F_X11_init_34 α h a)) (h := h + (938)) (κ := 106) (b := a) (by omega)
  exact ⟨q.2.2.2.2.1 φ, q.2.1 φ⟩
theorem ka_X11_36 (α : hp_T) (h a : Nat) (ha : a < h) (φ : Nat) : hp_N (F_X11_init_36 α h a) φ a = hp_N (F_X11_init_35 α h a) φ a ∧ hp_I (F_X11_init_36 α h a) φ a = hp_I (F_X11_init_35 α h a) φ a := by
  have q := fr_X5 (F_X11_init_35 α h a) (h + (939)) (h + (938)) (by omega) a (by omega) (by omega)
  exact ⟨q.2.2.2.2.1 φ, q.2.1 φ⟩
theorem ka_X11_37 (α : hp_T) (h a : Nat) (ha : a < h) (φ : Nat) (hφ : φ ≠ 614) : hp_N (F_X11_init_37 α h a) φ a = hp_N (F_X11_init_36 α h a) φ a ∧ hp_I (F_X11_init_37 α h a) φ a = hp_I (F_X11_init_36 α h a) φ a := ⟨sN_ne hφ, hI_sN⟩
theorem ka_X11_38 (α : hp_T) (h a : Nat) (ha : a < h) (φ : Nat) : hp_N (F_X11_init_38 α h a) φ a = hp_N (F_X11_init_37 α h a) φ a ∧ hp_I (F_X11_init_38 α h a) φ a = hp_I (F_X11_init_37 α h a) φ a := by
  have q := sa_nw (α := (F_X11_init_37 α h a)) (h := h + (940)) (κ := 101) (b := a) (by omega)
  exact ⟨q.2.2.2.2.1 φ, q.2.1 φ⟩
theorem ka_X11_39 (α : hp_T) (h a : Nat) (ha : a < h) (φ : Nat) : hp_N (F_X11_init_39 α h a) φ a = hp_N (F_X11_init_38 α h a) φ a ∧ hp_I (F_X11_init_39 α h a) φ a = hp_I (F_X11_init_38 α h a) φ a := by
  have q := fr_X0 (F_X11_init_38 α h a) (h + (941)) (h + (940)) (by omega) a (by omega) (by omega)
  exact ⟨q.2.2.2.2.1 φ, q.2.1 φ⟩
theorem ka_X11_40 (α : hp_T) (h a : Nat) (ha : a < h) (φ : Nat) (hφ : φ ≠ 615) : hp_N (F_X11_init_40 α h a) φ a = hp_N (F_X11_init_39 α h a) φ a ∧ hp_I (F_X11_init_40 α h a) φ a = hp_I (F_X11_init_39 α h a) φ a := ⟨sN_ne hφ, hI_sN⟩
theorem ka_X11_41 (α : hp_T) (h a : Nat) (ha : a < h) (φ : Nat) : hp_N (F_X11_init_41 α h a) φ a = hp_N (F_X11_init_40 α h a) φ a ∧ hp_I (F_X11_init_41 α h a) φ a = hp_I (F_X11_init_40 α h a) φ a := by
  have q := sa_nw (α := (F_X11_init_40 α h a)) (h := h + (943)) (κ := 104) (b := a) (by omega)
  exact ⟨q.2.2.2.2.1 φ, q.2.1 φ⟩
theorem ka_X11_42 (α : hp_T) (h a : Nat) (ha : a < h) (φ : Nat) : hp_N (F_X11_init_42 α h a) φ a = hp_N (F_X11_init_41 α h a) φ a ∧ hp_I (F_X11_init_42 α h a) φ a = hp_I (F_X11_init_41 α h a) φ a := by
  have q := fr_X3 (F_X11_init_41 α h a) (h + (944)) (h + (943)) (by omega) a (by omega) (by omega)
  exact ⟨q.2.2.2.2.1 φ, q.2.1 φ⟩
theorem ka_X11_43 (α : hp_T) (h a : Nat) (ha : a < h) (φ : Nat) (hφ : φ ≠ 616) : hp_N (F_X11_init_43 α h a) φ a = hp_N (F_X11_init_42 α h a) φ a ∧ hp_I (F_X11_init_43 α h a) φ a = hp_I (F_X11_init_42 α h a) φ a := ⟨sN_ne hφ, hI_sN⟩
theorem ka_X11_44 (α : hp_T) (h a : Nat) (ha : a < h) (φ : Nat) : hp_N (F_X11_init_44 α h a) φ a = hp_N (F_X11_init_43 α h a) φ a ∧ hp_I (F_X11_init_44 α h a) φ a = hp_I (F_X11_init_43 α h a) φ a := by
  have q := sa_nw (α := (F_X11_init_43 α h a)) (h := h + (954)) (κ := 26) (b := a) (by omega)
  exact ⟨q.2.2.2.2.1 φ, q.2.1 φ⟩
theorem ka_X11_45 (α : hp_T) (h a : Nat) (ha : a < h) (φ : Nat) (hφ : φ ≠ 617) : hp_N (F_X11_init_45 α h a) φ a = hp_N (F_X11_init_44 α h a) φ a ∧ hp_I (F_X11_init_45 α h a) φ a = hp_I (F_X11_init_44 α h a) φ a := ⟨sN_ne hφ, hI_sN⟩
theorem ka_X11_46 (α : hp_T) (h a : Nat) (ha : a < h) (φ : Nat) (hφ : φ ≠ 618) : hp_N (F_X11_init_46 α h a) φ a = hp_N (F_X11_init_45 α h a) φ a ∧ hp_I (F_X11_init_46 α h a) φ a = hp_I (F_X11_init_45 α h a) φ a := ⟨sN_ne hφ, hI_sN⟩
theorem fd_X11_616 (α : hp_T) (h a : Nat) (ha : a < h) : hp_R (F_X11_init α h a) 616 a = h + 943 := cv_R ((ka_X11_46 α h a ha 616 (by decide)).1.trans ((ka_X11_45 α h a ha 616 (by decide)).1.trans ((ka_X11_44 α h a ha 616).1.trans (show hp_N (hp_sN (F_X11_init_42 α h a) 616 a (some (h + (943)))) 616 a = some (h + (943)) from sN_at))))
end JN9_2
section JN9_3
/-! ===== kept: what two ways share ===== -/
def e2 (p q : Nat × Nat × Bool) : Bool := p.1 == q.1 && p.2.1 == q.2.1
def cA (w1 w2 : List (Nat × Nat × Bool)) : Nat := (w1.map (fun p => w2.countP (e2 p))).sum
def kA (w1 w2 : List (Nat × Nat × Bool)) : Nat := w2.countP (fun q => w1.any (fun p => e2 p q))
end JN9_3
section JN9_4
theorem k_firstAt (n : Nat) (α : hp_T) (a : Nat) (l : List (Nat × Nat × Bool)) (hW : WC α a l) (hl : l.length ≤ 64) (v : Nat) (vI : Int32) (h1 : vI.toInt = (v : Int)) (hv : v < l.length) : ws (f_X8_firstAt n α a vI) (fun r => r.toInt = (l[v].1 : Int)) := by
  have L64 := t_64
  have h9 := hW.1
  have hq := hW.2 _ _ (List.getElem?_eq_getElem hv)
  have hc : vI.toNatClampNeg = v := cl_n h1
  unfold f_X8_firstAt
  refine ws_lt (fun e => by rw [lt0] at e; omega) (fun _ => ws_l (ws_le (fun e => by omega) (fun _ => ws_l (ws_le (fun e => by omega) (fun _ => ws_l (ws_g (by omega) (by omega) (ws_s ?_)))))))
  rw [hc]
  exact hq.1
theorem k_manyAt (n : Nat) (α : hp_T) (a : Nat) (l : List (Nat × Nat × Bool)) (hW : WC α a l) (hl : l.length ≤ 64) (v : Nat) (vI : Int32) (h1 : vI.toInt = (v : Int)) (hv : v < l.length) : ws (f_X8_manyAt n α a vI) (fun r => r.toInt = (l[v].2.1 : Int)) := by
  have L64 := t_64
  have h9 := hW.1
  have hq := hW.2 _ _ (List.getElem?_eq_getElem hv)
  have hc : vI.toNatClampNeg = v := cl_n h1
  unfold f_X8_manyAt
  refine ws_lt (fun e => by rw [lt0] at e; omega) (fun _ => ws_l (ws_le (fun e => by omega) (fun _ => ws_l (ws_le (fun e => by omega) (fun _ => ws_l (ws_g (by omega) (by omega) (ws_s ?_)))))))
  rw [hc]
  exact hq.2.1
end JN9_4
section JN9_5
set_option maxRecDepth 100000
/-! ===== type: what it answers ===== -/
theorem and31 (z : Int32) : 0 ≤ (z &&& 31).toInt ∧ (z &&& 31).toInt < 32 := by
  have h1 := n_and z 31
  have h2 : (31 : Int32).toBitVec.toNat = 31 := by decide
  have h3 : (z &&& 31).toBitVec.toNat ≤ 31 := by rw [h1, h2]; exact Nat.and_le_right
  have h4 : (z &&& 31).toInt = ((z &&& 31).toBitVec.toNat : Int) := by
    show BitVec.toInt _ = _
    rw [BitVec.toInt_eq_toNat_cond, if_pos (by omega)]
  omega
def ty_l (a b v : Int32) : Int32 := if (6 : Int32) ≤ v then ((b.toUInt32 >>> (((5 : Int32) * (v - (6 : Int32))).toUInt32 &&& Int32.toUInt32 31)).toInt32 &&& (31 : Int32)) else ((a.toUInt32 >>> (((5 : Int32) * v).toUInt32 &&& Int32.toUInt32 31)).toInt32 &&& (31 : Int32))
def ty_s (a b : Int32) : Nat → Int32 → Int32
  | 0, v => v
  | m + 1, v => if ty_l a b v = 0 then v else if ty_l a b v ≤ 26 then ty_s a b m (v + 1) else -1
theorem ty_l0 (a b v : Int32) : 0 ≤ (ty_l a b v).toInt := by
  unfold ty_l
  split
  · exact (and31 _).1
  · exact (and31 _).1
theorem ty_v (v : Int32) (h0 : 0 ≤ v.toInt) (h1 : v.toInt < 8) : v - v / (6 : Int32) * (6 : Int32) = if (6 : Int32) ≤ v then v - (6 : Int32) else v := by
  have h : ∀ j : Nat, j < 8 → Int32.ofNat j - Int32.ofNat j / (6 : Int32) * (6 : Int32) = if (6 : Int32) ≤ Int32.ofNat j then Int32.ofNat j - (6 : Int32) else Int32.ofNat j := by decide
  have e : v = Int32.ofNat v.toInt.toNat := i_ofN (by omega)
  rw [e]
  exact h _ (by omega)
theorem v_type_C (n : Nat) (m : Int32) : ∀ (k : Nat) (τ : ms_T) (v : Int32), pr (f_X12_type_L102 n k τ m v) (fun res => res.1 = m) := by
  intro k
  induction k with
  | zero => intro τ v; rw [f_X12_type_L102.eq_1]; exact pr_0
  | succ k ih =>
    intro τ v
    rw [f_X12_type_L102.eq_2]
    exact pr_i (fun _ => pr_l (pr_s rfl)) (fun _ => pr_g (fun _ _ => pr_g (fun _ _ => pr_l (pr_l (ih _ _)))))
theorem v_type_L (n : Nat) (a b : Int32) : ∀ (k : Nat) (τ : ms_T) (x y v : Int32), 0 ≤ v.toInt → v.toInt ≤ 8 → (y = 0 ∨ (y = 1 ∧ x = v)) → pr (f_X12_type_L13 n k τ a b x y v) (fun res => res.1 = if y = 0 then x else ty_s a b (8 - v.toInt).toNat v) := by
  intro k
  induction k with
  | zero => intro τ x y v g0 g1 hy; rw [f_X12_type_L13.eq_1]; exact pr_0
  | succ k ih =>
    intro τ x y v g0 g1 hy
    have L := lits
    rw [f_X12_type_L13.eq_2]
    have h9 : pr (f_X12_type_J99 n τ x) (fun res => res.1 = x) := by
      unfold f_X12_type_J99
      exact v_type_C n x n τ 0
    rcases hy with hy | ⟨hy, hx⟩
    · refine pr_m (P := fun res => res.1 = x) ?_ (fun r e => by rw [e, if_pos hy])
      exact pr_le (fun _ => h9) (fun _ => pr_i (fun _ => h9) (fun e => absurd hy e))
    · subst hy; subst hx
      refine pr_m (P := fun res => res.1 = ty_s a b (8 - x.toInt).toNat x) ?_ (fun r e => by rw [e, if_neg (by decide)])
      refine pr_le (fun h8 => ?_) (fun h8 => pr_i (fun e => absurd e (by decide)) (fun _ => ?_))
      · rw [show (8 - x.toInt).toNat = 0 by omega]
        exact h9
      · have hq : (8 - x.toInt).toNat = (8 - (x + 1).toInt).toNat + 1 := by (try simp only [iw_add, iw_sub, iw_mul, t_m1, lt0, lt1, t_2, t_3, t_4, t_5, t_6, t_8, t_9, t_10, t_16, t_20, t_24, t_26, t_30, t_31, t_48, t_64, t_72, t_76, t_92, t_101, t_252, t_444, t_512, t_900, t_1980, t_65521, t_99999, t_mil]) <;> omega
        have hJ : ∀ w, (((w).toUInt32 >>> ((((5 : Int32) * (x - x / (6 : Int32) * (6 : Int32)))).toUInt32 &&& Int32.toUInt32 31)).toInt32 &&& (31 : Int32)) = ty_l a b x → pr (f_X12_type_J37 n (f_X12_type_L13 n k) τ a b x x w) (fun res => res.1 = ty_s a b (8 - x.toInt).toNat x) := by
          intro w hw
          unfold f_X12_type_J37
          rw [hw]
          have h0 := ty_l0 a b x
          rw [hq]
          refine pr_l (pr_le (fun h26 => pr_le (fun hz => ?_) (fun hz => ?_)) (fun h26 => pr_s ?_))
          · have hz2 : ty_l a b x = 0 := Int32.toInt_inj.mp (by rw [lt0]; omega)
            unfold f_X12_type_J69 f_X12_type_J91
            refine pr_g (fun _ _ => pr_l (pr_i (fun _ => pr_l (pr_l ?_)) (fun e => absurd rfl e)))
            refine pr_m (ih _ _ _ _ (by (try simp only [iw_add, iw_sub, iw_mul, t_m1, lt0, lt1, t_2, t_3, t_4, t_5, t_6, t_8, t_9, t_10, t_16, t_20, t_24, t_26, t_30, t_31, t_48, t_64, t_72, t_76, t_92, t_101, t_252, t_444, t_512, t_900, t_1980, t_65521, t_99999, t_mil]) <;> omega) (by (try simp only [iw_add, iw_sub, iw_mul, t_m1, lt0, lt1, t_2, t_3, t_4, t_5, t_6, t_8, t_9, t_10, t_16, t_20, t_24, t_26, t_30, t_31, t_48, t_64, t_72, t_76, t_92, t_101, t_252, t_444, t_512, t_900, t_1980, t_65521, t_99999, t_mil]) <;> omega) (Or.inl rfl)) (fun r e => ?_)
            rw [e, if_pos rfl, ty_s, if_pos hz2]
            exact Int32.toInt_inj.mp (by (try simp only [iw_add, iw_sub, iw_mul, t_m1, lt0, lt1, t_2, t_3, t_4, t_5, t_6, t_8, t_9, t_10, t_16, t_20, t_24, t_26, t_30, t_31, t_48, t_64, t_72, t_76, t_92, t_101, t_252, t_444, t_512, t_900, t_1980, t_65521, t_99999, t_mil]) <;> omega)
          · have hz2 : ¬ ty_l a b x = 0 := fun e => by rw [e, lt0] at hz; omega
            unfold f_X12_type_J69 f_X12_type_J91
            refine pr_g (fun _ _ => pr_l (pr_i (fun e => absurd e (by decide)) (fun _ => pr_l (pr_l ?_))))
            refine pr_m (ih _ _ _ _ (by (try simp only [iw_add, iw_sub, iw_mul, t_m1, lt0, lt1, t_2, t_3, t_4, t_5, t_6, t_8, t_9, t_10, t_16, t_20, t_24, t_26, t_30, t_31, t_48, t_64, t_72, t_76, t_92, t_101, t_252, t_444, t_512, t_900, t_1980, t_65521, t_99999, t_mil]) <;> omega) (by (try simp only [iw_add, iw_sub, iw_mul, t_m1, lt0, lt1, t_2, t_3, t_4, t_5, t_6, t_8, t_9, t_10, t_16, t_20, t_24, t_26, t_30, t_31, t_48, t_64, t_72, t_76, t_92, t_101, t_252, t_444, t_512, t_900, t_1980, t_65521, t_99999, t_mil]) <;> omega) (Or.inr ⟨rfl, rfl⟩)) (fun r e => ?_)
            rw [e, if_neg (by decide), ty_s, if_neg hz2, if_pos (Int32.le_iff_toInt_le.mpr h26)]
          · rw [ty_s, if_neg (fun e => by rw [e] at h26; revert h26; decide), if_neg (fun e => by have := il_le e; omega)]
        refine pr_le (fun h6 => hJ _ ?_) (fun h6 => hJ _ ?_)
        · rw [ty_v x g0 (by omega), if_pos (Int32.le_iff_toInt_le.mpr h6)]
          unfold ty_l
          rw [if_pos (Int32.le_iff_toInt_le.mpr h6)]
        · have h7 : ¬ (6 : Int32) ≤ x := fun e => by have := il_le e; omega
          rw [ty_v x g0 (by omega), if_neg h7]
          unfold ty_l
          rw [if_neg h7]
theorem v_type (n : Nat) (σ : ms_T) (a b : Int32) : pr (f_X12_type n σ a b) (fun res => res.1 = ty_s a b 8 0) := by
  unfold f_X12_type
  refine pr_l (pr_m (v_type_L n a b n _ 0 1 0 (by decide) (by decide) (Or.inr ⟨rfl, rfl⟩)) (fun r e => ?_))
  rw [e, if_neg (by decide)]
  rfl
/-! of the class -/
theorem k_put9 (n : Nat) (α : hp_T) (b : Nat) (v : Int32) (h0 : 0 ≤ (hp_I α 501 b).toInt) (h1 : (hp_I α 501 b).toInt < 8) : ws (f_X9_put n α b v) (fun β => hp_I β 501 b = hp_I α 501 b + 1 ∧ hp_R β = hp_R α) := by
  have L := lits
  unfold f_X9_put
  refine ws_l (ws_lt (fun _ => by omega) (fun _ => ws_l (ws_l (ws_le (fun _ => by omega) (fun _ => ws_l (ws_l (ws_g h0 h1 (ws_l (ws_l (ws_l (ws_s ⟨?_, rfl⟩)))))))))))
  rw [hI_sI, if_pos ⟨rfl, rfl⟩]
  rfl
theorem k_type_L (n : Nat) (a0 : Nat) (a b : Int32) : ∀ (k : Nat) (α : hp_T) (v : Int32), 0 ≤ v.toInt → v.toInt ≤ 8 → hp_I α 501 (hp_R α 607 a0) = v → 9 - v.toInt ≤ (k : Int) → ws (f_X11_type_L9 n a0 k α a b v) (fun res => res.1 = ty_s a b (8 - v.toInt).toNat v) := by
  intro k
  induction k with
  | zero => intro α v g0 g1 hv g2; omega
  | succ k ih =>
    intro α v g0 g1 hv g2
    have L := lits
    rw [f_X11_type_L9.eq_2]
    have h7 : ws (f_X11_type_J77 n a0 α) (fun res => res.1 = v) := by
      unfold f_X11_type_J77
      refine ws_l (ws_l (ws_l (ws_l (ws_l (ws_l (ws_s ?_))))))
      rw [hR_sR, if_neg (fun h => absurd h.1 (by decide)), hR_sR, if_pos ⟨rfl, rfl⟩]
      exact hv
    refine ws_le (fun h8 => ?_) (fun h8 => ?_)
    · rw [show (8 - v.toInt).toNat = 0 by omega]
      exact h7
    · have hq : (8 - v.toInt).toNat = (8 - (v + 1).toInt).toNat + 1 := by (try simp only [iw_add, iw_sub, iw_mul, t_m1, lt0, lt1, t_2, t_3, t_4, t_5, t_6, t_8, t_9, t_10, t_16, t_20, t_24, t_26, t_30, t_31, t_48, t_64, t_72, t_76, t_92, t_101, t_252, t_444, t_512, t_900, t_1980, t_65521, t_99999, t_mil]) <;> omega
      have hJ : ∀ w, w = ty_l a b v → ws (f_X11_type_J43 n a0 (f_X11_type_L9 n a0 k) α a b v w) (fun res => res.1 = ty_s a b (8 - v.toInt).toNat v) := by
        intro w hw
        subst hw
        unfold f_X11_type_J43
        rw [hq, ty_s]
        refine ws_i (fun hz => ?_) (fun hz => ?_)
        · rw [if_pos hz]; exact h7
        · rw [if_neg hz]
          refine ws_i (fun h26 => ?_) (fun h26 => ?_)
          · rw [if_pos h26]
            refine ws_l (ws_b (k_put9 n α _ _ (by rw [hv]; exact g0) (by rw [hv]; omega)) (fun β hβ => ws_l (ih β (v + 1) (by (try simp only [iw_add, iw_sub, iw_mul, t_m1, lt0, lt1, t_2, t_3, t_4, t_5, t_6, t_8, t_9, t_10, t_16, t_20, t_24, t_26, t_30, t_31, t_48, t_64, t_72, t_76, t_92, t_101, t_252, t_444, t_512, t_900, t_1980, t_65521, t_99999, t_mil]) <;> omega) (by (try simp only [iw_add, iw_sub, iw_mul, t_m1, lt0, lt1, t_2, t_3, t_4, t_5, t_6, t_8, t_9, t_10, t_16, t_20, t_24, t_26, t_30, t_31, t_48, t_64, t_72, t_76, t_92, t_101, t_252, t_444, t_512, t_900, t_1980, t_65521, t_99999, t_mil]) <;> omega) ?_ (by (try simp only [iw_add, iw_sub, iw_mul, t_m1, lt0, lt1, t_2, t_3, t_4, t_5, t_6, t_8, t_9, t_10, t_16, t_20, t_24, t_26, t_30, t_31, t_48, t_64, t_72, t_76, t_92, t_101, t_252, t_444, t_512, t_900, t_1980, t_65521, t_99999, t_mil]) <;> omega))))
            rw [hβ.2, hβ.1, hv]
          · rw [if_neg h26]
            exact ws_s rfl
      refine ws_le (fun h6 => hJ _ ?_) (fun h6 => hJ _ ?_)
      · unfold ty_l
        rw [if_pos (Int32.le_iff_toInt_le.mpr h6)]
      · unfold ty_l
        rw [if_neg (fun e => by have := il_le e; omega)]
theorem k_type (n : Nat) (hn : 70000 ≤ n) (α : hp_T) (a0 : Nat) (a b : Int32) : ws (f_X11_type n α a0 a b) (fun res => res.1 = ty_s a b 8 0) := by
  unfold f_X11_type f_X9_clear
  refine ws_l (ws_b (ws_l (ws_s (P := fun β => β = hp_sI α 501 (hp_R α 607 a0) 0) rfl)) (fun β hβ => ?_))
  subst hβ
  refine ws_m (k_type_L n a0 a b n _ 0 (by decide) (by decide) ?_ (by rw [lt0]; omega)) (fun r e => e)
  rw [hR_sI, hI_sI, if_pos ⟨rfl, rfl⟩]
/-! ===== tokens: the class's and the reference's ===== -/
def isL (c : Int32) : Bool := decide (97 ≤ c.toInt) && decide (c.toInt ≤ 122)
def isD (c : Int32) : Bool := decide (48 ≤ c.toInt) && decide (c.toInt ≤ 57)
def isB (c : Int32) : Bool := decide (c = 10) || decide (c = 32)
def kof (c : Int32) : Int32 := if isL c then 1 else if isD c then 2 else if c = 59 then 3 else 4
/-- so far as a row of bytes goes on so, of d bytes at most -/
def ru (f : Int32 → Bool) (t : Nat → Int32) : Nat → Nat → Nat
  | 0, p => p
  | d + 1, p => if f (t p) then ru f t d (p + 1) else p
theorem ru_le (f : Int32 → Bool) (t : Nat → Int32) : ∀ (d p : Nat), p ≤ ru f t d p ∧ ru f t d p ≤ p + d := by
  intro d
  induction d with
  | zero => intro p; exact ⟨Nat.le_refl _, Nat.le_refl _⟩
  | succ d ih =>
    intro p
    rw [ru]
    split
    · have := ih (p + 1); omega
    · omega
def vl (t : Nat → Int32) (p : Nat) : Nat → Int32
  | 0 => 0
  | m + 1 => ((10 : Int32) * vl t p m + t (p + m)) - (48 : Int32)
def lv8 (t : Nat → Int32) (p : Nat) : Nat → Int64
  | 0 => 0
  | m + 1 => ((27 : Int64) * lv8 t p m + (t (p + m)).toInt64) - (96 : Int64)
def tkP (t : Nat → Int32) (N p : Nat) : Nat := ru isB t (N - p) p
def tkK (t : Nat → Int32) (N q : Nat) : Int32 := if N ≤ q then 0 else kof (t q)
def tkN (t : Nat → Int32) (N q : Nat) : Nat := if N ≤ q then q + 1 else if isL (t q) then ru isL t (N - q) q else if isD (t q) then ru isD t (N - q) q else q + 1
/-- the token's kind: a number of more than five digits is none -/
def tkS (t : Nat → Int32) (N q : Nat) : Int32 := if tkK t N q = 2 ∧ 5 < tkN t N q - q then 4 else tkK t N q
theorem kof_L {c : Int32} : kof c = 1 ↔ isL c = true := by
  unfold kof
  split
  · simp [*]
  · constructor
    · intro h; split at h
      · exact absurd h (by decide)
      · split at h <;> exact absurd h (by decide)
    · intro h; exact absurd h (by assumption)
theorem kof_D {c : Int32} : kof c = 2 ↔ (isL c = false ∧ isD c = true) := by
  unfold kof
  by_cases h1 : isL c = true
  · rw [if_pos h1]; simp [h1]
  · rw [if_neg h1]
    by_cases h2 : isD c = true
    · rw [if_pos h2]; simp [h1, h2]
    · rw [if_neg h2]
      constructor
      · intro h; split at h <;> exact absurd h (by decide)
      · intro h; exact absurd h.2 h2
theorem kof_0 {c : Int32} : kof c ≠ 0 := by
  unfold kof
  split
  · decide
  · split
    · decide
    · split <;> decide
/-! of the class -/
def sf (sc : Nat) (α β : hp_T) : Prop := hp_R β = hp_R α ∧ hp_K β = hp_K α ∧ hp_Q β = hp_Q α ∧ hp_N β = hp_N α ∧ hp_E β = hp_E α ∧ ∀ φ b, ¬ (b = sc ∧ 352 ≤ φ ∧ φ ≤ 356) → hp_I β φ b = hp_I α φ b
theorem sf_tr {sc : Nat} {α β γ : hp_T} (h : sf sc α β) (g : sf sc β γ) : sf sc α γ := by
  obtain ⟨h1, h2, h3, h4, h5, h6⟩ := h
  obtain ⟨g1, g2, g3, g4, g5, g6⟩ := g
  exact ⟨g1.trans h1, g2.trans h2, g3.trans h3, g4.trans h4, g5.trans h5, fun φ b q => (g6 φ b q).trans (h6 φ b q)⟩
theorem sf_sI {sc φ : Nat} {α : hp_T} {v : Int32} (h : 352 ≤ φ ∧ φ ≤ 356) : sf sc α (hp_sI α φ sc v) :=
  ⟨rfl, rfl, rfl, rfl, rfl, fun ψ b q => by rw [hI_sI, if_neg (fun (e : ψ = φ ∧ b = sc) => q ⟨e.2, by rw [e.1]; exact h⟩)]⟩
/-- the bytes that a scanner goes through -/
def SB (α : hp_T) (sc : Nat) (t : Nat → Int32) (N : Nat) : Prop := N ≤ 900 ∧ (hp_I α 351 sc).toInt = (N : Int) ∧ hp_K α (hp_R α 350 sc) = 24 ∧ ∀ j, j < N → hp_E α 24 (hp_R α 350 sc) j = t j
theorem SB_sf {α β : hp_T} {sc N : Nat} {t : Nat → Int32} (h : SB α sc t N) (f : sf sc α β) : SB β sc t N := by
  obtain ⟨h1, h2, h3, h4⟩ := h
  obtain ⟨f1, f2, -, -, f5, f6⟩ := f
  exact ⟨h1, by rw [f6 351 sc (by omega)]; exact h2, by rw [f1, f2]; exact h3, fun j hj => by rw [f1, f5]; exact h4 j hj⟩
theorem k_byteAt (n : Nat) {α : hp_T} {sc N : Nat} {t : Nat → Int32} (h : SB α sc t N) (p : Nat) (pI : Int32) (hp : pI.toInt = (p : Int)) : ws (f_X6_byteAt n α sc pI) (fun r => r = if p < N then t p else 0) := by
  obtain ⟨h1, h2, h3, h4⟩ := h
  have L := t_900
  unfold f_X6_byteAt
  refine ws_lt (fun e => by rw [lt0] at e; omega) (fun _ => ws_l (ws_le (fun e => ?_) (fun e => ws_l ?_)))
  · rw [if_neg (by omega)]; exact ws_s rfl
  · rw [if_pos h3]
    refine ws_le (fun e2 => by omega) (fun _ => ws_l ?_)
    rw [if_pos h3]
    refine ws_g (by omega) (by omega) (ws_s ?_)
    rw [cl_n hp, if_pos (by omega)]
    exact h4 p (by omega)
theorem k_isBlank (n : Nat) (c : Int32) : ws (f_X6_isBlank n c) (fun r => bo r (isB c = true)) := by
  unfold f_X6_isBlank f_X6_isBlank_J12 isB
  refine ws_i (fun e => ws_s (Or.inl ⟨rfl, by simp [e]⟩)) (fun e => ws_i (fun e2 => ws_s (Or.inl ⟨rfl, by simp [e2]⟩)) (fun e2 => ws_s (Or.inr ⟨rfl, by simp [e, e2]⟩)))
theorem k_kindOf (n : Nat) (c : Int32) : ws (f_X6_kindOf n c) (fun r => r = kof c) := by
  have l97 : (97 : Int32).toInt = 97 := by decide
  have l122 : (122 : Int32).toInt = 122 := by decide
  have l48 : (48 : Int32).toInt = 48 := by decide
  have l57 : (57 : Int32).toInt = 57 := by decide
  have hJ : isL c = false → ws (f_X6_kindOf_J14 n c) (fun r => r = kof c) := by
    intro hL
    have h28 : isD c = false → ws (f_X6_kindOf_J28 n c) (fun r => r = kof c) := by
      intro hD
      unfold f_X6_kindOf_J28 kof
      rw [hL, hD]
      exact ws_i (fun e => ws_s (by simp [e])) (fun e => ws_s (by simp [e]))
    unfold f_X6_kindOf_J14
    refine ws_lt (fun e => h28 ?_) (fun e => ws_lt (fun e2 => h28 ?_) (fun e2 => ws_s ?_))
    · unfold isD; simp; omega
    · unfold isD; simp; omega
    · have : isD c = true := by unfold isD; simp; omega
      unfold kof
      rw [hL, this]; rfl
  unfold f_X6_kindOf
  refine ws_lt (fun e => hJ ?_) (fun e => ws_lt (fun e2 => hJ ?_) (fun e2 => ws_s ?_))
  · unfold isL; simp; omega
  · unfold isL; simp; omega
  · have : isL c = true := by unfold isL; simp; omega
    unfold kof
    rw [this]; rfl
/-- a scanner that stands on the token that begins at q -/
def SCT (β : hp_T) (sc : Nat) (t : Nat → Int32) (N q : Nat) : Prop := (hp_I β 354 sc).toInt = (q : Int) ∧ hp_I β 353 sc = tkS t N q ∧ (hp_I β 352 sc).toInt = (if N ≤ q then (q : Int) else (tkN t N q : Int)) ∧ (hp_I β 355 sc).toInt = (if N ≤ q then 0 else (tkN t N q : Int) - q) ∧ (tkS t N q = 2 → hp_I β 356 sc = vl t q (tkN t N q - q))
theorem tkN_le (t : Nat → Int32) {N q : Nat} (h : q < N) : q + 1 ≤ tkN t N q ∧ tkN t N q ≤ N := by
  unfold tkN
  rw [if_neg (by omega)]
  split
  · rename_i hL
    rw [show N - q = (N - q - 1) + 1 by omega, ru, if_pos hL]
    have := ru_le isL t (N - q - 1) (q + 1); omega
  · split
    · rename_i hD
      rw [show N - q = (N - q - 1) + 1 by omega, ru, if_pos hD]
      have := ru_le isD t (N - q - 1) (q + 1); omega
    · omega
theorem k_adv_229 (n : Nat) {β : hp_T} {sc N q : Nat} {t : Nat → Int32} (hp : (hp_I β 354 sc).toInt = (q : Int)) (hk : hp_I β 353 sc = tkK t N q) (hn : (hp_I β 352 sc).toInt = (if N ≤ q then (q : Int) else (tkN t N q : Int))) (hl : (hp_I β 355 sc).toInt = (if N ≤ q then 0 else (tkN t N q : Int) - q)) (hv : tkK t N q = 2 → tkN t N q - q ≤ 5 → hp_I β 356 sc = vl t q (tkN t N q - q)) : ws (f_X6_advance_J229 n sc β) (fun γ => SCT γ sc t N q ∧ sf sc β γ) := by
  have L5 := t_5
  have f353 : ∀ v : Int32, sf sc β (hp_sI β 353 sc v) := fun v => sf_sI (by decide)
  have hqN : tkK t N q = 2 → q < N := by
    intro h
    unfold tkK at h
    split at h
    · exact absurd h (by decide)
    · omega
  have h250 : ¬ (tkK t N q = 2 ∧ 5 < tkN t N q - q) → ws (f_X6_advance_J250 n sc β sc) (fun γ => SCT γ sc t N q ∧ sf sc β γ) := by
    intro hno
    unfold f_X6_advance_J250
    have e : tkS t N q = tkK t N q := by unfold tkS; rw [if_neg hno]
    refine ws_l (ws_l (ws_s ⟨⟨?_, ?_, ?_, ?_, fun h2 => ?_⟩, f353 _⟩))
    · rw [hI_sI, if_neg (by omega)]; exact hp
    · rw [hI_sI, if_pos ⟨rfl, rfl⟩, e]; exact hk
    · rw [hI_sI, if_neg (by omega)]; exact hn
    · rw [hI_sI, if_neg (by omega)]; exact hl
    · rw [e] at h2
      rw [hI_sI, if_neg (by omega)]
      exact hv h2 (Nat.le_of_not_lt (fun h => hno ⟨h2, h⟩))
  unfold f_X6_advance_J229
  refine ws_l (ws_i (fun e2 => ws_l (ws_le (fun e5 => h250 ?_) (fun e5 => ws_l (ws_s ?_)))) (fun e2 => h250 (fun h => e2 (hk.trans h.1))))
  · intro h
    have := hqN h.1
    rw [hl, if_neg (by omega), L5] at e5
    omega
  · have h2 : tkK t N q = 2 := hk.symm.trans e2
    have := hqN h2
    rw [hl, if_neg (by omega), L5] at e5
    have e : tkS t N q = 4 := by unfold tkS; rw [if_pos ⟨h2, by omega⟩]
    refine ⟨⟨?_, ?_, ?_, ?_, fun h => ?_⟩, f353 _⟩
    · rw [hI_sI, if_neg (by omega)]; exact hp
    · rw [hI_sI, if_pos ⟨rfl, rfl⟩, e]
    · rw [hI_sI, if_neg (by omega)]; exact hn
    · rw [hI_sI, if_neg (by omega)]; exact hl
    · rw [e] at h; exact absurd h (by decide)
theorem k_adv_177 (n : Nat) {sc N q : Nat} {t : Nat → Int32} : ∀ (d m : Nat) (mI : Int32) (β : hp_T), SB β sc t N → (hp_I β 354 sc).toInt = (q : Int) → hp_I β 353 sc = tkK t N q → (hp_I β 352 sc).toInt = (if N ≤ q then (q : Int) else (tkN t N q : Int)) → (hp_I β 355 sc).toInt = (if N ≤ q then 0 else (tkN t N q : Int) - q) → mI.toInt = (m : Int) → m ≤ 5 → (q < N → m ≤ tkN t N q - q) → (tkK t N q = 2 → hp_I β 356 sc = vl t q m) → 6 - m ≤ d → ws (f_X6_advance_L177 n sc d β mI) (fun γ => SCT γ sc t N q ∧ sf sc β γ) := by
  intro d
  induction d with
  | zero => intro m mI β hB hp hk hn hl h1 h2 h3 h4 h5; omega
  | succ d ih =>
    intro m mI β hB hp hk hn hl h1 h2 h3 h4 h5
    have L5 := t_5
    have l2 := t_2
    have hN := hB.1
    rw [f_X6_advance_L177.eq_2]
    refine ws_l (ws_le (fun e => ?_) (fun e => ws_le (fun e5 => ?_) (fun e5 => ws_l (ws_i (fun e2 => ?_) (fun e2 => ?_)))))
    · refine k_adv_229 n hp hk hn hl (fun h2' h5' => ?_)
      have hq : q < N := Nat.lt_of_not_le (fun h => by unfold tkK at h2'; rw [if_pos h] at h2'; exact absurd h2' (by decide))
      rw [hl, if_neg (by omega), h1] at e
      rw [h4 h2', show tkN t N q - q = m by have := h3 hq; omega]
    · refine k_adv_229 n hp hk hn hl (fun h2' h5' => ?_)
      have hq : q < N := Nat.lt_of_not_le (fun h => by unfold tkK at h2'; rw [if_pos h] at h2'; exact absurd h2' (by decide))
      rw [h4 h2', show tkN t N q - q = m by have := h3 hq; omega]
    · have h2' : tkK t N q = 2 := hk.symm.trans e2
      have hq : q < N := Nat.lt_of_not_le (fun h => by unfold tkK at h2'; rw [if_pos h] at h2'; exact absurd h2' (by decide))
      rw [hl, if_neg (by omega), h1] at e
      have hb := tkN_le t hq
      have hq2 : (hp_I β 354 sc + mI).toInt = ((q + m : Nat) : Int) := by rw [ii_add (by omega) (by omega), hp, h1]; omega
      refine ws_l (ws_l (ws_b (k_byteAt n hB (q + m) _ hq2) (fun r hr => ws_l (ws_l ?_))))
      rw [if_pos (by omega)] at hr
      have f : sf sc β (hp_sI β 356 sc ((((10 : Int32) * (hp_I β 356 sc)) + r) - (48 : Int32))) := sf_sI (by decide)
      refine ws_m (ih (m + 1) _ _ (SB_sf hB f) (by rw [hI_sI, if_neg (by omega)]; exact hp) (by rw [hI_sI, if_neg (by omega)]; exact hk) (by rw [hI_sI, if_neg (by omega)]; exact hn) (by rw [hI_sI, if_neg (by omega)]; exact hl) (by rw [ii_add (by rw [lt1]; omega) (by rw [lt1]; omega), h1, lt1]; omega) (by omega) (fun _ => by omega) (fun _ => ?_) (by omega)) (fun γ hγ => ⟨hγ.1, sf_tr f hγ.2⟩)
      rw [hI_sI, if_pos ⟨rfl, rfl⟩, h4 h2', hr, vl]
    · refine k_adv_229 n hp hk hn hl (fun h2' _ => absurd (hk.trans h2') e2)
theorem tkS_K {t : Nat → Int32} {N q : Nat} : tkS t N q = 2 → tkK t N q = 2 := by
  unfold tkS
  intro h
  split at h
  · exact absurd h (by decide)
  · exact h
theorem k_adv_157 (n : Nat) (hn7 : 70000 ≤ n) {β : hp_T} {sc N q : Nat} {t : Nat → Int32} (hB : SB β sc t N) (hp : (hp_I β 354 sc).toInt = (q : Int)) (hq : q ≤ 900) (hk : hp_I β 353 sc = tkK t N q) (hn : (hp_I β 352 sc).toInt = (if N ≤ q then (q : Int) else (tkN t N q : Int))) : ws (f_X6_advance_J157 n sc β) (fun γ => SCT γ sc t N q ∧ sf sc β γ) := by
  unfold f_X6_advance_J157
  have hN := hB.1
  have hb : q < N → q + 1 ≤ tkN t N q ∧ tkN t N q ≤ N := fun h => tkN_le t h
  have hd : (hp_I β 352 sc - hp_I β 354 sc).toInt = (if N ≤ q then 0 else (tkN t N q : Int) - q) := by
    by_cases h : N ≤ q
    · rw [if_pos h] at hn ⊢
      rw [ii_sub (by omega) (by omega), hn, hp]; omega
    · rw [if_neg h] at hn ⊢
      have := hb (by omega)
      rw [ii_sub (by omega) (by omega), hn, hp]
  have f1 : sf sc β (hp_sI β 355 sc (hp_I β 352 sc - hp_I β 354 sc)) := sf_sI (by decide)
  have f2 : sf sc (hp_sI β 355 sc (hp_I β 352 sc - hp_I β 354 sc)) (hp_sI (hp_sI β 355 sc (hp_I β 352 sc - hp_I β 354 sc)) 356 sc 0) := sf_sI (by decide)
  refine ws_l (ws_l (ws_l (ws_l (ws_m (k_adv_177 n n 0 0 _ (SB_sf (SB_sf hB f1) f2) ?_ ?_ ?_ ?_ rfl (by omega) (fun _ => Nat.zero_le _) (fun _ => ?_) (by omega)) (fun γ hγ => ⟨hγ.1, sf_tr (sf_tr f1 f2) hγ.2⟩)))))
  · rw [hI_sI, if_neg (by omega), hI_sI, if_neg (by omega)]; exact hp
  · rw [hI_sI, if_neg (by omega), hI_sI, if_neg (by omega)]; exact hk
  · rw [hI_sI, if_neg (by omega), hI_sI, if_neg (by omega)]; exact hn
  · rw [hI_sI, if_neg (by omega), hI_sI, if_pos ⟨rfl, rfl⟩]; exact hd
  · rw [hI_sI, if_pos ⟨rfl, rfl⟩]; rfl
/-- the run behind a word's or a number's first letter -/
theorem k_adv_100 (n : Nat) (hn7 : 70000 ≤ n) {sc N q : Nat} {t : Nat → Int32} (hq : q < N) : ∀ (d r : Nat) (jI : Int32) (β : hp_T), SB β sc t N → (hp_I β 354 sc).toInt = (q : Int) → hp_I β 353 sc = tkK t N q → (hp_I β 352 sc).toInt = (r : Int) → q + 1 ≤ r → r ≤ N → (tkK t N q = 1 → tkN t N q = ru isL t (N - r) r) → (tkK t N q = 2 → tkN t N q = ru isD t (N - r) r) → (tkK t N q ≠ 1 → tkK t N q ≠ 2 → tkN t N q = r) → jI.toInt + q + 1 = (r : Int) → N + 1 - r ≤ d → ws (f_X6_advance_L100 n sc d β jI) (fun γ => SCT γ sc t N q ∧ sf sc β γ) := by
  intro d
  induction d with
  | zero => intro r jI β hB hp hk hn h1 h2 h3 h4 h5 h6 h7; omega
  | succ d ih =>
    intro r jI β hB hp hk hn h1 h2 h3 h4 h5 h6 h7
    have hN := hB.1
    have L := t_900
    have hend : tkN t N q = r → ws (f_X6_advance_J157 n sc β) (fun γ => SCT γ sc t N q ∧ sf sc β γ) := fun h => k_adv_157 n hn7 hB hp (by omega) hk (by rw [if_neg (by omega), h]; exact hn)
    have hJ : ∀ (g : Int32 → Bool), (∀ c, (kof c = tkK t N q) ↔ g c = true) → g 0 = false → tkN t N q = ru g t (N - r) r → (∀ r', tkK t N q = 1 → ru isL t (N - r') r' = ru g t (N - r') r') → (∀ r', tkK t N q = 2 → ru isD t (N - r') r' = ru g t (N - r') r') → (tkK t N q = 1 ∨ tkK t N q = 2) → ws (f_X6_advance_J123 n sc (f_X6_advance_L100 n sc d) β jI) (fun γ => SCT γ sc t N q ∧ sf sc β γ) := by
      intro g hg h0 hr hg1 hg2 hor
      unfold f_X6_advance_J123
      refine ws_l (ws_b (k_byteAt n hB r _ hn) (fun c hc => ws_b (k_kindOf n c) (fun kc hkc => ws_l (ws_i (fun e => ?_) (fun e => ?_)))))
      · have hgc : g c = true := (hg c).mp (hkc.symm.trans (e.trans hk))
        have hrN : r < N := by
          refine Nat.lt_of_not_le (fun h => ?_)
          rw [if_neg (by omega)] at hc
          rw [hc, h0] at hgc
          exact absurd hgc (by decide)
        rw [if_pos hrN] at hc
        have f : sf sc β (hp_sI β 352 sc (hp_I β 352 sc + (1 : Int32))) := sf_sI (by decide)
        have hstep : ru g t (N - r) r = ru g t (N - (r + 1)) (r + 1) := by
          rw [show N - r = (N - (r + 1)) + 1 by omega, ru, if_pos (by rw [← hc]; exact hgc)]
        refine ws_l (ws_l (ws_l (ws_m (ih (r + 1) _ _ (SB_sf hB f) (by rw [hI_sI, if_neg (by omega)]; exact hp) (by rw [hI_sI, if_neg (by omega)]; exact hk) (by rw [hI_sI, if_pos ⟨rfl, rfl⟩, ii_add (by rw [lt1]; omega) (by rw [lt1]; omega), hn, lt1]; omega) (by omega) (by omega) (fun h => ?_) (fun h => ?_) (fun h1 h2 => ?_) (by rw [ii_add (by rw [lt1]; omega) (by rw [lt1]; omega), lt1]; omega) (by omega)) (fun γ hγ => ⟨hγ.1, sf_tr f hγ.2⟩))))
        · rw [hr, hstep, hg1 _ h]
        · rw [hr, hstep, hg2 _ h]
        · rcases hor with h | h
          · exact absurd h h1
          · exact absurd h h2
      · refine hend ?_
        by_cases hrN : r < N
        · rw [if_pos hrN] at hc
          rw [hr, show N - r = (N - (r + 1)) + 1 by omega, ru, if_neg]
          intro hgc
          rw [← hc] at hgc
          exact e (hkc.trans (((hg c).mpr hgc).trans hk.symm))
        · rw [hr, show N - r = 0 by omega, ru]
    rw [f_X6_advance_L100.eq_2]
    refine ws_le (fun e => by omega) (fun _ => ws_l (ws_i (fun e => ?_) (fun e => ws_l (ws_i (fun e2 => ?_) (fun e2 => ?_)))))
    · have hk1 : tkK t N q = 1 := hk.symm.trans e
      exact hJ isL (fun c => by rw [hk1]; exact kof_L) (by decide) (h3 hk1) (fun _ _ => rfl) (fun _ h => by rw [hk1] at h; exact absurd h (by decide)) (Or.inl hk1)
    · have hk2 : tkK t N q = 2 := hk.symm.trans e2
      refine hJ isD (fun c => ?_) (by decide) (h4 hk2) (fun _ h => by rw [hk2] at h; exact absurd h (by decide)) (fun _ _ => rfl) (Or.inr hk2)
      rw [hk2, kof_D]
      constructor
      · intro h; exact h.2
      · intro h
        refine ⟨?_, h⟩
        unfold isD at h
        unfold isL
        simp at h ⊢
        omega
    · exact hend (h5 (fun h => e (hk.trans h)) (fun h => e2 (hk.trans h)))
theorem k_adv_39 (n : Nat) (hn7 : 70000 ≤ n) {β : hp_T} {sc N q : Nat} {t : Nat → Int32} (hB : SB β sc t N) (hq : q ≤ N) (hn : (hp_I β 352 sc).toInt = (q : Int)) : ws (f_X6_advance_J39 n sc β) (fun γ => SCT γ sc t N q ∧ sf sc β γ) := by
  have hN := hB.1
  have f1 : sf sc β (hp_sI β 354 sc (hp_I β 352 sc)) := sf_sI (by decide)
  have hB1 := SB_sf hB f1
  have hJ : ∀ w, w = tkK t N q → ws (f_X6_advance_J74 n sc (hp_sI β 354 sc (hp_I β 352 sc)) w sc) (fun γ => SCT γ sc t N q ∧ sf sc β γ) := by
    intro w hw
    unfold f_X6_advance_J74
    have f2 : sf sc (hp_sI β 354 sc (hp_I β 352 sc)) (hp_sI (hp_sI β 354 sc (hp_I β 352 sc)) 353 sc w) := sf_sI (by decide)
    have hB2 := SB_sf hB1 f2
    refine ws_l (ws_l (ws_l (ws_i (fun e => ?_) (fun e => ?_))))
    · rw [hI_sI, if_pos ⟨rfl, rfl⟩] at e
      have hqN : N ≤ q := by
        refine Nat.le_of_not_lt (fun h => ?_)
        rw [hw] at e
        unfold tkK at e
        rw [if_neg (by omega)] at e
        exact kof_0 e
      unfold f_X6_advance_J94
      obtain ⟨n', rfl⟩ : ∃ n', n = n' + 1 := ⟨n - 1, by omega⟩
      have f3 : sf sc (hp_sI (hp_sI β 354 sc (hp_I β 352 sc)) 353 sc w) (hp_sI (hp_sI (hp_sI β 354 sc (hp_I β 352 sc)) 353 sc w) 352 sc (hp_I (hp_sI (hp_sI β 354 sc (hp_I β 352 sc)) 353 sc w) 352 sc + (0 : Int32))) := sf_sI (by decide)
      have hk0 : tkK t N q = 0 := hw.symm.trans e
      refine ws_l ?_
      rw [f_X6_advance_L100.eq_2]
      refine ws_le (fun e => absurd e (by decide)) (fun _ => ws_l (ws_i (fun e1 => ?_) (fun _ => ws_l (ws_i (fun e1 => ?_) (fun _ => ?_)))))
      · rw [hI_sI, if_neg (by omega), hI_sI, if_pos ⟨rfl, rfl⟩, e] at e1; exact absurd e1 (by decide)
      · rw [hI_sI, if_neg (by omega), hI_sI, if_pos ⟨rfl, rfl⟩, e] at e1; exact absurd e1 (by decide)
      · refine ws_m (k_adv_157 (n' + 1) hn7 (SB_sf hB2 f3) ?_ (by omega) ?_ ?_) (fun γ hγ => ⟨hγ.1, sf_tr (sf_tr (sf_tr f1 f2) f3) hγ.2⟩)
        · rw [hI_sI, if_neg (by omega), hI_sI, if_neg (by omega), hI_sI, if_pos ⟨rfl, rfl⟩]; exact hn
        · rw [hI_sI, if_neg (by omega), hI_sI, if_pos ⟨rfl, rfl⟩]; exact hw
        · rw [if_pos hqN, hI_sI, if_pos ⟨rfl, rfl⟩, hI_sI, if_neg (by omega), hI_sI, if_neg (by omega), ii_add (by rw [lt0]; omega) (by rw [lt0]; omega), lt0, hn]; omega
    · rw [hI_sI, if_pos ⟨rfl, rfl⟩] at e
      have hqN : q < N := by
        refine Nat.lt_of_not_le (fun h => e ?_)
        rw [hw]
        unfold tkK
        rw [if_pos h]
      unfold f_X6_advance_J94
      have f3 : sf sc (hp_sI (hp_sI β 354 sc (hp_I β 352 sc)) 353 sc w) (hp_sI (hp_sI (hp_sI β 354 sc (hp_I β 352 sc)) 353 sc w) 352 sc (hp_I (hp_sI (hp_sI β 354 sc (hp_I β 352 sc)) 353 sc w) 352 sc + (1 : Int32))) := sf_sI (by decide)
      have hkK : tkK t N q = kof (t q) := by unfold tkK; rw [if_neg (by omega)]
      refine ws_l (ws_m (k_adv_100 n hn7 hqN n (q + 1) 0 _ (SB_sf hB2 f3) ?_ ?_ ?_ (Nat.le_refl _) (by omega) (fun h => ?_) (fun h => ?_) (fun h1 h2 => ?_) (by rw [lt0]; omega) (by omega)) (fun γ hγ => ⟨hγ.1, sf_tr (sf_tr (sf_tr f1 f2) f3) hγ.2⟩))
      · rw [hI_sI, if_neg (by omega), hI_sI, if_neg (by omega), hI_sI, if_pos ⟨rfl, rfl⟩]; exact hn
      · rw [hI_sI, if_neg (by omega), hI_sI, if_pos ⟨rfl, rfl⟩]; exact hw
      · rw [hI_sI, if_pos ⟨rfl, rfl⟩, hI_sI, if_neg (by omega), hI_sI, if_neg (by omega), ii_add (by rw [lt1]; omega) (by rw [lt1]; omega), lt1, hn]; omega
      · rw [hkK] at h
        have hL := kof_L.mp h
        unfold tkN
        rw [if_neg (by omega), if_pos hL, show N - q = (N - (q + 1)) + 1 by omega, ru, if_pos hL]
      · rw [hkK] at h
        obtain ⟨hL, hD⟩ := kof_D.mp h
        unfold tkN
        rw [if_neg (by omega), if_neg (by rw [hL]; decide), if_pos hD, show N - q = (N - (q + 1)) + 1 by omega, ru, if_pos hD]
      · rw [hkK] at h1 h2
        unfold tkN
        rw [if_neg (by omega), if_neg (fun h => h1 (kof_L.mpr h)), if_neg (fun h => h2 (kof_D.mpr ⟨by cases hh : isL (t q); rfl; exact absurd (kof_L.mpr hh) h1, h⟩))]
  unfold f_X6_advance_J39
  refine ws_l (ws_l (ws_l (ws_l (ws_le (fun e => hJ 0 ?_) (fun e => ws_l ?_)))))
  · rw [hB1.2.1, hI_sI, if_neg (by omega), hn] at e
    unfold tkK
    rw [if_pos (by omega)]
  · rw [hB1.2.1, hI_sI, if_neg (by omega), hn] at e
    refine ws_b (k_byteAt n hB1 q _ (by rw [hI_sI, if_neg (by omega)]; exact hn)) (fun c hc => ws_b (k_kindOf n c) (fun kc hkc => hJ kc ?_))
    rw [if_pos (by omega)] at hc
    rw [hkc, hc]
    unfold tkK
    rw [if_neg (by omega)]
theorem k_adv_2 (n : Nat) (hn7 : 70000 ≤ n) {sc N : Nat} {t : Nat → Int32} : ∀ (d p : Nat) (jI : Int32) (β : hp_T), SB β sc t N → p ≤ N → (hp_I β 352 sc).toInt = (p : Int) → 0 ≤ jI.toInt → jI.toInt ≤ (p : Int) → N + 1 - p ≤ d → ws (f_X6_advance_L2 n sc d β jI) (fun γ => SCT γ sc t N (tkP t N p) ∧ sf sc β γ) := by
  intro d
  induction d with
  | zero => intro p jI β hB hp hn h0 h1 h2; omega
  | succ d ih =>
    intro p jI β hB hp hn h0 h1 h2
    have hN := hB.1
    have L := t_900
    rw [f_X6_advance_L2.eq_2]
    have hend : (p < N → isB (t p) = false) → ws (f_X6_advance_J39 n sc β) (fun γ => SCT γ sc t N (tkP t N p) ∧ sf sc β γ) := by
      intro h
      have e : tkP t N p = p := by
        unfold tkP
        by_cases hpN : p < N
        · rw [show N - p = (N - p - 1) + 1 by omega, ru, if_neg (by rw [h hpN]; decide)]
        · rw [show N - p = 0 by omega, ru]
      rw [e]
      exact k_adv_39 n hn7 hB hp hn
    refine ws_le (fun e => hend (fun h => by omega)) (fun _ => ws_l (ws_b (k_byteAt n hB p _ hn) (fun c hc => wk_bo (k_isBlank n c) (fun hb => hend (fun h => ?_)) (fun hb => ?_))))
    · rw [if_pos h] at hc
      rw [← hc]
      cases hh : isB c
      · rfl
      · exact absurd hh hb
    · have hpN : p < N := by
        refine Nat.lt_of_not_le (fun h => ?_)
        rw [if_neg (by omega)] at hc
        rw [hc] at hb
        exact absurd hb (by decide)
      rw [if_pos hpN] at hc
      have f : sf sc β (hp_sI β 352 sc (hp_I β 352 sc + (1 : Int32))) := sf_sI (by decide)
      have e : tkP t N p = tkP t N (p + 1) := by
        unfold tkP
        rw [show N - p = (N - (p + 1)) + 1 by omega, ru, if_pos (by rw [← hc]; exact hb)]
      rw [e]
      refine ws_l (ws_l (ws_l (ws_m (ih (p + 1) _ _ (SB_sf hB f) (by omega) (by rw [hI_sI, if_pos ⟨rfl, rfl⟩, ii_add (by rw [lt1]; omega) (by rw [lt1]; omega), hn, lt1]; omega) (by rw [ii_add (by rw [lt1]; omega) (by rw [lt1]; omega), lt1]; omega) (by rw [ii_add (by rw [lt1]; omega) (by rw [lt1]; omega), lt1]; omega) (by omega)) (fun γ hγ => ⟨hγ.1, sf_tr f hγ.2⟩))))
theorem k_advance (n : Nat) (hn7 : 70000 ≤ n) {sc N p : Nat} {t : Nat → Int32} {β : hp_T} (hB : SB β sc t N) (hp : p ≤ N) (hn : (hp_I β 352 sc).toInt = (p : Int)) : ws (f_X6_advance n β sc) (fun γ => SCT γ sc t N (tkP t N p) ∧ sf sc β γ) := by
  have hN := hB.1
  unfold f_X6_advance
  exact k_adv_2 n hn7 n p 0 β hB hp hn (by decide) (by rw [lt0]; omega) (by omega)
end JN9_5
section JN9_6
set_option maxRecDepth 100000
/-! of the reference -/
def RB (σ : ms_T) (t : Nat → Int32) (N : Nat) : Prop := N ≤ 900 ∧ (ms_I σ 676).toInt = (N : Int) ∧ ∀ j, j < N → ms_E σ 47 j = t j
def RST (τ : ms_T) (t : Nat → Int32) (N q : Nat) : Prop := (ms_I τ 672).toInt = (q : Int) ∧ ms_I τ 674 = tkS t N q ∧ (ms_I τ 673).toInt = (tkN t N q : Int) ∧ (tkS t N q = 2 → ms_I τ 675 = vl t q (tkN t N q - q)) ∧ (tkK t N q = 1 → ms_J τ = lv8 t q (min 8 (tkN t N q - q)))
/-- what reading may change -/
def rf (σ τ : ms_T) : Prop := fr [672, 673, 674, 675] [] σ τ
theorem rf_rf {σ : ms_T} : rf σ σ := fr_rf
theorem rf_tr {σ τ υ : ms_T} (h : rf σ τ) (g : rf τ υ) : rf σ υ := fr_tr h g
theorem RB_rf {σ τ : ms_T} {t : Nat → Int32} {N : Nat} (h : RB σ t N) (f : rf σ τ) : RB τ t N :=
  ⟨h.1, by rw [f.1 676 (by decide)]; exact h.2.1, fun j hj => by rw [f.2 47 (by decide)]; exact h.2.2 j hj⟩
theorem v_isOf (n : Nat) {σ : ms_T} {t : Nat → Int32} {N : Nat} (h : RB σ t N) (p : Nat) (pI lo hi : Int32) (hp : pI.toInt = (p : Int)) : pr (f_X12_isOf n σ pI lo hi) (fun r => bo r (p < N ∧ lo.toInt ≤ (t p).toInt ∧ (t p).toInt ≤ hi.toInt)) := by
  unfold f_X12_isOf
  refine pr_le (fun e => pr_s (Or.inr ⟨rfl, ?_⟩)) (fun e => pr_g (fun g0 g1 => ?_))
  · rw [h.2.1] at e; omega
  · rw [h.2.1] at e
    have hpN : p < N := by omega
    rw [cl_n hp, h.2.2 p hpN]
    exact pr_bo (v_isIn n (t p) lo hi) (fun hn => pr_s (Or.inr ⟨rfl, fun q => hn q.2⟩)) (fun hy => pr_s (Or.inl ⟨rfl, hpN, hy⟩))
theorem v_reads_L245 (n : Nat) {t : Nat → Int32} {N q : Nat} (hq : q < N) (hk : tkK t N q = 2) : ∀ (d m : Nat) (σ : ms_T), RB σ t N → (ms_I σ 672).toInt = (q : Int) → (ms_I σ 673).toInt = ((q + m : Nat) : Int) → q + m ≤ N → tkN t N q = ru isD t (N - (q + m)) (q + m) → ms_I σ 675 = vl t q (min 5 m) → pr (f_X12_reads_L245 n d σ) (fun τ => RST τ t N q ∧ rf σ τ) := by
  intro d
  induction d with
  | zero => intro m σ hB h1 h2 h3 h4 h5; rw [f_X12_reads_L245.eq_1]; exact pr_0
  | succ d ih =>
    intro m σ hB h1 h2 h3 h4 h5
    have hN := hB.1
    have L5 := t_5
    have l48 : (48 : Int32).toInt = 48 := by decide
    have l57 : (57 : Int32).toInt = 57 := by decide
    have hsub : (ms_I σ 673 - ms_I σ 672).toInt = (m : Int) := by rw [ii_sub (by omega) (by omega), h1, h2]; omega
    rw [f_X12_reads_L245.eq_2]
    refine pr_bo (v_isOf n hB (q + m) _ _ _ h2) (fun hno => ?_) (fun hy => ?_)
    · rw [l48, l57] at hno
      have hm : tkN t N q = q + m := by
        rw [h4]
        by_cases hp : q + m < N
        · rw [show N - (q + m) = (N - (q + m) - 1) + 1 by omega, ru, if_neg]
          intro hd
          unfold isD at hd
          simp at hd
          exact hno ⟨hp, hd⟩
        · rw [show N - (q + m) = 0 by omega, ru]
      have hf : ∀ v, rf σ (ms_sI σ 674 v) := fun v => fr_sI (by decide)
      refine pr_le (fun e => pr_l (pr_s ⟨⟨?_, ?_, ?_, fun _ => ?_, fun h => ?_⟩, hf _⟩)) (fun e => pr_l (pr_s ⟨⟨?_, ?_, ?_, fun h => ?_, fun h => ?_⟩, hf _⟩))
      · rw [mI_sI, if_neg (by decide)]; exact h1
      · rw [mI_sI, if_pos rfl]
        unfold tkS
        rw [if_neg (fun h => by omega)]; exact hk.symm
      · rw [mI_sI, if_neg (by decide), hm]; exact h2
      · rw [mI_sI, if_neg (by decide), h5, hm, show min 5 m = q + m - q by omega]
      · rw [hk] at h; exact absurd h (by decide)
      · rw [mI_sI, if_neg (by decide)]; exact h1
      · rw [mI_sI, if_pos rfl]
        unfold tkS
        rw [if_pos ⟨hk, by omega⟩]
      · rw [mI_sI, if_neg (by decide), hm]; exact h2
      · unfold tkS at h
        rw [if_pos ⟨hk, by omega⟩] at h
        exact absurd h (by decide)
      · rw [hk] at h; exact absurd h (by decide)
    · rw [l48, l57] at hy
      have hst : tkN t N q = ru isD t (N - (q + (m + 1))) (q + (m + 1)) := by
        rw [h4, show N - (q + m) = (N - (q + (m + 1))) + 1 by omega, ru, if_pos (by unfold isD; simp; exact hy.2), Nat.add_assoc]
      have hJ : ∀ w, w = vl t q (min 5 (m + 1)) → pr (f_X12_reads_J301 n (f_X12_reads_L245 n d) σ w) (fun τ => RST τ t N q ∧ rf σ τ) := by
        intro w hw
        unfold f_X12_reads_J301
        have f1 : rf σ (ms_sI σ 675 w) := fr_sI (by decide)
        have f2 : rf (ms_sI σ 675 w) (ms_sI (ms_sI σ 675 w) 673 (ms_I (ms_sI σ 675 w) 673 + (1 : Int32))) := fr_sI (by decide)
        refine pr_l (pr_l (pr_m (ih (m + 1) _ (RB_rf (RB_rf hB f1) f2) ?_ ?_ (by omega) hst ?_) (fun τ hτ => ⟨hτ.1, rf_tr (rf_tr f1 f2) hτ.2⟩)))
        · rw [mI_sI, if_neg (by decide), mI_sI, if_neg (by decide)]; exact h1
        · rw [mI_sI, if_pos rfl, mI_sI, if_neg (by decide), ii_add (by rw [lt1]; omega) (by rw [lt1]; omega), h2, lt1]; omega
        · rw [mI_sI, if_neg (by decide), mI_sI, if_pos rfl]; exact hw
      refine pr_le (fun e => hJ _ ?_) (fun e => pr_g (fun _ _ => hJ _ ?_))
      · rw [h5, show min 5 m = 5 by omega, show min 5 (m + 1) = 5 by omega]
      · rw [cl_n h2, hB.2.2 _ hy.1, h5, show min 5 m = m by omega, show min 5 (m + 1) = m + 1 by omega, vl]
theorem v_reads_L141 (n : Nat) {t : Nat → Int32} {N q : Nat} (hq : q < N) (hk : tkK t N q = 1) : ∀ (d m : Nat) (σ : ms_T), RB σ t N → (ms_I σ 672).toInt = (q : Int) → ms_I σ 674 = 1 → (ms_I σ 673).toInt = ((q + m : Nat) : Int) → q + m ≤ N → tkN t N q = ru isL t (N - (q + m)) (q + m) → ms_J σ = lv8 t q (min 8 m) → pr (f_X12_reads_L141 n d σ) (fun τ => RST τ t N q ∧ rf σ τ) := by
  intro d
  induction d with
  | zero => intro m σ hB h1 hk1 h2 h3 h4 h5; rw [f_X12_reads_L141.eq_1]; exact pr_0
  | succ d ih =>
    intro m σ hB h1 hk1 h2 h3 h4 h5
    have hN := hB.1
    have L8 := t_8
    have l97 : (97 : Int32).toInt = 97 := by decide
    have l122 : (122 : Int32).toInt = 122 := by decide
    have hsub : (ms_I σ 673 - ms_I σ 672).toInt = (m : Int) := by rw [ii_sub (by omega) (by omega), h1, h2]; omega
    rw [f_X12_reads_L141.eq_2]
    refine pr_bo (v_isOf n hB (q + m) _ _ _ h2) (fun hno => pr_s ?_) (fun hy => ?_)
    · rw [l97, l122] at hno
      have hm : tkN t N q = q + m := by
        rw [h4]
        by_cases hp : q + m < N
        · rw [show N - (q + m) = (N - (q + m) - 1) + 1 by omega, ru, if_neg]
          intro hd
          unfold isL at hd
          simp at hd
          exact hno ⟨hp, hd⟩
        · rw [show N - (q + m) = 0 by omega, ru]
      have hs : tkS t N q = 1 := by unfold tkS; rw [if_neg (fun h => by rw [hk] at h; exact absurd h.1 (by decide))]; exact hk
      refine ⟨⟨h1, by rw [hs]; exact hk1, by rw [hm]; exact h2, fun h => ?_, fun _ => ?_⟩, rf_rf⟩
      · rw [hs] at h; exact absurd h (by decide)
      · rw [h5, hm, show q + m - q = m by omega]
    · rw [l97, l122] at hy
      have hst : tkN t N q = ru isL t (N - (q + (m + 1))) (q + (m + 1)) := by
        rw [h4, show N - (q + m) = (N - (q + (m + 1))) + 1 by omega, ru, if_pos (by unfold isL; simp; exact hy.2), Nat.add_assoc]
      have hJ : ∀ w, w = lv8 t q (min 8 (m + 1)) → pr (f_X12_reads_J201 n (f_X12_reads_L141 n d) σ w) (fun τ => RST τ t N q ∧ rf σ τ) := by
        intro w hw
        unfold f_X12_reads_J201
        have f1 : rf σ (ms_sJ σ w) := fr_sJ
        have f2 : rf (ms_sJ σ w) (ms_sI (ms_sJ σ w) 673 (ms_I (ms_sJ σ w) 673 + (1 : Int32))) := fr_sI (by decide)
        refine pr_l (pr_l (pr_m (ih (m + 1) _ (RB_rf (RB_rf hB f1) f2) ?_ ?_ ?_ (by omega) hst ?_) (fun τ hτ => ⟨hτ.1, rf_tr (rf_tr f1 f2) hτ.2⟩)))
        · rw [mI_sI, if_neg (by decide), mI_sJ]; exact h1
        · rw [mI_sI, if_neg (by decide), mI_sJ]; exact hk1
        · rw [mI_sI, if_pos rfl, mI_sJ, ii_add (by rw [lt1]; omega) (by rw [lt1]; omega), h2, lt1]; omega
        · exact hw
      refine pr_le (fun e => hJ _ ?_) (fun e => pr_g (fun _ _ => hJ _ ?_))
      · rw [h5, show min 8 m = 8 by omega, show min 8 (m + 1) = 8 by omega]
      · rw [cl_n h2, hB.2.2 _ hy.1, h5, show min 8 m = m by omega, show min 8 (m + 1) = m + 1 by omega, lv8]
theorem v_reads_J60 (n : Nat) {t : Nat → Int32} {N q : Nat} (hq : q ≤ N) {σ : ms_T} (hB : RB σ t N) (h1 : (ms_I σ 672).toInt = (q : Int)) : pr (f_X12_reads_J60 n σ) (fun τ => RST τ t N q ∧ rf σ τ) := by
  have hN := hB.1
  have f0 : rf σ (ms_sI σ 673 (ms_I σ 672 + (1 : Int32))) := fr_sI (by decide)
  have l97 : (97 : Int32).toInt = 97 := by decide
  have l122 : (122 : Int32).toInt = 122 := by decide
  have l48 : (48 : Int32).toInt = 48 := by decide
  have l57 : (57 : Int32).toInt = 57 := by decide
  have h3 : (ms_I σ 672 + (1 : Int32)).toInt = ((q + 1 : Nat) : Int) := by rw [ii_add (by rw [lt1]; omega) (by rw [lt1]; omega), h1, lt1]; omega
  have hJ : ∀ w, (q < N → isL (t q) = false → isD (t q) = false → w = kof (t q)) → (N ≤ q → w = 0) → pr (f_X12_reads_J105 n (ms_sI σ 673 (ms_I σ 672 + (1 : Int32))) w) (fun τ => RST τ t N q ∧ rf σ τ) := by
    intro w hw hw0
    unfold f_X12_reads_J105
    have f1 : rf (ms_sI σ 673 (ms_I σ 672 + (1 : Int32))) (ms_sI (ms_sI σ 673 (ms_I σ 672 + (1 : Int32))) 674 w) := fr_sI (by decide)
    have hB1 := RB_rf (RB_rf hB f0) f1
    obtain ⟨υ, hυ⟩ : ∃ υ, υ = ms_sI (ms_sI σ 673 (ms_I σ 672 + (1 : Int32))) 674 w := ⟨_, rfl⟩
    have u2 : (ms_I υ 672).toInt = (q : Int) := by rw [hυ, mI_sI, if_neg (by decide), mI_sI, if_neg (by decide)]; exact h1
    have u3 : (ms_I υ 673).toInt = ((q + 1 : Nat) : Int) := by rw [hυ, mI_sI, if_neg (by decide), mI_sI, if_pos rfl]; exact h3
    have u4 : ms_I υ 674 = w := by rw [hυ, mI_sI, if_pos rfl]
    have hf : rf σ υ := by rw [hυ]; exact rf_tr f0 f1
    rw [← hυ] at hB1
    refine pr_l ?_
    rw [← hυ]
    refine pr_bo (v_isOf n hB1 q _ _ _ u2) (fun hL => ?_) (fun hL => ?_)
    · rw [l97, l122] at hL
      refine pr_bo (v_isOf n hB1 q _ _ _ u2) (fun hD => pr_s ?_) (fun hD => ?_)
      · rw [l48, l57] at hD
        have hsN : tkN t N q = q + 1 := by
          unfold tkN
          by_cases hqN : N ≤ q
          · rw [if_pos hqN]
          · rw [if_neg hqN, if_neg (fun h => hL ⟨by omega, by unfold isL at h; simpa using h⟩), if_neg (fun h => hD ⟨by omega, by unfold isD at h; simpa using h⟩)]
        have hkw : tkK t N q = w := by
          unfold tkK
          by_cases hqN : N ≤ q
          · rw [if_pos hqN]; exact (hw0 hqN).symm
          · rw [if_neg hqN]
            refine (hw (by omega) ?_ ?_).symm
            · cases hh : isL (t q)
              · rfl
              · exact absurd ⟨by omega, by unfold isL at hh; simpa using hh⟩ hL
            · cases hh : isD (t q)
              · rfl
              · exact absurd ⟨by omega, by unfold isD at hh; simpa using hh⟩ hD
        have hk2 : tkK t N q ≠ 2 := by
          intro h
          unfold tkK at h
          split at h
          · exact absurd h (by decide)
          · exact hD ⟨by omega, by have := (kof_D.mp h).2; unfold isD at this; simpa using this⟩
        have hk1 : tkK t N q ≠ 1 := by
          intro h
          unfold tkK at h
          split at h
          · exact absurd h (by decide)
          · exact hL ⟨by omega, by have := kof_L.mp h; unfold isL at this; simpa using this⟩
        have hs : tkS t N q = tkK t N q := by unfold tkS; rw [if_neg (fun h => hk2 h.1)]
        exact ⟨⟨u2, by rw [hs, hkw]; exact u4, by rw [hsN]; exact u3, fun h => absurd (hs.symm.trans h) hk2, fun h => absurd h hk1⟩, hf⟩
      · rw [l48, l57] at hD
        have hqN : q < N := hD.1
        have hD2 : isD (t q) = true := by unfold isD; simpa using hD.2
        have hL2 : isL (t q) = false := by
          cases hh : isL (t q)
          · rfl
          · exact absurd ⟨hqN, by unfold isL at hh; simpa using hh⟩ hL
        have hk : tkK t N q = 2 := by unfold tkK; rw [if_neg (by omega)]; exact kof_D.mpr ⟨hL2, hD2⟩
        have f2 : rf υ (ms_sI υ 675 0) := fr_sI (by decide)
        have f3 : rf (ms_sI υ 675 0) (ms_sI (ms_sI υ 675 0) 673 (ms_I (ms_sI υ 675 0) 672)) := fr_sI (by decide)
        refine pr_l (pr_l (pr_m (v_reads_L245 n hqN hk n 0 _ (RB_rf (RB_rf hB1 f2) f3) ?_ ?_ (by omega) ?_ ?_) (fun τ hτ => ⟨hτ.1, rf_tr hf (rf_tr (rf_tr f2 f3) hτ.2)⟩)))
        · rw [mI_sI, if_neg (by decide), mI_sI, if_neg (by decide)]; exact u2
        · rw [mI_sI, if_pos rfl, mI_sI, if_neg (by decide)]; exact u2
        · unfold tkN
          rw [if_neg (by omega), if_neg (by rw [hL2]; decide), if_pos hD2]; rfl
        · rw [mI_sI, if_neg (by decide), mI_sI, if_pos rfl]; rfl
    · rw [l97, l122] at hL
      have hqN : q < N := hL.1
      have hL2 : isL (t q) = true := by unfold isL; simpa using hL.2
      have hk : tkK t N q = 1 := by unfold tkK; rw [if_neg (by omega)]; exact kof_L.mpr hL2
      have f2 : rf υ (ms_sI υ 674 1) := fr_sI (by decide)
      have f3 : rf (ms_sI υ 674 1) (ms_sJ (ms_sI υ 674 1) 0) := fr_sJ
      have f4 : rf (ms_sJ (ms_sI υ 674 1) 0) (ms_sI (ms_sJ (ms_sI υ 674 1) 0) 673 (ms_I (ms_sJ (ms_sI υ 674 1) 0) 672)) := fr_sI (by decide)
      refine pr_l (pr_l (pr_l (pr_m (v_reads_L141 n hqN hk n 0 _ (RB_rf (RB_rf (RB_rf hB1 f2) f3) f4) ?_ ?_ ?_ (by omega) ?_ ?_) (fun τ hτ => ⟨hτ.1, rf_tr hf (rf_tr (rf_tr (rf_tr f2 f3) f4) hτ.2)⟩))))
      · rw [mI_sI, if_neg (by decide), mI_sJ, mI_sI, if_neg (by decide)]; exact u2
      · rw [mI_sI, if_neg (by decide), mI_sJ, mI_sI, if_pos rfl]
      · rw [mI_sI, if_pos rfl, mI_sJ, mI_sI, if_neg (by decide)]; exact u2
      · unfold tkN
        rw [if_neg (by omega), if_pos hL2]; rfl
      · rfl
  unfold f_X12_reads_J60
  have e672 : ms_I (ms_sI σ 673 (ms_I σ 672 + (1 : Int32))) 672 = ms_I σ 672 := by rw [mI_sI, if_neg (by decide)]
  have e676 : ms_I (ms_sI σ 673 (ms_I σ 672 + (1 : Int32))) 676 = ms_I σ 676 := by rw [mI_sI, if_neg (by decide)]
  refine pr_l ?_
  rw [e672, e676]
  refine pr_lt (fun e => pr_g (fun _ _ => ?_)) (fun e => hJ 0 (fun h => by rw [hB.2.1] at e; omega) (fun _ => rfl))
  rw [hB.2.1] at e
  rw [mE_sI, cl_n h1, hB.2.2 q (by omega)]
  refine pr_i (fun e2 => hJ 3 (fun _ hL hD => ?_) (fun h => by omega)) (fun e2 => hJ 4 (fun _ hL hD => ?_) (fun h => by omega))
  · unfold kof; rw [hL, hD, if_neg (by decide), if_neg (by decide), if_pos e2]
  · unfold kof; rw [hL, hD, if_neg (by decide), if_neg (by decide), if_neg e2]
theorem v_reads_L8 (n : Nat) {t : Nat → Int32} {N : Nat} : ∀ (d p : Nat) (σ : ms_T), RB σ t N → p ≤ N → (ms_I σ 672).toInt = (p : Int) → pr (f_X12_reads_L8 n d σ) (fun τ => RST τ t N (tkP t N p) ∧ rf σ τ) := by
  intro d
  induction d with
  | zero => intro p σ hB hp h1; rw [f_X12_reads_L8.eq_1]; exact pr_0
  | succ d ih =>
    intro p σ hB hp h1
    have hN := hB.1
    rw [f_X12_reads_L8.eq_2]
    have hend : (p < N → isB (t p) = false) → pr (f_X12_reads_J60 n σ) (fun τ => RST τ t N (tkP t N p) ∧ rf σ τ) := by
      intro h
      have e : tkP t N p = p := by
        unfold tkP
        by_cases hpN : p < N
        · rw [show N - p = (N - p - 1) + 1 by omega, ru, if_neg (by rw [h hpN]; decide)]
        · rw [show N - p = 0 by omega, ru]
      rw [e]
      exact v_reads_J60 n hp hB h1
    have hgo : p < N → isB (t p) = true → pr (f_X12_reads_J47 n (f_X12_reads_L8 n d) σ) (fun τ => RST τ t N (tkP t N p) ∧ rf σ τ) := by
      intro hpN hb
      unfold f_X12_reads_J47
      have f : rf σ (ms_sI σ 672 (ms_I σ 672 + (1 : Int32))) := fr_sI (by decide)
      have e : tkP t N p = tkP t N (p + 1) := by
        unfold tkP
        rw [show N - p = (N - (p + 1)) + 1 by omega, ru, if_pos hb]
      rw [e]
      refine pr_l (pr_m (ih (p + 1) _ (RB_rf hB f) (by omega) ?_) (fun τ hτ => ⟨hτ.1, rf_tr f hτ.2⟩))
      rw [mI_sI, if_pos rfl, ii_add (by rw [lt1]; omega) (by rw [lt1]; omega), h1, lt1]; omega
    refine pr_le (fun e => hend (fun h => by rw [hB.2.1] at e; omega)) (fun e => ?_)
    rw [hB.2.1] at e
    have hpN : p < N := by omega
    rw [cl_n h1, hB.2.2 p hpN]
    refine pr_g (fun _ _ => pr_i (fun e10 => hgo hpN (by unfold isB; simp [e10])) (fun e10 => pr_g (fun _ _ => pr_i (fun e32 => hgo hpN (by unfold isB; simp [e32])) (fun e32 => hend (fun _ => by unfold isB; simp [e10, e32])))))
theorem v_reads (n : Nat) {t : Nat → Int32} {N p : Nat} {σ : ms_T} (hB : RB σ t N) (hp : p ≤ N) (h1 : (ms_I σ 673).toInt = (p : Int)) : pr (f_X12_reads n σ) (fun τ => RST τ t N (tkP t N p) ∧ rf σ τ) := by
  unfold f_X12_reads
  have f : rf σ (ms_sI σ 672 (ms_I σ 673)) := fr_sI (by decide)
  exact pr_l (pr_m (v_reads_L8 n n p _ (RB_rf hB f) hp (by rw [mI_sI, if_pos rfl]; exact h1)) (fun τ hτ => ⟨hτ.1, rf_tr f hτ.2⟩))
/-! ===== words: letter by letter, and by their number ===== -/
def frl : List Nat → Nat
  | [] => 0
  | d :: l => 27 * frl l + d
theorem frl_inj : ∀ l1 l2 : List Nat, (∀ d ∈ l1, 1 ≤ d ∧ d ≤ 26) → (∀ d ∈ l2, 1 ≤ d ∧ d ≤ 26) → frl l1 = frl l2 → l1 = l2 := by
  intro l1
  induction l1 with
  | nil =>
    intro l2 _ h2 h
    cases l2 with
    | nil => rfl
    | cons d l => have := h2 d List.mem_cons_self; rw [frl, frl] at h; omega
  | cons d l ih =>
    intro l2 h1 h2 h
    have hd := h1 d List.mem_cons_self
    cases l2 with
    | nil => rw [frl, frl] at h; omega
    | cons e m =>
      have he := h2 e List.mem_cons_self
      rw [frl, frl] at h
      have e1 : d = e := by omega
      have e2 : frl l = frl m := by omega
      rw [e1, ih m (fun x hx => h1 x (List.mem_cons_of_mem _ hx)) (fun x hx => h2 x (List.mem_cons_of_mem _ hx)) e2]
def rdl (d : Nat → Nat) : Nat → List Nat
  | 0 => []
  | m + 1 => d m :: rdl d m
theorem rdl_mem (d : Nat → Nat) (P : Nat → Prop) : ∀ m, (∀ j, j < m → P (d j)) → ∀ x ∈ rdl d m, P x := by
  intro m
  induction m with
  | zero => intro _ x hx; cases hx
  | succ m ih =>
    intro h x hx
    rw [rdl] at hx
    rcases List.mem_cons.mp hx with r | hx
    · rw [r]; exact h m (by omega)
    · exact ih (fun j hj => h j (by omega)) x hx
theorem rdl_eq (d e : Nat → Nat) : ∀ m k, rdl d m = rdl e k ↔ (m = k ∧ ∀ j, j < m → d j = e j) := by
  intro m
  induction m with
  | zero =>
    intro k
    cases k with
    | zero => simp [rdl]
    | succ k => simp [rdl]
  | succ m ih =>
    intro k
    cases k with
    | zero => simp [rdl]
    | succ k =>
      rw [rdl, rdl, List.cons.injEq, ih k]
      constructor
      · rintro ⟨h1, h2, h3⟩
        subst h2
        refine ⟨rfl, fun j hj => ?_⟩
        by_cases hjm : j = m
        · rw [hjm]; exact h1
        · exact h3 j (by omega)
      · rintro ⟨h1, h2⟩
        have : m = k := by omega
        subst this
        exact ⟨h2 m (by omega), rfl, fun j hj => h2 j (by omega)⟩
theorem frl_lt (d : Nat → Nat) : ∀ m, (∀ j, j < m → d j ≤ 26) → frl (rdl d m) + 1 ≤ 27 ^ m := by
  intro m
  induction m with
  | zero => intro _; simp [rdl, frl]
  | succ m ih =>
    intro h
    have h1 := ih (fun j hj => h j (by omega))
    have h2 := h m (by omega)
    rw [rdl, frl, Nat.pow_succ]
    omega
def dgt (t : Nat → Int32) (q j : Nat) : Nat := (t (q + j)).toInt.toNat - 96
theorem l64_27 : (27 : Int64).toInt = 27 := by decide
theorem l64_96 : (96 : Int64).toInt = 96 := by decide
theorem jl_add {x y : Int64} (h0 : -9223372036854775808 ≤ x.toInt + y.toInt) (h1 : x.toInt + y.toInt ≤ 9223372036854775807) : (x + y).toInt = x.toInt + y.toInt := by
  rw [Int64.toInt_add]
  exact Int.bmod_eq_of_le (by omega) (by omega)
theorem jl_sub {x y : Int64} (h0 : -9223372036854775808 ≤ x.toInt - y.toInt) (h1 : x.toInt - y.toInt ≤ 9223372036854775807) : (x - y).toInt = x.toInt - y.toInt := by
  rw [Int64.toInt_sub]
  exact Int.bmod_eq_of_le (by omega) (by omega)
theorem jl_mul {x y : Int64} (h0 : -9223372036854775808 ≤ x.toInt * y.toInt) (h1 : x.toInt * y.toInt ≤ 9223372036854775807) : (x * y).toInt = x.toInt * y.toInt := by
  rw [Int64.toInt_mul]
  exact Int.bmod_eq_of_le (by omega) (by omega)
theorem lv8_n (t : Nat → Int32) (q : Nat) : ∀ m, m ≤ 8 → (∀ j, j < m → isL (t (q + j)) = true) → (lv8 t q m).toInt = (frl (rdl (dgt t q) m) : Int) := by
  intro m
  induction m with
  | zero => intro _ _; rfl
  | succ m ih =>
    intro hm h
    have h1 := ih (by omega) (fun j hj => h j (by omega))
    have hL := h m (by omega)
    unfold isL at hL
    simp at hL
    have hd : ∀ j, j < m → dgt t q j ≤ 26 := by
      intro j hj
      have hLj := h j (by omega)
      unfold isL at hLj
      simp at hLj
      unfold dgt; omega
    have hb := frl_lt (dgt t q) m hd
    have hp : 27 ^ m ≤ 27 ^ 7 := Nat.pow_le_pow_right (by decide) (by omega)
    have hp7 : (27 : Nat) ^ 7 = 10460353203 := by decide
    have hc : ((t (q + m)).toInt64).toInt = (t (q + m)).toInt := Int32.toInt_toInt64 _
    have hmul : ((27 : Int64) * lv8 t q m).toInt = 27 * (frl (rdl (dgt t q) m) : Int) := by rw [jl_mul (by rw [l64_27, h1]; omega) (by rw [l64_27, h1]; omega), l64_27, h1]
    have hadd : ((27 : Int64) * lv8 t q m + (t (q + m)).toInt64).toInt = 27 * (frl (rdl (dgt t q) m) : Int) + (t (q + m)).toInt := by rw [jl_add (by rw [hmul, hc]; omega) (by rw [hmul, hc]; omega), hmul, hc]
    rw [lv8, jl_sub (by rw [hadd, l64_96]; omega) (by rw [hadd, l64_96]; omega), hadd, l64_96, rdl, frl]
    unfold dgt
    omega
/-- the twelve words: their texts -/
def wtx (w : Nat) : Nat := ([17, 7, 20, 9, 10, 19, 14, 11, 18, 16, 13, 8] : List Nat).getD w 0
theorem wtx_ok : ∀ w, w < 12 → wtx w < 21 ∧ 1 ≤ hp_sn.getD (wtx w) 0 ∧ hp_sn.getD (wtx w) 0 ≤ 6 ∧ (∀ j, j < hp_sn.getD (wtx w) 0 → isL (hp_ch (wtx w) j) = true) ∧ (ms_w w).toInt = (frl (rdl (fun j => (hp_ch (wtx w) j).toInt.toNat - 96) (hp_sn.getD (wtx w) 0)) : Int) := by decide +kernel
/-- the token at q spells a text -/
def spl (t : Nat → Int32) (N q i : Nat) : Prop := tkS t N q = 1 ∧ tkN t N q - q = hp_sn.getD i 0 ∧ ∀ j, j < hp_sn.getD i 0 → t (q + j) = hp_ch i j
theorem ru_all (f : Int32 → Bool) (t : Nat → Int32) : ∀ (d p : Nat), ∀ j, p ≤ j → j < ru f t d p → f (t j) = true := by
  intro d
  induction d with
  | zero => intro p j h1 h2; rw [ru] at h2; omega
  | succ d ih =>
    intro p j h1 h2
    rw [ru] at h2
    by_cases hf : f (t p) = true
    · rw [if_pos hf] at h2
      by_cases hj : j = p
      · rw [hj]; exact hf
      · exact ih (p + 1) j (by omega) h2
    · rw [if_neg hf] at h2; omega
theorem tk_word {t : Nat → Int32} {N q : Nat} (h : tkK t N q = 1) : q < N ∧ tkS t N q = 1 ∧ ∀ j, j < tkN t N q - q → isL (t (q + j)) = true := by
  have hq : q < N := Nat.lt_of_not_le (fun h2 => by unfold tkK at h; rw [if_pos h2] at h; exact absurd h (by decide))
  have hL : isL (t q) = true := by unfold tkK at h; rw [if_neg (by omega)] at h; exact kof_L.mp h
  refine ⟨hq, ?_, fun j hj => ?_⟩
  · unfold tkS; rw [if_neg (fun e => by rw [h] at e; exact absurd e.1 (by decide))]; exact h
  · unfold tkN at hj
    rw [if_neg (by omega), if_pos hL] at hj
    exact ru_all isL t (N - q) q (q + j) (by omega) (by omega)
theorem tkS_1 {t : Nat → Int32} {N q : Nat} : tkS t N q = 1 → tkK t N q = 1 := by
  unfold tkS
  intro h
  split at h
  · exact absurd h (by decide)
  · exact h
theorem isL_26 {c : Int32} (h : isL c = true) : 97 ≤ c.toInt ∧ c.toInt ≤ 122 := by
  unfold isL at h
  simpa using h
theorem spl_w {t : Nat → Int32} {N q w : Nat} (hw : w < 12) (hk : tkK t N q = 1) : spl t N q (wtx w) ↔ (lv8 t q (min 8 (tkN t N q - q)) = ms_w w ∧ tkN t N q - q ≤ 8) := by
  obtain ⟨hq, hs, hL⟩ := tk_word hk
  obtain ⟨w1, w2, w3, w4, w5⟩ := wtx_ok w hw
  have key : tkN t N q - q ≤ 8 → ((lv8 t q (tkN t N q - q) = ms_w w) ↔ (tkN t N q - q = hp_sn.getD (wtx w) 0 ∧ ∀ j, j < tkN t N q - q → dgt t q j = (hp_ch (wtx w) j).toInt.toNat - 96)) := by
    intro h8
    rw [← Int64.toInt_inj, lv8_n t q _ h8 hL, w5, Int.ofNat_inj]
    rw [← rdl_eq]
    constructor
    · intro h
      refine frl_inj _ _ (rdl_mem _ _ _ (fun j hj => ?_)) (rdl_mem _ _ _ (fun j hj => ?_)) h
      · have := isL_26 (hL j hj); unfold dgt; omega
      · have := isL_26 (w4 j hj); omega
    · intro h; rw [h]
  constructor
  · rintro ⟨-, h2, h3⟩
    have h8 : tkN t N q - q ≤ 8 := by omega
    refine ⟨?_, h8⟩
    rw [show min 8 (tkN t N q - q) = tkN t N q - q by omega]
    refine (key h8).mpr ⟨h2, fun j hj => ?_⟩
    unfold dgt
    rw [h3 j (by omega)]
  · rintro ⟨h1, h8⟩
    rw [show min 8 (tkN t N q - q) = tkN t N q - q by omega] at h1
    obtain ⟨h2, h3⟩ := (key h8).mp h1
    refine ⟨hs, h2, fun j hj => ?_⟩
    have a := isL_26 (hL j (by omega))
    have b := isL_26 (w4 j hj)
    have c := h3 j (by omega)
    unfold dgt at c
    exact Int32.toInt_inj.mp (by omega)
theorem cmp0 (a b : Int64) : lg_cmp a b = 0 ↔ a = b := by
  unfold lg_cmp
  constructor
  · intro h
    split at h
    · exact absurd h (by decide)
    · split at h
      · assumption
      · exact absurd h (by decide)
  · intro h
    subst h
    rw [if_neg (fun h => by have h2 : a < a := h; rw [Int64.lt_iff_toInt_lt] at h2; omega), if_pos rfl]
theorem v_isWord (n : Nat) {σ : ms_T} {t : Nat → Int32} {N q : Nat} (hS : RST σ t N q) (hq : q ≤ 900) (hN : N ≤ 900) (w : Nat) (hw : w < 12) (wI : Int32) (hwI : wI.toInt = (w : Int)) : pr (f_X12_isWord n σ wI) (fun r => bo r (ms_I σ 670 = 0 ∧ spl t N q (wtx w))) := by
  obtain ⟨h1, h2, h3, h4, h5⟩ := hS
  have L8 := t_8
  unfold f_X12_isWord
  refine pr_i (fun e0 => pr_i (fun e1 => pr_g (fun _ _ => ?_)) (fun e1 => pr_s (Or.inr ⟨rfl, fun h => e1 (h2.trans h.2.1)⟩))) (fun e0 => pr_s (Or.inr ⟨rfl, fun h => e0 h.1⟩))
  have hk := tkS_1 (h2.symm.trans e1)
  obtain ⟨hqN, -, -⟩ := tk_word hk
  have hb := tkN_le t hqN
  have hsub : (ms_I σ 673 - ms_I σ 672).toInt = ((tkN t N q - q : Nat) : Int) := by rw [ii_sub (by omega) (by omega), h1, h3]; omega
  rw [cl_n hwI, h5 hk]
  have hiff := spl_w (t := t) (N := N) (q := q) hw hk
  refine pr_i (fun e2 => pr_lt (fun e3 => pr_s (Or.inr ⟨rfl, fun h => ?_⟩)) (fun e3 => pr_s (Or.inl ⟨rfl, e0, ?_⟩))) (fun e2 => pr_s (Or.inr ⟨rfl, fun h => ?_⟩))
  · rw [hsub, L8] at e3
    have := (hiff.mp h.2).2
    omega
  · rw [hsub, L8] at e3
    exact hiff.mpr ⟨(cmp0 _ _).mp e2, by omega⟩
  · exact e2 ((cmp0 _ _).mpr (hiff.mp h.2).1)
theorem sn_8 : ∀ i, i < 21 → hp_sn.getD i 0 < 8 := by decide
theorem hp_len_n (i : Nat) (hi : i < 21) : (hp_len i).toInt = (hp_sn.getD i 0 : Int) := by
  have := sn_8 i hi
  unfold hp_len
  exact Int32.toInt_ofNat_of_lt (by omega)
theorem k_spells_L (n : Nat) {α : hp_T} {sc : Nat} {t : Nat → Int32} {N q i : Nat} (hi : i < 21) (hB : SB α sc t N) (hp : (hp_I α 354 sc).toInt = (q : Int)) (hq : q ≤ N) : ∀ (d k : Nat) (kI b : Int32), kI.toInt = (k : Int) → k ≤ hp_sn.getD i 0 → (b = 0 ∨ b = 1) → (b = 1 → q + hp_sn.getD i 0 ≤ N) → 10 - k ≤ d → ws (f_X6_spells_L27 n α sc i d b kI) (fun r => bo r (b = 1 ∧ ∀ j, k ≤ j → j < hp_sn.getD i 0 → t (q + j) = hp_ch i j)) := by
  intro d
  induction d with
  | zero => intro k kI b h1 h2 h3 h4 h5; have := sn_8 i hi; omega
  | succ d ih =>
    intro k kI b h1 h2 h3 h4 h5
    have h8 := sn_8 i hi
    have hl := hp_len_n i hi
    have hN := hB.1
    rw [f_X6_spells_L27.eq_2]
    refine ws_le (fun e => ws_z h3 (ws_s ?_)) (fun e => ws_i (fun e0 => ws_z h3 (ws_s (Or.inr ⟨e0, fun h => ?_⟩))) (fun e0 => ?_))
    · rw [hl] at e
      rcases h3 with h3 | h3
      · exact Or.inr ⟨h3, fun h => by rw [h3] at h; exact absurd h.1 (by decide)⟩
      · exact Or.inl ⟨h3, h3, fun j hj1 hj2 => by omega⟩
    · rw [e0] at h; exact absurd h.1 (by decide)
    · rw [hl] at e
      have hb1 : b = 1 := by rcases h3 with h | h; exact absurd h e0; exact h
      have hpk : (hp_I α 354 sc + kI).toInt = ((q + k : Nat) : Int) := by rw [ii_add (by omega) (by omega), hp, h1]; omega
      have hkn : (kI + 1).toInt = ((k + 1 : Nat) : Int) := by rw [ii_add (by rw [lt1]; omega) (by rw [lt1]; omega), h1, lt1]; omega
      have h4' := h4 hb1
      unfold f_X6_spells_J62
      refine ws_l (ws_b (k_byteAt n hB (q + k) _ hpk) (fun c hc => ws_q (by omega) (by rw [hl]; omega) ?_))
      rw [if_pos (by omega)] at hc
      rw [cl_n h1]
      refine ws_i (fun e1 => ws_l (ws_m (ih (k + 1) _ 1 hkn (by omega) (Or.inr rfl) (fun _ => h4') (by omega)) (fun r hr => ?_))) (fun e1 => ws_l (ws_m (ih (k + 1) _ 0 hkn (by omega) (Or.inl rfl) (fun h => absurd h (by decide)) (by omega)) (fun r hr => ?_)))
      · rcases hr with ⟨g1, -, g2⟩ | ⟨g1, g2⟩
        · refine Or.inl ⟨g1, hb1, fun j hj1 hj2 => ?_⟩
          by_cases hj : j = k
          · rw [hj, ← hc]; exact e1
          · exact g2 j (by omega) hj2
        · exact Or.inr ⟨g1, fun h => g2 ⟨rfl, fun j hj1 hj2 => h.2 j (by omega) hj2⟩⟩
      · rcases hr with ⟨g1, g2, -⟩ | ⟨g1, g2⟩
        · exact absurd g2 (by decide)
        · refine Or.inr ⟨g1, fun h => e1 ?_⟩
          rw [hc]
          exact h.2 k (Nat.le_refl _) (by omega)
theorem k_spells (n : Nat) (hn : 70000 ≤ n) {α : hp_T} {sc : Nat} {t : Nat → Int32} {N q i : Nat} (hi : i < 21) (hB : SB α sc t N) (hS : SCT α sc t N q) (hq : q ≤ N) : ws (f_X6_spells n α sc i) (fun r => bo r (spl t N q i)) := by
  obtain ⟨h1, h2, h3, h4, h5⟩ := hS
  have hl := hp_len_n i hi
  have hJ : ¬ spl t N q i → ws (f_X6_spells_J23 n α sc i) (fun r => bo r (spl t N q i)) := by
    intro hno
    unfold f_X6_spells_J23 f_X6_spells_J24
    refine ws_m (k_spells_L n hi hB h1 hq n 0 0 0 rfl (Nat.zero_le _) (Or.inl rfl) (fun h => absurd h (by decide)) (by omega)) (fun r hr => ?_)
    rcases hr with ⟨-, g, -⟩ | ⟨g, -⟩
    · exact absurd g (by decide)
    · exact Or.inr ⟨g, hno⟩
  unfold f_X6_spells
  refine ws_l (ws_i (fun e1 => ws_l (ws_e (fun e2 => ?_) (fun e2 => hJ (fun h => e2 ?_)))) (fun e1 => hJ (fun h => e1 (h2.trans h.1))))
  · have hk := tkS_1 (h2.symm.trans e1)
    obtain ⟨hqN, hs, -⟩ := tk_word hk
    have hb := tkN_le t hqN
    have e2' := il_eq e2
    rw [h4, if_neg (by omega), hl] at e2'
    unfold f_X6_spells_J24
    refine ws_m (k_spells_L n hi hB h1 hq n 0 0 1 rfl (Nat.zero_le _) (Or.inr rfl) (fun _ => by omega) (by omega)) (fun r hr => ?_)
    rcases hr with ⟨g1, -, g2⟩ | ⟨g1, g2⟩
    · exact Or.inl ⟨g1, hs, by omega, fun j hj => g2 j (Nat.zero_le _) hj⟩
    · exact Or.inr ⟨g1, fun h => g2 ⟨rfl, fun j _ hj => h.2.2 j hj⟩⟩
  · have hk := tkS_1 h.1
    obtain ⟨hqN, -, -⟩ := tk_word hk
    have hb := tkN_le t hqN
    rw [h4, if_neg (by omega), hl]
    have := h.2.1
    omega
end JN9_6
section JN9_7
set_option maxRecDepth 100000
/-! ===== reading, side by side ===== -/
def rdf (rd sc : Nat) (α β : hp_T) : Prop := hp_R β = hp_R α ∧ hp_K β = hp_K α ∧ hp_Q β = hp_Q α ∧ hp_N β = hp_N α ∧ hp_E β = hp_E α ∧ ∀ φ b, ¬ (b = rd ∧ (φ = 204 ∨ φ = 205 ∨ φ = 209)) → ¬ (b = sc ∧ 352 ≤ φ ∧ φ ≤ 356) → hp_I β φ b = hp_I α φ b
theorem rdf_rf {rd sc : Nat} {α : hp_T} : rdf rd sc α α := ⟨rfl, rfl, rfl, rfl, rfl, fun _ _ _ _ => rfl⟩
theorem rdf_tr {rd sc : Nat} {α β γ : hp_T} (h : rdf rd sc α β) (g : rdf rd sc β γ) : rdf rd sc α γ := by
  obtain ⟨h1, h2, h3, h4, h5, h6⟩ := h
  obtain ⟨g1, g2, g3, g4, g5, g6⟩ := g
  exact ⟨g1.trans h1, g2.trans h2, g3.trans h3, g4.trans h4, g5.trans h5, fun φ b q r => (g6 φ b q r).trans (h6 φ b q r)⟩
theorem rdf_sf {rd sc : Nat} {α β : hp_T} (h : sf sc α β) : rdf rd sc α β := by
  obtain ⟨h1, h2, h3, h4, h5, h6⟩ := h
  exact ⟨h1, h2, h3, h4, h5, fun φ b _ r => h6 φ b r⟩
theorem rdf_sI {rd sc φ : Nat} {α : hp_T} {v : Int32} (h : φ = 204 ∨ φ = 205 ∨ φ = 209) : rdf rd sc α (hp_sI α φ rd v) :=
  ⟨rfl, rfl, rfl, rfl, rfl, fun ψ b q _ => by rw [hI_sI, if_neg (fun (e : ψ = φ ∧ b = rd) => q ⟨e.2, by rw [e.1]; exact h⟩)]⟩
def rg (σ τ : ms_T) : Prop := fr [670, 671, 672, 673, 674, 675] [] σ τ
theorem rg_rf {σ : ms_T} : rg σ σ := fr_rf
theorem rg_r {σ τ : ms_T} (h : rf σ τ) : rg σ τ := fr_sb h (by decide) (by decide)
/-- the class stands before a token that the reference has read already -/
def PRE (α : hp_T) (rd : Nat) (σ : ms_T) (t : Nat → Int32) (N p : Nat) : Prop := p ≤ N ∧ SB α (hp_R α 200 rd) t N ∧ (hp_I α 352 (hp_R α 200 rd)).toInt = (p : Int) ∧ RB σ t N ∧ RST σ t N (tkP t N p) ∧ ms_I σ 670 = 0
/-- both stand on the same token -/
def TOK (α : hp_T) (rd : Nat) (σ : ms_T) (t : Nat → Int32) (N q : Nat) : Prop := q ≤ N ∧ SB α (hp_R α 200 rd) t N ∧ SCT α (hp_R α 200 rd) t N q ∧ RB σ t N ∧ RST σ t N q ∧ ms_I σ 670 = 0
/-- both have found the same fault -/
def BAD (α : hp_T) (rd : Nat) (σ : ms_T) : Prop := 0 < (ms_I σ 670).toInt ∧ hp_I α 204 rd = ms_I σ 670 ∧ hp_I α 205 rd = ms_I σ 671
theorem tkP_le (t : Nat → Int32) {N p : Nat} (h : p ≤ N) : tkP t N p ≤ N := by
  have := ru_le isB t (N - p) p
  unfold tkP
  omega
theorem r_adv (n : Nat) (hn : 70000 ≤ n) {α : hp_T} {rd : Nat} {σ : ms_T} {t : Nat → Int32} {N p : Nat} (h : PRE α rd σ t N p) : ws (f_X6_advance n α (hp_R α 200 rd)) (fun β => TOK β rd σ t N (tkP t N p) ∧ rdf rd (hp_R α 200 rd) α β ∧ ∀ φ, φ < 350 → ∀ b, hp_I β φ b = hp_I α φ b) := by
  obtain ⟨h1, h2, h3, h4, h5, h6⟩ := h
  refine ws_m (k_advance n hn h2 h1 h3) (fun β hβ => ⟨⟨tkP_le t h1, ?_, ?_, h4, h5, h6⟩, rdf_sf hβ.2, fun φ hφ b => hβ.2.2.2.2.2.2 φ b (by omega)⟩)
  · rw [hβ.2.1]; exact SB_sf h2 hβ.2
  · rw [hβ.2.1]; exact hβ.1
theorem r_reads (n : Nat) {α : hp_T} {rd : Nat} {σ : ms_T} {t : Nat → Int32} {N q : Nat} (h : TOK α rd σ t N q) (hq : q < N) : pr (f_X12_reads n σ) (fun τ => PRE α rd τ t N (tkN t N q) ∧ rg σ τ) := by
  obtain ⟨h1, h2, h3, h4, h5, h6⟩ := h
  have hb := tkN_le t hq
  refine pr_m (v_reads n h4 hb.2 h5.2.2.1) (fun τ hτ => ⟨⟨hb.2, h2, ?_, RB_rf h4 hτ.2, hτ.1, ?_⟩, rg_r hτ.2⟩)
  · have := h3.2.2.1
    rw [if_neg (by omega)] at this
    exact this
  · rw [hτ.2.1 670 (by decide)]; exact h6
theorem k_fail (n : Nat) (α : hp_T) (rd : Nat) (k : Int32) : ws (f_X3_fail n α rd k) (fun res => res.1 = 0 ∧ hp_I res.2 204 rd = k ∧ hp_I res.2 205 rd = hp_I α 354 (hp_R α 200 rd) ∧ rdf rd (hp_R α 200 rd) α res.2) := by
  unfold f_X3_fail
  refine ws_l (ws_l (ws_l (ws_l (ws_s ⟨rfl, ?_, ?_, rdf_tr (rdf_sI (Or.inl rfl)) (rdf_sI (Or.inr (Or.inl rfl)))⟩))))
  · rw [hI_sI, if_neg (fun h => absurd h.1 (by decide)), hI_sI, if_pos ⟨rfl, rfl⟩]
  · rw [hI_sI, if_pos ⟨rfl, rfl⟩, hI_sI, if_neg (fun h => absurd h.1 (by decide))]; rfl
theorem k_stray (n : Nat) {α : hp_T} {rd : Nat} {t : Nat → Int32} {N q : Nat} (hS : SCT α (hp_R α 200 rd) t N q) : ws (f_X3_stray n α rd) (fun res => res.1 = 0 ∧ hp_I res.2 204 rd = (if tkS t N q = 4 then 1 else 2) ∧ (hp_I res.2 205 rd).toInt = (q : Int) ∧ rdf rd (hp_R α 200 rd) α res.2) := by
  unfold f_X3_stray f_X3_stray_J17
  refine ws_l (ws_l (ws_i (fun e => ?_) (fun e => ?_)))
  · rw [if_pos (hS.2.1.symm.trans e)]
    exact ws_hc (k_fail n α rd 1) (fun r β hr => ws_z (Or.inl hr.1) (ws_s ⟨hr.1, hr.2.1, by rw [hr.2.2.1]; exact hS.1, hr.2.2.2⟩))
  · rw [if_neg (fun h => e (hS.2.1.trans h))]
    exact ws_hc (k_fail n α rd 2) (fun r β hr => ws_z (Or.inl hr.1) (ws_s ⟨hr.1, hr.2.1, by rw [hr.2.2.1]; exact hS.1, hr.2.2.2⟩))
theorem v_must0 (n : Nat) {σ : ms_T} (h0 : ms_I σ 670 = 0) (w : Int32) : pr (f_X12_must n σ 0 w) (fun τ => ms_I τ 670 = (if w = 2 ∧ ms_I σ 674 = 4 then 1 else w) ∧ ms_I τ 671 = ms_I σ 672 ∧ fr [670, 671] [] σ τ) := by
  have hJ : ∀ v, pr (f_X12_must_J31 n σ v) (fun τ => ms_I τ 670 = v ∧ ms_I τ 671 = ms_I σ 672 ∧ fr [670, 671] [] σ τ) := by
    intro v
    unfold f_X12_must_J31
    refine pr_l (pr_l (pr_s ⟨?_, ?_, fr_tr (fr_sI (by decide)) (fr_sI (by decide))⟩))
    · rw [mI_sI, if_neg (by decide), mI_sI, if_pos rfl]
    · rw [mI_sI, if_pos rfl, mI_sI, if_neg (by decide)]
  unfold f_X12_must f_X12_must_J30
  refine pr_i (fun _ => pr_i (fun _ => pr_i (fun e2 => pr_i (fun e4 => ?_) (fun e4 => ?_)) (fun e2 => ?_)) (fun e => absurd (by rw [h0]; decide) e)) (fun e => absurd rfl e)
  · rw [if_pos ⟨e2, e4⟩]; exact hJ 1
  · rw [if_neg (fun h => e4 h.2)]; exact hJ w
  · rw [if_neg (fun h => e2 h.1)]; exact hJ w
theorem rg_m {σ τ : ms_T} (h : fr [670, 671] [] σ τ) : rg σ τ := fr_sb h (by decide) (by decide)
theorem v_must1 (n : Nat) (σ : ms_T) (a w : Int32) (ha : a ≠ 0) : pr (f_X12_must n σ a w) (fun τ => τ = σ) := by
  unfold f_X12_must
  exact pr_i (fun e => absurd e ha) (fun _ => pr_s rfl)
theorem v_must2 (n : Nat) (σ : ms_T) (a w : Int32) (h : 0 < (ms_I σ 670).toInt) : pr (f_X12_must n σ a w) (fun τ => τ = σ) := by
  unfold f_X12_must
  exact pr_i (fun _ => pr_le (fun e => by rw [lt0] at e; omega) (fun _ => pr_s rfl)) (fun _ => pr_s rfl)
/-- a fault stays -/
def BB (σ τ : ms_T) : Prop := ms_I τ 670 = ms_I σ 670 ∧ ms_I τ 671 = ms_I σ 671 ∧ rg σ τ
theorem BB_rf {σ : ms_T} : BB σ σ := ⟨rfl, rfl, rg_rf⟩
theorem v_takesEnd_B (n : Nat) (σ : ms_T) (h : 0 < (ms_I σ 670).toInt) : pr (f_X12_takesEnd n σ) (BB σ) := by
  have hJ : ∀ v, pr (f_X12_takesEnd_J14 n σ v) (BB σ) := by
    intro v
    unfold f_X12_takesEnd_J14
    refine pr_b (v_must2 n σ v 2 h) (fun τ hτ => ?_)
    subst hτ
    exact pr_i (fun e => by rw [e, lt0] at h; omega) (fun _ => pr_s BB_rf)
  unfold f_X12_takesEnd
  exact pr_i (fun _ => hJ 1) (fun _ => hJ 0)
theorem v_takesNumber_B (n : Nat) (σ : ms_T) (lo hi : Int32) (h : 0 < (ms_I σ 670).toInt) : pr (f_X12_takesNumber n σ lo hi) (fun res => BB σ res.2) := by
  have hJ : ∀ v, pr (f_X12_takesNumber_J14 n σ lo hi v) (fun res => BB σ res.2) := by
    intro v
    unfold f_X12_takesNumber_J14
    refine pr_b (v_must2 n σ v 2 h) (fun τ hτ => ?_)
    subst hτ
    refine pr_b (T := fun _ => True) (fun _ _ => trivial) (fun r _ => pr_b (v_must2 n τ r 3 h) (fun υ hυ => ?_))
    subst hυ
    exact pr_l (pr_i (fun e => by rw [e, lt0] at h; omega) (fun _ => pr_s BB_rf))
  unfold f_X12_takesNumber
  exact pr_i (fun _ => hJ 1) (fun _ => hJ 0)
/-- the outcome of a step on both sides -/
def OUT (α : hp_T) (rd : Nat) (σ : ms_T) (t : Nat → Int32) (N p : Nat) (r : Int32) (β : hp_T) (τ : ms_T) (G : Prop) : Prop := rdf rd (hp_R α 200 rd) α β ∧ rg σ τ ∧ ((r = 1 ∧ (∃ p', p < p' ∧ PRE β rd τ t N p') ∧ G) ∨ (r = 0 ∧ BAD β rd τ))
theorem PRE_rdf {α β : hp_T} {rd : Nat} {σ : ms_T} {t : Nat → Int32} {N p : Nat} (h : PRE α rd σ t N p) (e : hp_R β = hp_R α) (ek : hp_K β = hp_K α) (ee : hp_E β = hp_E α) (e1 : hp_I β 351 (hp_R α 200 rd) = hp_I α 351 (hp_R α 200 rd)) (e2 : hp_I β 352 (hp_R α 200 rd) = hp_I α 352 (hp_R α 200 rd)) : PRE β rd σ t N p := by
  obtain ⟨h1, h2, h3, h4, h5, h6⟩ := h
  refine ⟨h1, ?_, by rw [e, e2]; exact h3, h4, h5, h6⟩
  rw [e]
  exact ⟨h2.1, by rw [e1]; exact h2.2.1, by rw [e, ek]; exact h2.2.2.1, fun j hj => by rw [e, ee]; exact h2.2.2.2 j hj⟩
theorem q_lt {t : Nat → Int32} {N q : Nat} {k : Int32} (h : tkS t N q = k) (hk : k ≠ 0) : q < N := by
  refine Nat.lt_of_not_le (fun hq => hk ?_)
  rw [← h]
  unfold tkS tkK
  rw [if_pos hq, if_neg (fun e => absurd e.1 (by decide))]
theorem vl_b (t : Nat → Int32) (q : Nat) : ∀ m, m ≤ 5 → (∀ j, j < m → isD (t (q + j)) = true) → 0 ≤ (vl t q m).toInt ∧ (vl t q m).toInt + 1 ≤ (10 ^ m : Nat) := by
  intro m
  induction m with
  | zero => intro _ _; simp [vl]
  | succ m ih =>
    intro hm h
    have h1 := ih (by omega) (fun j hj => h j (by omega))
    have hd := h m (by omega)
    unfold isD at hd
    simp at hd
    have hp : (10 : Nat) ^ m ≤ 10 ^ 4 := Nat.pow_le_pow_right (by decide) (by omega)
    have hp4 : (10 : Nat) ^ 4 = 10000 := by decide
    have l48 : (48 : Int32).toInt = 48 := by decide
    have l10 := t_10
    have e1 : ((10 : Int32) * vl t q m).toInt = 10 * (vl t q m).toInt := by rw [ii_mul (by rw [l10]; omega) (by rw [l10]; omega), l10]
    have e2 : ((10 : Int32) * vl t q m + t (q + m)).toInt = 10 * (vl t q m).toInt + (t (q + m)).toInt := by rw [ii_add (by omega) (by omega), e1]
    rw [vl, ii_sub (by rw [l48]; omega) (by rw [l48]; omega), e2, l48, Nat.pow_succ]
    omega
theorem tk_num {t : Nat → Int32} {N q : Nat} (h : tkS t N q = 2) : q < N ∧ tkN t N q - q ≤ 5 ∧ 0 ≤ (vl t q (tkN t N q - q)).toInt ∧ (vl t q (tkN t N q - q)).toInt ≤ 99999 := by
  have hq := q_lt h (by decide)
  have hk := tkS_K h
  have h5 : tkN t N q - q ≤ 5 := by
    refine Nat.le_of_not_lt (fun h6 => ?_)
    unfold tkS at h
    rw [if_pos ⟨hk, h6⟩] at h
    exact absurd h (by decide)
  have hkk : kof (t q) = 2 := by unfold tkK at hk; rw [if_neg (by omega)] at hk; exact hk
  obtain ⟨hL, hD⟩ := kof_D.mp hkk
  have hall : ∀ j, j < tkN t N q - q → isD (t (q + j)) = true := by
    intro j hj
    unfold tkN at hj
    rw [if_neg (by omega), if_neg (by rw [hL]; decide), if_pos hD] at hj
    exact ru_all isD t (N - q) q (q + j) (by omega) (by omega)
  have := vl_b t q _ h5 hall
  have hp : (10 : Nat) ^ (tkN t N q - q) ≤ 10 ^ 5 := Nat.pow_le_pow_right (by decide) h5
  have hp5 : (10 : Nat) ^ 5 = 100000 := by decide
  omega
theorem p_lt {t : Nat → Int32} {N p q : Nat} (e : q = tkP t N p) (h : q < N) : p < tkN t N q := by
  have h1 := (ru_le isB t (N - p) p).1
  have h2 := (tkN_le t h).1
  unfold tkP at e
  omega
theorem r_number (n : Nat) (hn : 70000 ≤ n) {α : hp_T} {rd : Nat} {σ : ms_T} {t : Nat → Int32} {N p : Nat} (h : PRE α rd σ t N p) (lo hi lo' hi' : Int32) (hr' : ∀ v : Int, 0 ≤ v → v ≤ 99999 → ((lo.toInt ≤ v ∧ v ≤ hi.toInt) ↔ (lo'.toInt ≤ v ∧ v ≤ hi'.toInt))) : ws (f_X3_readNumber n α rd lo hi) (fun a => pr (f_X12_takesNumber n σ lo' hi') (fun b => OUT α rd σ t N p a.1 a.2 b.2 (hp_I a.2 209 rd = b.1 ∧ 0 ≤ b.1.toInt ∧ b.1.toInt ≤ 99999 ∧ lo'.toInt ≤ b.1.toInt ∧ b.1.toInt ≤ hi'.toInt ∧ ∀ φ, φ < 350 → φ ≠ 209 → hp_I a.2 φ rd = hp_I α φ rd))) := by
  have l2 := t_2
  unfold f_X3_readNumber
  refine ws_l (ws_b (r_adv n hn h) (fun β hβ => ws_l (ws_l ?_)))
  obtain ⟨hT, hf, hk⟩ := hβ
  obtain ⟨q1, q2, q3, q4, q5, q6⟩ := id hT
  obtain ⟨q, hqq⟩ : ∃ q, q = tkP t N p := ⟨_, rfl⟩
  rw [← hqq] at hT q1 q3 q5
  unfold f_X12_takesNumber f_X12_takesNumber_J14
  refine ws_i (fun e => ?_) (fun e => ?_)
  · have hs : tkS t N q = 2 := q3.2.1.symm.trans e
    obtain ⟨hqN, h5, hv0, hv1⟩ := tk_num hs
    have hlt : p < tkN t N q := p_lt hqq hqN
    have hval := q3.2.2.2.2 hs
    have hval2 := q5.2.2.2.1 hs
    have e674 : ms_I σ 674 = 2 := q5.2.1.trans hs
    rw [if_pos e674]
    have f9 : rdf rd (hp_R α 200 rd) β (hp_sI β 209 rd (hp_I β 356 (hp_R β 200 rd))) := rdf_sI (by decide)
    have e9 : hp_I (hp_sI β 209 rd (hp_I β 356 (hp_R β 200 rd))) 209 rd = vl t q (tkN t N q - q) := by rw [hI_sI, if_pos ⟨rfl, rfl⟩]; exact hval
    have href : ∀ P : Int32 × ms_T → Prop, ((lo'.toInt ≤ (vl t q (tkN t N q - q)).toInt ∧ (vl t q (tkN t N q - q)).toInt ≤ hi'.toInt) → ∀ τ, PRE β rd τ t N (tkN t N q) → rg σ τ → P (vl t q (tkN t N q - q), τ)) → (¬ (lo'.toInt ≤ (vl t q (tkN t N q - q)).toInt ∧ (vl t q (tkN t N q - q)).toInt ≤ hi'.toInt) → ∀ τ, ms_I τ 670 = 3 → ms_I τ 671 = ms_I σ 672 → rg σ τ → P (vl t q (tkN t N q - q), τ)) → pr (ms_b (f_X12_must n σ 1 2) fun σh2 => ms_b (f_X12_isIn n (ms_I σh2 675) lo' hi') fun rh3 => ms_b (f_X12_must n σh2 rh3 3) fun σh4 => ms_l (ms_I σh4 675) fun x5 => if ms_I σh4 670 = 0 then ms_b (f_X12_reads n σh4) fun σh7 => some (x5, σh7) else some (x5, σh4)) P := by
      intro P hP1 hP2
      refine pr_b (v_must1 n σ 1 2 (by decide)) (fun τ hτ => ?_)
      subst hτ
      rw [hval2]
      refine pr_b (v_isIn n _ lo' hi') (fun r hr => ?_)
      rcases hr with ⟨rfl, hin⟩ | ⟨rfl, hin⟩
      · refine pr_b (v_must1 n τ 1 3 (by decide)) (fun υ hυ => ?_)
        subst hυ
        refine pr_l (pr_i (fun _ => pr_b (r_reads n hT hqN) (fun ω hω => pr_s ?_)) (fun e => absurd q6 e))
        rw [hval2]
        exact hP1 hin ω hω.1 hω.2
      · refine pr_b (v_must0 n q6 3) (fun υ hυ => ?_)
        obtain ⟨u1, u2, u3⟩ := hυ
        rw [if_neg (fun h => absurd h.1 (by decide))] at u1
        have e675 : ms_I υ 675 = vl t q (tkN t N q - q) := by rw [u3.1 675 (by decide)]; exact hval2
        refine pr_l (pr_i (fun e => by rw [u1] at e; exact absurd e (by decide)) (fun _ => pr_s ?_))
        rw [e675]
        exact hP2 hin υ u1 u2 (rg_m u3)
    have hR9 : hp_R (hp_sI β 209 rd (hp_I β 356 (hp_R β 200 rd))) = hp_R β := rfl
    have hfail : ¬ (lo.toInt ≤ (vl t q (tkN t N q - q)).toInt ∧ (vl t q (tkN t N q - q)).toInt ≤ hi.toInt) → ws (f_X3_readNumber_J50 n rd (hp_sI β 209 rd (hp_I β 356 (hp_R β 200 rd)))) (fun a => pr (ms_b (f_X12_must n σ 1 2) fun σh2 => ms_b (f_X12_isIn n (ms_I σh2 675) lo' hi') fun rh3 => ms_b (f_X12_must n σh2 rh3 3) fun σh4 => ms_l (ms_I σh4 675) fun x5 => if ms_I σh4 670 = 0 then ms_b (f_X12_reads n σh4) fun σh7 => some (x5, σh7) else some (x5, σh4)) (fun b => OUT α rd σ t N p a.1 a.2 b.2 (hp_I a.2 209 rd = b.1 ∧ 0 ≤ b.1.toInt ∧ b.1.toInt ≤ 99999 ∧ lo'.toInt ≤ b.1.toInt ∧ b.1.toInt ≤ hi'.toInt ∧ ∀ φ, φ < 350 → φ ≠ 209 → hp_I a.2 φ rd = hp_I α φ rd))) := by
      intro hno
      unfold f_X3_readNumber_J50
      refine ws_hc (k_fail n _ rd 3) (fun r γ hr => ws_i (fun _ => ws_s ?_) (fun e => absurd hr.1 e))
      obtain ⟨g1, g2, g3, g4⟩ := hr
      have eR : hp_R α 200 rd = hp_R β 200 rd := by rw [hf.1]
      have g5 : rdf rd (hp_R α 200 rd) (hp_sI β 209 rd (hp_I β 356 (hp_R β 200 rd))) γ := by rw [eR]; exact g4
      refine href _ (fun hin => absurd ((hr' _ hv0 hv1).mpr hin) hno) (fun _ τ t1 t2 t3 => ⟨rdf_tr hf (rdf_tr f9 g5), t3, Or.inr ⟨rfl, by rw [t1]; decide, by rw [t1]; exact g2, ?_⟩⟩)
      rw [g3, t2, hI_sI, if_neg (fun h => absurd h.1 (by decide)), hR9]
      exact Int32.toInt_inj.mp (by rw [q3.1, q5.1])
    refine ws_l (ws_l (ws_l (ws_l ?_)))
    rw [e9]
    refine ws_lt (fun e1 => hfail (by omega)) (fun e1 => ws_l ?_)
    refine ws_le (fun e2 => ?_) (fun e2 => hfail (by omega))
    unfold f_X3_readNumber_J58
    refine ws_s (href _ (fun hin τ t1 t2 => ⟨rdf_tr hf f9, t2, Or.inl ⟨rfl, ⟨_, hlt, PRE_rdf t1 rfl rfl rfl (by rw [hI_sI, if_neg (fun h => absurd h.1 (by decide))]) (by rw [hI_sI, if_neg (fun h => absurd h.1 (by decide))])⟩, e9, hv0, hv1, hin.1, hin.2, fun φ h1 h2 => by rw [hI_sI, if_neg (fun h => h2 h.1)]; exact hk φ h1 rd⟩⟩) (fun hin => absurd ((hr' _ hv0 hv1).mp ⟨e1, e2⟩) hin))
  · have hs : ¬ tkS t N q = 2 := fun h => e (q3.2.1.trans h)
    have e674 : ¬ ms_I σ 674 = 2 := fun h => hs (q5.2.1.symm.trans h)
    rw [if_neg e674]
    refine ws_hc (k_stray n q3) (fun r γ hr => ws_z (Or.inl hr.1) (ws_s ?_))
    obtain ⟨g1, g2, g3, g4⟩ := hr
    refine pr_b (v_must0 n q6 2) (fun τ hτ => ?_)
    obtain ⟨u1, u2, u3⟩ := hτ
    have hpos : 0 < (ms_I τ 670).toInt := by rw [u1]; split <;> decide
    refine pr_b (T := fun _ => True) (fun _ _ => trivial) (fun r3 _ => pr_b (v_must2 n τ r3 3 hpos) (fun υ hυ => ?_))
    subst hυ
    refine pr_l (pr_i (fun e => by rw [e, lt0] at hpos; omega) (fun _ => pr_s ⟨rdf_tr hf (by rw [hf.1] at g4; exact g4), rg_m u3, Or.inr ⟨g1, hpos, ?_, ?_⟩⟩))
    · rw [g2, u1]
      by_cases h4 : tkS t N q = 4
      · rw [if_pos h4, if_pos ⟨rfl, q5.2.1.trans h4⟩]
      · rw [if_neg h4, if_neg (fun h => h4 (q5.2.1.symm.trans h.2))]
    · exact Int32.toInt_inj.mp (by rw [g3, u2, q5.1])
/-- a thing that must be there: both find it, or both the same fault -/
theorem r_must (n : Nat) {β : hp_T} {rd : Nat} {σ : ms_T} {t : Nat → Int32} {N q : Nat} (hT : TOK β rd σ t N q) (a : Int32) (ha : a = 0 ∨ a = 1) (hq : a = 1 → q < N) {R : Type} (P : ms_T → Prop) (hP1 : a = 1 → ∀ τ, PRE β rd τ t N (tkN t N q) → rg σ τ → P τ) (hP2 : a = 0 → ∀ τ, 0 < (ms_I τ 670).toInt → ms_I τ 670 = (if tkS t N q = 4 then 1 else 2) → (ms_I τ 671).toInt = (q : Int) → rg σ τ → P τ) : pr (ms_b (f_X12_must n σ a 2) fun σh2 => if ms_I σh2 670 = 0 then ms_b (f_X12_reads n σh2) fun σh4 => some σh4 else some σh2) P := by
  obtain ⟨q1, q2, q3, q4, q5, q6⟩ := id hT
  rcases ha with rfl | rfl
  · refine pr_b (v_must0 n q6 2) (fun τ hτ => ?_)
    obtain ⟨u1, u2, u3⟩ := hτ
    have e : ms_I τ 670 = (if tkS t N q = 4 then 1 else 2) := by
      rw [u1]
      by_cases h4 : tkS t N q = 4
      · rw [if_pos h4, if_pos ⟨rfl, q5.2.1.trans h4⟩]
      · rw [if_neg h4, if_neg (fun h => h4 (q5.2.1.symm.trans h.2))]
    have hpos : 0 < (ms_I τ 670).toInt := by rw [e]; split <;> decide
    exact pr_i (fun e => by rw [e, lt0] at hpos; omega) (fun _ => pr_s (hP2 rfl τ hpos e (by rw [u2]; exact q5.1) (rg_m u3)))
  · refine pr_b (v_must1 n σ 1 2 (by decide)) (fun τ hτ => ?_)
    subst hτ
    exact pr_i (fun _ => pr_b (r_reads n hT (hq rfl)) (fun υ hυ => pr_s (hP1 rfl υ hυ.1 hυ.2))) (fun e => absurd q6 e)
theorem r_sign (n : Nat) (hn : 70000 ≤ n) {α : hp_T} {rd : Nat} {σ : ms_T} {t : Nat → Int32} {N p : Nat} (h : PRE α rd σ t N p) : ws (f_X3_readSign n α rd) (fun a => pr (f_X12_takesEnd n σ) (fun τ => OUT α rd σ t N p a.1 a.2 τ (∀ φ, φ < 350 → hp_I a.2 φ rd = hp_I α φ rd))) := by
  unfold f_X3_readSign
  refine ws_l (ws_b (r_adv n hn h) (fun β hβ => ws_l (ws_l ?_)))
  obtain ⟨hT, hf, hk⟩ := hβ
  obtain ⟨q1, q2, q3, q4, q5, q6⟩ := id hT
  have eR : hp_R α 200 rd = hp_R β 200 rd := by rw [hf.1]
  unfold f_X12_takesEnd f_X12_takesEnd_J14
  refine ws_i (fun e => ?_) (fun e => ?_)
  · have hs := q3.2.1.symm.trans e
    rw [if_pos (q5.2.1.trans hs)]
    unfold f_X3_readSign_J25
    exact ws_s (r_must n hT 1 (Or.inr rfl) (fun _ => q_lt hs (by decide)) (R := ms_T) _ (fun _ τ t1 t2 => ⟨hf, t2, Or.inl ⟨rfl, ⟨_, p_lt rfl (q_lt hs (by decide)), t1⟩, fun φ hφ => hk φ hφ rd⟩⟩) (fun h => absurd h (by decide)))
  · rw [if_neg (fun h => e (q3.2.1.trans (q5.2.1.symm.trans h)))]
    refine ws_hc (k_stray n q3) (fun r γ hr => ws_i (fun _ => ws_s ?_) (fun e => absurd hr.1 e))
    obtain ⟨g1, g2, g3, g4⟩ := hr
    refine r_must n hT 0 (Or.inl rfl) (fun h => absurd h (by decide)) (R := ms_T) _ (fun h => absurd h (by decide)) (fun _ τ t1 t2 t3 t4 => ⟨rdf_tr hf (by rw [eR]; exact g4), t4, Or.inr ⟨rfl, t1, by rw [g2, t2], ?_⟩⟩)
    exact Int32.toInt_inj.mp (by rw [g3, t3])
/-! ===== marks: of two, of words, of trees ===== -/
def mx (m h x : Int32) : Int32 := ((((((h).toInt64 * (h).toInt64) + ((3 : Int64) * (h).toInt64)) + (x).toInt64) + (7 : Int64)) - (((((h).toInt64 * (h).toInt64) + ((3 : Int64) * (h).toInt64)) + (x).toInt64) + (7 : Int64)) / (m).toInt64 * (m).toInt64).toInt32
def bt (m a b : Int32) : Int32 := mx m (mx m 2 a) b
theorem i64_of (x : Int32) : (x.toInt64).toInt = x.toInt := Int32.toInt_toInt64 x
theorem nl_of {m : Int32} (h : 0 < m.toInt) : ¬ m.toInt64 = 0 := by
  intro e
  have := congrArg Int64.toInt e
  rw [i64_of, show (0 : Int64).toInt = 0 from rfl] at this
  omega
theorem jl_rem {x : Int64} {m : Int32} (h0 : -1000000000000 ≤ x.toInt) (h1 : x.toInt ≤ 1000000000000) (hm : 0 < m.toInt) : (x - x / m.toInt64 * m.toInt64).toInt = x.toInt.tmod m.toInt := by
  have hd : (x / m.toInt64).toInt = x.toInt.tdiv m.toInt := by
    rw [Int64.toInt_div, i64_of]
    have h2 : (x.toInt.tdiv m.toInt).natAbs ≤ x.toInt.natAbs := Int.natAbs_tdiv_le_natAbs _ _
    exact Int.bmod_eq_of_le (by omega) (by omega)
  have he := Int.tmod_add_mul_tdiv x.toInt m.toInt
  have hl : (x.toInt.tmod m.toInt).natAbs < m.toInt.natAbs := by
    rw [Int.natAbs_tmod]
    exact Nat.mod_lt _ (by omega)
  have hmb := ib_hi m
  have e2 : x.toInt.tdiv m.toInt * m.toInt = x.toInt - x.toInt.tmod m.toInt := by rw [Int.mul_comm]; omega
  have hmul : (x / m.toInt64 * m.toInt64).toInt = x.toInt - x.toInt.tmod m.toInt := by
    rw [jl_mul (by rw [hd, i64_of, e2]; omega) (by rw [hd, i64_of, e2]; omega), hd, i64_of, e2]
  rw [jl_sub (by rw [hmul]; omega) (by rw [hmul]; omega), hmul]
  omega
theorem rem_32 {x : Int64} {m : Int32} (h0 : -1000000000000 ≤ x.toInt) (h1 : x.toInt ≤ 1000000000000) (hm : 0 < m.toInt) : ((x - x / m.toInt64 * m.toInt64).toInt32).toInt64 = x - x / m.toInt64 * m.toInt64 := by
  have h := jl_rem h0 h1 hm
  have hl : (x.toInt.tmod m.toInt).natAbs < m.toInt.natAbs := by
    rw [Int.natAbs_tmod]
    exact Nat.mod_lt _ (by omega)
  have hmb := ib_hi m
  rw [← Int64.toInt_inj, i64_of, Int64.toInt_toInt32, h]
  exact Int.bmod_eq_of_le (by omega) (by omega)
theorem bt_17 (a : Int32) : (((2 : Int32).toInt64 * (2 : Int32).toInt64 + (3 : Int64) * (2 : Int32).toInt64) + a.toInt64) + (7 : Int64) = a.toInt64 + (17 : Int64) := by
  have e : (2 : Int32).toInt64 * (2 : Int32).toInt64 + (3 : Int64) * (2 : Int32).toInt64 = (10 : Int64) := by decide
  rw [e, Int64.add_comm 10, Int64.add_assoc]
  rfl
theorem k_mixed (n : Nat) (m h x : Int32) (hm : 0 < m.toInt) : ws (f_X11_mixed n m h x) (fun r => r = mx m h x) := by
  unfold f_X11_mixed
  exact ws_lt (fun _ => ws_nl (nl_of hm) (ws_s rfl)) (fun e => by rw [lt0] at e; omega)
theorem k_two (n : Nat) (m a b : Int32) (hm : 0 < m.toInt) : ws (f_X11_markOfTwo n m a b) (fun r => r = bt m a b) := by
  have ha := ib_hi a
  have hb := ib_lo a
  have h17 : (a.toInt64 + (17 : Int64)).toInt = a.toInt + 17 := by
    rw [jl_add (by rw [i64_of, show (17 : Int64).toInt = 17 from by decide]; omega) (by rw [i64_of, show (17 : Int64).toInt = 17 from by decide]; omega), i64_of, show (17 : Int64).toInt = 17 from by decide]
  have hr := rem_32 (x := a.toInt64 + (17 : Int64)) (m := m) (by omega) (by omega) hm
  unfold f_X11_markOfTwo
  refine ws_lt (fun _ => ws_nl (nl_of hm) (ws_l (ws_nl (nl_of hm) (ws_s ?_)))) (fun e => by rw [lt0] at e; omega)
  unfold bt
  have e2 : (mx m 2 a).toInt64 = (a.toInt64 + (17 : Int64)) - (a.toInt64 + (17 : Int64)) / m.toInt64 * m.toInt64 := by
    unfold mx
    rw [bt_17]
    exact hr
  unfold mx at e2 ⊢
  rw [e2]
theorem v_mixed (n : Nat) (σ : ms_T) (h x : Int32) : pr (f_X12_mixed n σ h x) (fun r => r = mx (ms_E σ 40 1) h x) := by
  unfold f_X12_mixed
  exact pr_g (fun _ _ => pr_nl (fun _ => pr_s rfl))
theorem v_both (n : Nat) (σ : ms_T) (a b : Int32) : pr (f_X12_both n σ a b) (fun r => r = bt (ms_E σ 40 1) a b) := by
  unfold f_X12_both bt
  refine pr_b (v_mixed n σ 2 a) (fun r hr => pr_b (v_mixed n σ r b) (fun r2 hr2 => pr_s ?_))
  rw [hr2, hr]
/-- a tree of things: split at the greatest power of two below -/
def TR (g : Int32 → Int32 → Int32) : Nat → List Int32 → Int32
  | 0, l => l.headD 0
  | d + 1, l => if l.length ≤ 1 then l.headD 0 else g (TR g d (l.take (p0 l.length))) (TR g d (l.drop (p0 l.length)))
/-- two by two, the odd last one left for later -/
def JN (g : Int32 → Int32 → Int32) : List Int32 → List Int32
  | a :: b :: l => g a b :: JN g l
  | [a] => [a]
  | [] => []
theorem JN_len (g : Int32 → Int32 → Int32) : ∀ (k : Nat) (l : List Int32), l.length ≤ k → (JN g l).length = (l.length + 1) / 2 := by
  intro k
  induction k with
  | zero => intro l h; cases l with
    | nil => rfl
    | cons a l => simp at h
  | succ k ih =>
    intro l h
    match l, h with
    | [], _ => rfl
    | [a], _ => simp [JN]
    | a :: b :: l, h =>
      rw [JN, List.length_cons, ih l (by simp at h; omega)]
      simp only [List.length_cons]
      omega
theorem JN_td (g : Int32 → Int32 → Int32) : ∀ (k : Nat) (l : List Int32), (JN g l).take k = JN g (l.take (2 * k)) ∧ (JN g l).drop k = JN g (l.drop (2 * k)) ∨ l.length < 2 * k := by
  intro k
  induction k with
  | zero => intro l; left; simp [JN]
  | succ k ih =>
    intro l
    match l with
    | [] => right; simp
    | [a] => right; simp; omega
    | a :: b :: l =>
      rcases ih l with ⟨h1, h2⟩ | h
      · left
        rw [show 2 * (k + 1) = 2 * k + 1 + 1 by omega]
        constructor
        · rw [JN, List.take_succ_cons, h1, List.take_succ_cons, List.take_succ_cons, JN]
        · rw [JN, List.drop_succ_cons, h2, List.drop_succ_cons, List.drop_succ_cons]
      · right; simp; omega
theorem p0_half {n : Nat} (h : 3 ≤ n) : p0 n = 2 * p0 ((n + 1) / 2) := by
  have h1 := p0_lt (m := (n + 1) / 2) (by omega)
  have h2 := p0_le (m := (n + 1) / 2)
  have h3 : ∃ e, p0 ((n + 1) / 2) = 2 ^ e := ⟨_, rfl⟩
  obtain ⟨e, he⟩ := h3
  rw [he] at h1 h2 ⊢
  rw [p0_un (m := n) (e := e + 1) (by rw [Nat.pow_succ]; omega) (by rw [Nat.pow_succ]; omega), Nat.pow_succ]
  omega
theorem TR_1 (g : Int32 → Int32 → Int32) (d : Nat) {l : List Int32} (h : l.length ≤ 1) : TR g d l = l.headD 0 := by
  cases d with
  | zero => rfl
  | succ d => rw [TR, if_pos h]
theorem JN_1 (g : Int32 → Int32 → Int32) {l : List Int32} (h : l.length ≤ 1) : JN g l = l := by
  match l, h with
  | [], _ => rfl
  | [a], _ => rfl
  | a :: b :: l, h => simp at h
theorem TR_JN (g : Int32 → Int32 → Int32) : ∀ (d : Nat) (l : List Int32), l.length ≤ 2 ^ (d + 1) → TR g (d + 1) l = TR g d (JN g l) := by
  intro d
  induction d with
  | zero =>
    intro l h
    match l, h with
    | [], _ => rfl
    | [a], _ => rfl
    | [a, b], _ => rfl
    | a :: b :: c :: l, h => simp at h
  | succ d ih =>
    intro l h
    by_cases h1 : l.length ≤ 1
    · rw [JN_1 g h1, TR_1 g _ h1, TR_1 g _ h1]
    · rw [TR, if_neg h1]
      by_cases h2 : l.length = 2
      · match l, h2 with
        | [a, b], _ =>
          have hp : p0 2 = 1 := by decide
          show g (TR g (d + 1) (List.take (p0 2) [a, b])) (TR g (d + 1) (List.drop (p0 2) [a, b])) = TR g (d + 1) [g a b]
          rw [hp, TR_1 g _ (by simp), TR_1 g _ (by simp), TR_1 g _ (by simp)]
          rfl
      · have h3 : 3 ≤ l.length := by omega
        have hl := JN_len g _ l (Nat.le_refl _)
        have hp := p0_half h3
        have hp1 := p0_lt (m := l.length) (by omega)
        have hp2 := p0_le (m := l.length)
        have hp4 := p0_dn (m := l.length) (by omega) h
        have eR : TR g (d + 1) (JN g l) = g (TR g d ((JN g l).take (p0 ((l.length + 1) / 2)))) (TR g d ((JN g l).drop (p0 ((l.length + 1) / 2)))) := by rw [TR, if_neg (by rw [hl]; omega), hl]
        rw [eR]
        rcases JN_td g (p0 ((l.length + 1) / 2)) l with ⟨t1, t2⟩ | t
        · rw [t1, t2, ← hp]
          rw [ih (l.take (p0 l.length)) (by rw [List.length_take]; omega), ih (l.drop (p0 l.length)) (by rw [List.length_drop]; omega)]
        · rw [← hp] at t; omega
end JN9_7
section JN9_8
set_option maxRecDepth 100000
/-! ===== the class's trees of marks ===== -/
theorem JN_get (g : Int32 → Int32 → Int32) : ∀ (j : Nat) (l : List Int32), (∀ h : 2 * j + 1 < l.length, (JN g l)[j]? = some (g l[2 * j] l[2 * j + 1])) ∧ (2 * j + 1 = l.length → (JN g l)[j]? = l[2 * j]?) := by
  intro j
  induction j with
  | zero =>
    intro l
    match l with
    | [] => simp
    | [a] => simp [JN]
    | a :: b :: l => simp [JN]
  | succ j ih =>
    intro l
    match l with
    | [] => simp
    | [a] => simp
    | a :: b :: l =>
      obtain ⟨h1, h2⟩ := ih l
      constructor
      · intro h
        have h' : 2 * j + 1 < l.length := by simp at h; omega
        rw [JN, List.getElem?_cons_succ, h1 h']
        simp [show 2 * (j + 1) = 2 * j + 1 + 1 by omega]
      · intro h
        have h' : 2 * j + 1 = l.length := by simp at h; omega
        rw [JN, List.getElem?_cons_succ, h2 h', show 2 * (j + 1) = 2 * j + 1 + 1 by omega, List.getElem?_cons_succ, List.getElem?_cons_succ]
/-- only the row for joining changes -/
def jf (w : Nat) (α β : hp_T) : Prop := hp_R β = hp_R α ∧ hp_K β = hp_K α ∧ hp_Q β = hp_Q α ∧ hp_N β = hp_N α ∧ hp_I β = hp_I α ∧ ∀ κ b j, ¬ (κ = 33 ∧ b = hp_R α 557 w) → hp_E β κ b j = hp_E α κ b j
theorem jf_rf {w : Nat} {α : hp_T} : jf w α α := ⟨rfl, rfl, rfl, rfl, rfl, fun _ _ _ _ => rfl⟩
theorem jf_tr {w : Nat} {α β γ : hp_T} (h : jf w α β) (g : jf w β γ) : jf w α γ := by
  obtain ⟨h1, h2, h3, h4, h5, h6⟩ := h
  obtain ⟨g1, g2, g3, g4, g5, g6⟩ := g
  rw [h1] at g6
  exact ⟨g1.trans h1, g2.trans h2, g3.trans h3, g4.trans h4, g5.trans h5, fun κ b j q => (g6 κ b j q).trans (h6 κ b j q)⟩
theorem jf_sE {w j : Nat} {α : hp_T} {v : Int32} : jf w α (hp_sE α 33 (hp_R α 557 w) j v) :=
  ⟨rfl, rfl, rfl, rfl, rfl, fun κ b i q => by rw [hE_sE, if_neg (fun e => q ⟨e.1, e.2.1⟩)]⟩
theorem k_treeJ (n : Nat) (w : Nat) (α β : hp_T) (hf : jf w α β) (x : Int32) (hx : hp_E β 33 (hp_R α 557 w) 0 = x) : ws (f_X10_treeMarks_J161 n w β) (fun res => res.1 = x ∧ jf w α res.2) := by
  unfold f_X10_treeMarks_J161
  refine ws_l (ws_g (by decide) (by decide) (ws_s ⟨?_, hf⟩))
  rw [hf.1]
  exact hx
theorem k_tree77 (n : Nat) (w : Nat) (α : hp_T) (m : Int32) (hm : 0 < m.toInt) (hmα : hp_I α 550 w = m) (l : List Int32) (hl2 : 2 ≤ l.length) (hl48 : l.length ≤ 48) (rec55 : hp_T → Int32 → Int32 → Option (Int32 × hp_T)) (P : Int32 × hp_T → Prop) (dI : Int32) (hrec : ∀ (β : hp_T) (rI : Int32), jf w α β → rI.toInt = ((JN (bt m) l).length : Int) → (∀ j, j < (JN (bt m) l).length → some (hp_E β 33 (hp_R α 557 w) j) = (JN (bt m) l)[j]?) → ws (rec55 β rI (dI + 1)) P) : ∀ (d k : Nat) (β : hp_T) (kI rI pI : Int32), rI.toInt = (l.length : Int) → pI.toInt = ((l.length / 2 : Nat) : Int) → kI.toInt = (k : Int) → k ≤ l.length / 2 → jf w α β → (∀ j, j < k → some (hp_E β 33 (hp_R α 557 w) j) = (JN (bt m) l)[j]?) → (∀ j, 2 * k ≤ j → ∀ h : j < l.length, hp_E β 33 (hp_R α 557 w) j = l[j]) → l.length / 2 + 1 - k ≤ d → ws (f_X10_treeMarks_L77 n w rec55 d β rI dI pI kI) P := by
  intro d
  induction d with
  | zero => intro k β kI rI pI h1 h2 h3 h4 hf hA hB hd; omega
  | succ d ih =>
    intro k β kI rI pI h1 h2 h3 h4 hf hA hB hd
    have l2 := t_2
    have hJl := JN_len (bt m) _ l (Nat.le_refl _)
    have hsub : (rI - pI).toInt = ((JN (bt m) l).length : Int) := by rw [ii_sub (by omega) (by omega), h1, h2, hJl]; omega
    have hR := hf.1
    rw [f_X10_treeMarks_L77.eq_2]
    refine ws_le (fun e => ?_) (fun e => ?_)
    · have hk : k = l.length / 2 := by omega
      have hrem : (rI - rI / (2 : Int32) * (2 : Int32)).toInt = (l.length : Int) % 2 := by rw [ii_rem (by omega) (by decide), h1, l2]
      unfold f_X10_treeMarks_J148
      refine ws_e (fun e1 => ?_) (fun e1 => ?_)
      · have hodd : l.length % 2 = 1 := by have := il_eq e1; rw [hrem, lt1] at this; omega
        have hr1 : (rI - 1).toInt = ((l.length - 1 : Nat) : Int) := by rw [ii_sub (by rw [lt1]; omega) (by rw [lt1]; omega), h1, lt1]; omega
        refine ws_l (ws_l (ws_g (by omega) (by omega) (ws_g (by omega) (by omega) (ws_l (ws_l (ws_l (hrec _ _ (jf_tr hf (by rw [hR]; exact hR ▸ jf_sE)) hsub ?_)))))))
        intro j hj
        rw [hE_sE, cl_n h2, cl_n hr1, hR]
        by_cases hjp : j = l.length / 2
        · subst hjp
          rw [if_pos ⟨rfl, rfl, rfl⟩, hB (l.length - 1) (by omega) (by omega), (JN_get (bt m) (l.length / 2) l).2 (by omega), show 2 * (l.length / 2) = l.length - 1 by omega, List.getElem?_eq_getElem (by omega)]
        · rw [if_neg (fun h => hjp h.2.2)]
          exact hA j (by omega)
      · have heven : l.length % 2 = 0 := by
          have h01 : l.length % 2 = 0 ∨ l.length % 2 = 1 := by omega
          rcases h01 with h | h
          · exact h
          · exact absurd (by rw [hrem, lt1]; omega) e1
        refine ws_l (ws_l (hrec _ _ hf hsub (fun j hj => hA j (by omega))))
    · have hk : k < l.length / 2 := by omega
      have e2k : ((2 : Int32) * kI).toInt = ((2 * k : Nat) : Int) := by rw [ii_mul (by rw [l2]; omega) (by rw [l2]; omega), l2, h3]; omega
      have e2k1 : ((2 : Int32) * kI + (1 : Int32)).toInt = ((2 * k + 1 : Nat) : Int) := by rw [ii_add (by rw [lt1]; omega) (by rw [lt1]; omega), e2k, lt1]; omega
      have hkn : (kI + 1).toInt = ((k + 1 : Nat) : Int) := by rw [ii_add (by rw [lt1]; omega) (by rw [lt1]; omega), h3, lt1]; omega
      refine ws_l (ws_l (ws_l (ws_g (by omega) (by omega) (ws_l (ws_g (by omega) (by omega) ?_)))))
      rw [hf.2.2.2.2.1, hmα, cl_n e2k, cl_n e2k1, hR, hB (2 * k) (by omega) (by omega), hB (2 * k + 1) (by omega) (by omega)]
      refine ws_b (k_two n m _ _ hm) (fun v hv => ws_g (by omega) (by omega) (ws_l (ws_l (ih (k + 1) _ _ rI pI h1 h2 hkn (by omega) (jf_tr hf (hR ▸ jf_sE)) (fun j hj => ?_) (fun j hj hjl => ?_) (by omega)))))
      · rw [hE_sE, cl_n h3]
        by_cases hjk : j = k
        · rw [if_pos ⟨rfl, rfl, hjk⟩, hv, hjk]
          exact ((JN_get (bt m) k l).1 (by omega)).symm
        · rw [if_neg (fun h => hjk h.2.2)]
          exact hA j (by omega)
      · rw [hE_sE, cl_n h3, if_neg (fun h => by have := h.2.2; omega)]
        exact hB j (by omega) hjl
theorem k_tree55 (n : Nat) (hn : 70000 ≤ n) (w : Nat) (α : hp_T) (m : Int32) (hm : 0 < m.toInt) (hmα : hp_I α 550 w = m) : ∀ (e d : Nat) (l : List Int32) (β : hp_T) (rI dI : Int32), 1 ≤ l.length → l.length ≤ 48 → l.length ≤ 2 ^ e → e + 1 ≤ d → rI.toInt = (l.length : Int) → 0 ≤ dI.toInt → dI.toInt + e ≤ 40 → jf w α β → (∀ j, j < l.length → some (hp_E β 33 (hp_R α 557 w) j) = l[j]?) → ws (f_X10_treeMarks_L55 n w d β rI dI) (fun res => res.1 = TR (bt m) e l ∧ jf w α res.2) := by
  intro e
  induction e with
  | zero =>
    intro d l β rI dI h1 h48 he hd hr hd0 hd1 hf hA
    obtain ⟨d, rfl⟩ : ∃ d', d = d' + 1 := ⟨d - 1, by omega⟩
    have hl1 : l.length = 1 := by simp at he; omega
    have hx : hp_E β 33 (hp_R α 557 w) 0 = TR (bt m) 0 l := by
      have := hA 0 (by omega)
      match l, hl1 with
      | [a], _ => simpa [TR] using this
    rw [f_X10_treeMarks_L55.eq_2]
    exact ws_le (fun _ => k_treeJ n w α β hf _ hx) (fun _ => ws_le (fun _ => k_treeJ n w α β hf _ hx) (fun h => by rw [lt1] at h; omega))
  | succ e ih =>
    intro d l β rI dI h1 h48 he hd hr hd0 hd1 hf hA
    obtain ⟨d, rfl⟩ : ∃ d', d = d' + 1 := ⟨d - 1, by omega⟩
    have L40 : (40 : Int32).toInt = 40 := by decide
    rw [f_X10_treeMarks_L55.eq_2]
    refine ws_le (fun h => by omega) (fun _ => ws_le (fun h => ?_) (fun h => ws_l ?_))
    · rw [lt1] at h
      have hl1 : l.length = 1 := by omega
      rw [TR_1 _ _ (by omega)]
      refine k_treeJ n w α β hf _ ?_
      have := hA 0 (by omega)
      match l, hl1 with
      | [a], _ => simpa using this
    · rw [lt1, hr] at h
      have hdv : (rI / (2 : Int32)).toInt = ((l.length / 2 : Nat) : Int) := by rw [ii_div (by omega) (by decide), hr, t_2]; omega
      rw [TR_JN _ _ _ he]
      have hJl := JN_len (bt m) _ l (Nat.le_refl _)
      refine k_tree77 n w α m hm hmα l (by omega) h48 _ _ dI (fun γ sI hg hs hB => ?_) n 0 β 0 rI _ hr hdv rfl (Nat.zero_le _) hf (fun j hj => by omega) (fun j _ hj => ?_) (by omega)
      · exact ih d (JN (bt m) l) γ sI (dI + 1) (by omega) (by omega) (by rw [hJl]; rw [Nat.pow_succ] at he; omega) (by omega) hs (by rw [ii_add (by rw [lt1]; omega) (by rw [lt1]; omega), lt1]; omega) (by rw [ii_add (by rw [lt1]; omega) (by rw [lt1]; omega), lt1]; omega) hg hB
      · have := hA j hj
        rw [List.getElem?_eq_getElem hj] at this
        exact Option.some.inj this
/-- the marks of a log: what its row holds -/
def LM (α : hp_T) (lg : Nat) (L : List Int32) : Prop := L.length ≤ 48 ∧ (hp_I α 152 lg).toInt = (L.length : Int) ∧ ∀ j, j < L.length → some (hp_E α 29 (hp_R α 151 lg) j) = L[j]?
theorem LM_jf {α β : hp_T} {w lg : Nat} {L : List Int32} (h : LM α lg L) (f : jf w α β) : LM β lg L := by
  obtain ⟨f1, -, -, -, f5, f6⟩ := f
  refine ⟨h.1, by rw [f5]; exact h.2.1, fun j hj => ?_⟩
  rw [f1, f6 29 _ _ (fun q => absurd q.1 (by decide))]
  exact h.2.2 j hj
theorem k_markAt (n : Nat) {α : hp_T} {lg : Nat} {L : List Int32} (h : LM α lg L) (i : Nat) (iI : Int32) (hi : iI.toInt = (i : Int)) (hl : i < L.length) : ws (f_X2_markAt n α lg iI) (fun r => r = L[i]) := by
  have L48 := t_48
  obtain ⟨h1, h2, h3⟩ := h
  unfold f_X2_markAt
  refine ws_lt (fun e => by rw [lt0] at e; omega) (fun _ => ws_l (ws_le (fun e => by omega) (fun _ => ws_l (ws_le (fun e => by omega) (fun _ => ws_l (ws_g (by omega) (by omega) (ws_s ?_)))))))
  rw [cl_n hi]
  have := h3 i hl
  rw [List.getElem?_eq_getElem hl] at this
  exact Option.some.inj this
theorem k_tree24 (n : Nat) (hn : 70000 ≤ n) (w : Nat) (α : hp_T) (m : Int32) (hm : 0 < m.toInt) (hmα : hp_I α 550 w = m) (lg : Nat) (L : List Int32) (hL : LM α lg L) (f k : Nat) (hk : 1 ≤ k) (hfk : f + k ≤ L.length) (fI kI : Int32) (hf : fI.toInt = (f : Int)) (hkI : kI.toInt = (k : Int)) : ∀ (d j : Nat) (β : hp_T) (jI : Int32), jI.toInt = (j : Int) → j ≤ k → jf w α β → (∀ i, i < j → some (hp_E β 33 (hp_R α 557 w) i) = L[f + i]?) → k + 1 - j ≤ d → ws (f_X10_treeMarks_L24 n w d β lg fI kI jI) (fun res => res.1 = TR (bt m) 6 ((L.drop f).take k) ∧ jf w α res.2) := by
  intro d
  induction d with
  | zero => intro j β jI h1 h2 h3 h4 h5; omega
  | succ d ih =>
    intro j β jI h1 h2 h3 h4 h5
    have h48 := hL.1
    rw [f_X10_treeMarks_L24.eq_2]
    refine ws_le (fun e => ?_) (fun e => ?_)
    · have hjk : j = k := by omega
      have hlen : ((L.drop f).take k).length = k := by rw [List.length_take, List.length_drop]; omega
      refine k_tree55 n hn w α m hm hmα 6 n _ β kI 0 (by omega) (by omega) (by rw [hlen]; omega) (by omega) (by rw [hlen]; exact hkI) (by decide) (by decide) h3 (fun i hi => ?_)
      rw [hlen] at hi
      rw [h4 i (by omega), List.getElem?_take_of_lt hi, List.getElem?_drop]
    · have hjn : (jI + 1).toInt = ((j + 1 : Nat) : Int) := by rw [ii_add (by rw [lt1]; omega) (by rw [lt1]; omega), h1, lt1]; omega
      have hfj : (fI + jI).toInt = ((f + j : Nat) : Int) := by rw [ii_add (by omega) (by omega), hf, h1]; omega
      refine ws_l (ws_b (k_markAt n (LM_jf hL h3) (f + j) _ hfj (by omega)) (fun v hv => ws_g (by omega) (by omega) (ws_l (ws_l (ih (j + 1) _ _ hjn (by omega) (jf_tr h3 jf_sE) (fun i hi => ?_) (by omega))))))
      rw [hE_sE, cl_n h1, h3.1]
      by_cases hij : i = j
      · rw [if_pos ⟨rfl, rfl, hij⟩, hv, hij, List.getElem?_eq_getElem (by omega)]
      · rw [if_neg (fun h => hij h.2.2)]
        exact h4 i (by omega)
/-- a tree's mark out of marks: 0 of nothing -/
def TMK (m : Int32) (L : List Int32) (f k : Nat) : Int32 := if k = 0 then 0 else TR (bt m) 6 ((L.drop f).take k)
theorem k_min (n : Nat) (a b : Int32) (h : a.toInt ≤ b.toInt) : ws (f_J9_min_7cf53 n a b) (fun r => r = a) := by
  unfold f_J9_min_7cf53
  exact ws_lt (fun e => by omega) (fun e => ws_s rfl)
theorem k_treeMark (n : Nat) (hn : 70000 ≤ n) (w : Nat) (α : hp_T) (m : Int32) (hm : 0 < m.toInt) (hmα : hp_I α 550 w = m) (lg : Nat) (L : List Int32) (hL : LM α lg L) (f k : Nat) (hfk : f + k ≤ L.length) (fI kI : Int32) (hf : fI.toInt = (f : Int)) (hkI : kI.toInt = (k : Int)) : ws (f_X10_treeMark n α w (some lg) fI kI) (fun res => res.1 = TMK m L f k ∧ jf w α res.2) := by
  have h48 := hL.1
  have L48 := t_48
  show ws (if 0 < kI then _ else _) _
  refine ws_lt (fun e => ws_l ?_) (fun e => ws_s ⟨?_, jf_rf⟩)
  · rw [lt0] at e
    have eT : TMK m L f k = TR (bt m) 6 ((L.drop f).take k) := by unfold TMK; rw [if_neg (by omega)]
    rw [eT]
    refine ws_b (k_min n kI 48 (by omega)) (fun r hr => ?_)
    subst hr
    exact k_tree24 n hn w α m hm hmα lg L hL f k (by omega) hfk fI r hf hkI n 0 α 0 rfl (Nat.zero_le _) jf_rf (fun i hi => by omega) (by omega)
  · rw [lt0] at e
    unfold TMK
    rw [if_pos (by omega)]
/-! ===== the reference's marks of entries and trees ===== -/
def eml (m : Int32) (g : Nat → Int32) : Nat → Int32
  | 0 => 1
  | k + 1 => mx m (eml m g k) (g k)
/-- an entry's mark out of the cells -/
def EM (f : Nat → Int32) (r i : Nat) : Int32 := eml (f 1) (fun k => f (444 + 8 * (48 * r + i) + k)) (f (252 + (48 * r + i))).toInt.toNat
theorem v_entryMark_L (n : Nat) (σ : ms_T) (a : Nat) (ha : a < 192) (aI : Int32) (haI : aI.toInt = (a : Int)) (h0 : 0 ≤ (ms_E σ 40 (252 + a)).toInt) (h8 : (ms_E σ 40 (252 + a)).toInt ≤ 8) : ∀ (d k : Nat) (kI hI : Int32), kI.toInt = (k : Int) → k ≤ (ms_E σ 40 (252 + a)).toInt.toNat → hI = eml (ms_E σ 40 1) (fun k => ms_E σ 40 (444 + 8 * a + k)) k → pr (f_X12_entryMark_L13 n σ d hI aI kI) (fun r => r = eml (ms_E σ 40 1) (fun k => ms_E σ 40 (444 + 8 * a + k)) (ms_E σ 40 (252 + a)).toInt.toNat) := by
  intro d
  induction d with
  | zero => intro k kI hI h1 h2 h3; rw [f_X12_entryMark_L13.eq_1]; exact pr_0
  | succ d ih =>
    intro k kI hI h1 h2 h3
    have L252 : (252 : Int32).toInt = 252 := by decide
    have L444 : (444 : Int32).toInt = 444 := by decide
    have L8 := t_8
    have e1 : ((252 : Int32) + aI).toInt = ((252 + a : Nat) : Int) := by rw [ii_add (by omega) (by omega), L252, haI]; omega
    have e2 : ((8 : Int32) * aI).toInt = ((8 * a : Nat) : Int) := by rw [ii_mul (by rw [L8]; omega) (by rw [L8]; omega), L8, haI]; omega
    have e3 : ((444 : Int32) + (8 : Int32) * aI).toInt = ((444 + 8 * a : Nat) : Int) := by rw [ii_add (by omega) (by omega), L444, e2]; omega
    rw [f_X12_entryMark_L13.eq_2, cl_n e1]
    refine pr_g (fun _ _ => pr_le (fun e => pr_s ?_) (fun e => pr_g (fun g0 g1 => ?_)))
    · rw [h3, show (ms_E σ 40 (252 + a)).toInt.toNat = k by omega]
    · have hk8 : (((444 : Int32) + (8 : Int32) * aI) + kI).toInt = ((444 + 8 * a + k : Nat) : Int) := by
        have hkb := ib_hi (ms_E σ 40 (252 + a))
        rw [ii_add (by omega) (by omega), e3, h1]; omega
      rw [cl_n hk8]
      refine pr_b (v_mixed n σ hI _) (fun r hr => pr_l (ih (k + 1) _ r ?_ (by omega) ?_))
      · have hkb := ib_hi (ms_E σ 40 (252 + a))
        rw [ii_add (by rw [lt1]; omega) (by rw [lt1]; omega), h1, lt1]; omega
      · rw [hr, h3, eml]
theorem v_entryMark (n : Nat) (σ : ms_T) (r i : Nat) (hr : r < 4) (hi : i < 48) (rI iI : Int32) (hrI : rI.toInt = (r : Int)) (hiI : iI.toInt = (i : Int)) (h0 : 0 ≤ (ms_E σ 40 (252 + (48 * r + i))).toInt) (h8 : (ms_E σ 40 (252 + (48 * r + i))).toInt ≤ 8) : pr (f_X12_entryMark n σ rI iI) (fun v => v = EM (ms_E σ 40) r i) := by
  have L48 := t_48
  have e0 : ((48 : Int32) * rI).toInt = ((48 * r : Nat) : Int) := by rw [ii_mul (by rw [L48]; omega) (by rw [L48]; omega), L48, hrI]; omega
  have e1 : ((48 : Int32) * rI + iI).toInt = ((48 * r + i : Nat) : Int) := by rw [ii_add (by omega) (by omega), e0, hiI]; omega
  unfold f_X12_entryMark EM
  exact pr_l (v_entryMark_L n σ (48 * r + i) (by omega) _ e1 h0 h8 n 0 0 1 rfl (Nat.zero_le _) rfl)
/-- the marks of a record's entries -/
def EL (f : Nat → Int32) (r : Nat) : List Int32 := (List.range (f (72 + r)).toInt.toNat).map (fun i => EM f r i)
theorem EL_len (f : Nat → Int32) (r : Nat) : (EL f r).length = (f (72 + r)).toInt.toNat := by unfold EL; simp
theorem EL_get (f : Nat → Int32) (r i : Nat) (h : i < (f (72 + r)).toInt.toNat) : (EL f r)[i]? = some (EM f r i) := by
  unfold EL
  rw [List.getElem?_map, List.getElem?_range h]
  rfl
theorem v_treeMark (n : Nat) (σ : ms_T) (hC : rC (ms_E σ 40)) (r : Nat) (hr : r < 4) (rI : Int32) (hrI : rI.toInt = (r : Int)) : ∀ (d e f k : Nat) (fI kI : Int32), fI.toInt = (f : Int) → kI.toInt = (k : Int) → 1 ≤ k → k ≤ 2 ^ e → f + k ≤ (EL (ms_E σ 40) r).length → (EL (ms_E σ 40) r).length ≤ 48 → pr (f_X12_treeMark n d σ rI fI kI) (fun v => v = TR (bt (ms_E σ 40 1)) e (((EL (ms_E σ 40) r).drop f).take k)) := by
  intro d
  induction d with
  | zero => intro e f k fI kI hf hk h1 he hl h48; rw [f_X12_treeMark.eq_1]; exact pr_0
  | succ d ih =>
    intro e f k fI kI hf hk h1 he hl h48
    have hlen : (((EL (ms_E σ 40) r).drop f).take k).length = k := by rw [List.length_take, List.length_drop]; omega
    rw [f_X12_treeMark.eq_2]
    refine pr_e (fun e0 => by rw [e0, lt0] at hk; omega) (fun _ => pr_e (fun e1 => ?_) (fun e1 => ?_))
    · have hk1 : k = 1 := by rw [e1, lt1] at hk; omega
      have hlt : f < (ms_E σ 40 (72 + r)).toInt.toNat := by rw [EL_len] at hl; omega
      have hlong := hC.2.2.2.2.2.2.2.2 (48 * r + f) (by omega)
      refine pr_b (v_entryMark n σ r f hr (by omega) rI fI hrI hf hlong.1 hlong.2) (fun v hv => pr_s ?_)
      rw [hv, TR_1 _ _ (by omega), hk1]
      have hg := EL_get (ms_E σ 40) r f hlt
      rw [List.drop_eq_getElem_cons (by omega), List.take_succ_cons]
      rw [List.getElem?_eq_getElem (by omega)] at hg
      exact (Option.some.inj hg).symm
    · rw [lt1, hk] at e1
      have hk2 : 2 ≤ k := by omega
      cases e with
      | zero => simp at he; omega
      | succ e =>
      have hp1 := p0_lt hk2
      have hp2 := p0_le (m := k)
      have hp3 := p0_pos k
      have hp4 := p0_dn hk2 he
      rw [TR, if_neg (by omega), hlen]
      refine pr_b (v_part0 n kI (by omega)) (fun p hp => ?_)
      rw [hk, Int.toNat_natCast] at hp
      refine pr_b (ih e f (p0 k) fI p hf hp hp3 hp4 (by omega) h48) (fun v1 hv1 => pr_b (ih e (f + p0 k) (k - p0 k) (fI + p) (kI - p) (by rw [ii_add (by omega) (by omega)]; omega) (by rw [ii_sub (by omega) (by omega)]; omega) (by omega) (by omega) (by omega) h48) (fun v2 hv2 => pr_b (v_both n σ v1 v2) (fun v hv => pr_s ?_)))
      rw [hv, hv1, hv2]
      congr 2
      · rw [List.take_take]; congr 1; omega
      · rw [List.drop_take, List.drop_drop]
/-! ===== words of the class ===== -/
def WD (α : hp_T) (a : Nat) (l : List Int32) : Prop := l.length ≤ 8 ∧ (hp_I α 501 a).toInt = (l.length : Int) ∧ (∀ k, k < l.length → some (hp_E α 27 (hp_R α 500 a) k) = l[k]?) ∧ ∀ x ∈ l, 0 ≤ x.toInt ∧ x.toInt ≤ 127
/-- only a word's own cells change -/
def df (a : Nat) (α β : hp_T) : Prop := hp_R β = hp_R α ∧ hp_K β = hp_K α ∧ hp_Q β = hp_Q α ∧ hp_N β = hp_N α ∧ (∀ φ b, ¬ (b = a ∧ φ = 501) → hp_I β φ b = hp_I α φ b) ∧ ∀ κ b j, ¬ (κ = 27 ∧ b = hp_R α 500 a) → hp_E β κ b j = hp_E α κ b j
theorem df_tr {a : Nat} {α β γ : hp_T} (h : df a α β) (g : df a β γ) : df a α γ := by
  obtain ⟨h1, h2, h3, h4, h5, h6⟩ := h
  obtain ⟨g1, g2, g3, g4, g5, g6⟩ := g
  rw [h1] at g6
  exact ⟨g1.trans h1, g2.trans h2, g3.trans h3, g4.trans h4, fun φ b q => (g5 φ b q).trans (h5 φ b q), fun κ b j q => (g6 κ b j q).trans (h6 κ b j q)⟩
theorem df_sI {a : Nat} {α : hp_T} {v : Int32} : df a α (hp_sI α 501 a v) :=
  ⟨rfl, rfl, rfl, rfl, fun ψ b q => by rw [hI_sI, if_neg (fun (e : ψ = 501 ∧ b = a) => q ⟨e.2, e.1⟩)], fun _ _ _ _ => rfl⟩
theorem df_sE {a j : Nat} {α : hp_T} {v : Int32} : df a α (hp_sE α 27 (hp_R α 500 a) j v) :=
  ⟨rfl, rfl, rfl, rfl, fun _ _ _ => rfl, fun κ b i q => by rw [hE_sE, if_neg (fun e => q ⟨e.1, e.2.1⟩)]⟩
theorem WD_df {α β : hp_T} {a b : Nat} {l : List Int32} (h : WD α a l) (f : df b α β) (hab : a ≠ b) (hr : hp_R α 500 a ≠ hp_R α 500 b) : WD β a l := by
  obtain ⟨f1, -, -, -, f5, f6⟩ := f
  refine ⟨h.1, by rw [f5 501 a (fun q => hab q.1)]; exact h.2.1, fun k hk => ?_, h.2.2.2⟩
  rw [f1, f6 27 _ _ (fun q => hr q.2)]
  exact h.2.2.1 k hk
theorem byte_id {v : Int32} (h0 : 0 ≤ v.toInt) (h1 : v.toInt ≤ 127) : v.toInt8.toInt32 = v := by
  rw [← Int32.toInt_inj, Int8.toInt_toInt32, Int32.toInt_toInt8]
  exact Int.bmod_eq_of_le (by omega) (by omega)
theorem k_letterAt (n : Nat) {α : hp_T} {a : Nat} {l : List Int32} (h : WD α a l) (k : Nat) (kI : Int32) (hk : kI.toInt = (k : Int)) (hl : k < l.length) : ws (f_X9_letterAt n α a kI) (fun r => r = l[k]) := by
  have L8 := t_8
  obtain ⟨h1, h2, h3, -⟩ := h
  unfold f_X9_letterAt
  refine ws_lt (fun e => by rw [lt0] at e; omega) (fun _ => ws_l (ws_le (fun e => by omega) (fun _ => ws_l (ws_le (fun e => by omega) (fun _ => ws_l (ws_g (by omega) (by omega) (ws_s ?_)))))))
  rw [cl_n hk]
  have := h3 k hl
  rw [List.getElem?_eq_getElem hl] at this
  exact Option.some.inj this
theorem k_wput (n : Nat) {α : hp_T} {a : Nat} {l : List Int32} (h : WD α a l) (hl : l.length < 8) (v : Int32) (hv0 : 0 ≤ v.toInt) (hv1 : v.toInt ≤ 127) : ws (f_X9_put n α a v) (fun β => WD β a (l ++ [v]) ∧ df a α β) := by
  have L8 := t_8
  obtain ⟨h1, h2, h3, h4⟩ := h
  unfold f_X9_put
  refine ws_l (ws_lt (fun e => by rw [lt0] at e; omega) (fun _ => ws_l (ws_l (ws_le (fun e => by omega) (fun _ => ws_l (ws_l (ws_g (by omega) (by omega) (ws_l (ws_l (ws_l (ws_s ⟨⟨?_, ?_, fun k hk => ?_, fun x hx => ?_⟩, df_tr df_sE df_sI⟩)))))))))))
  · rw [List.length_append]; simp; omega
  · rw [hI_sI, if_pos ⟨rfl, rfl⟩, hI_sE, ii_add (by rw [lt1]; omega) (by rw [lt1]; omega), h2, lt1, List.length_append]; rfl
  · rw [List.length_append] at hk
    simp only [hR_sI, hR_sE, hE_sI]
    rw [hE_sE, cl_n h2, byte_id hv0 hv1, byte_id hv0 hv1]
    by_cases hkl : k = l.length
    · rw [if_pos ⟨rfl, rfl, hkl⟩, hkl]; simp
    · rw [if_neg (fun e => hkl e.2.2), List.getElem?_append_left (by simp at hk; omega)]
      exact h3 k (by simp at hk; omega)
  · rcases List.mem_append.mp hx with hx | hx
    · exact h4 x hx
    · rw [List.mem_singleton.mp hx]; exact ⟨hv0, hv1⟩
theorem k_wclear (n : Nat) (α : hp_T) (a : Nat) : ws (f_X9_clear n α a) (fun β => WD β a [] ∧ df a α β) := by
  unfold f_X9_clear
  refine ws_l (ws_s ⟨⟨by simp, ?_, fun k hk => by simp at hk, fun x hx => by cases hx⟩, df_sI⟩)
  rw [hI_sI, if_pos ⟨rfl, rfl⟩]; rfl
theorem k_copy_L (n : Nat) (a b : Nat) (α : hp_T) (l : List Int32) (hab : b ≠ a) (hr : hp_R α 500 b ≠ hp_R α 500 a) : ∀ (d k : Nat) (β : hp_T) (kI : Int32), WD β b l → WD β a (l.take k) → df a α β → kI.toInt = (k : Int) → k ≤ l.length → 9 - k ≤ d → ws (f_X9_copy_L6 n a d β b kI) (fun γ => WD γ a l ∧ df a α γ) := by
  intro d
  induction d with
  | zero => intro k β kI hb ha hf hk hl hd; have := hb.1; omega
  | succ d ih =>
    intro k β kI hb ha hf hk hl hd
    have h8 := hb.1
    rw [f_X9_copy_L6.eq_2]
    refine ws_l (ws_le (fun e => ws_s ⟨?_, hf⟩) (fun e => ?_))
    · rw [hb.2.1] at e
      rw [List.take_of_length_le (by omega)] at ha
      exact ha
    · rw [hb.2.1] at e
      have hkl : k < l.length := by omega
      refine ws_b (k_letterAt n hb k kI hk hkl) (fun v hv => ?_)
      have hm := hb.2.2.2 l[k] (List.getElem_mem hkl)
      rw [← hv] at hm
      refine ws_b (k_wput n ha (by rw [List.length_take]; omega) v hm.1 hm.2) (fun γ hγ => ws_l (ih (k + 1) γ _ (WD_df hb hγ.2 hab (by rw [hf.1]; exact hr)) ?_ (df_tr hf hγ.2) ?_ (by omega) (by omega)))
      · rw [List.take_succ_eq_append_getElem hkl, ← hv]; exact hγ.1
      · rw [ii_add (by rw [lt1]; omega) (by rw [lt1]; omega), hk, lt1]; omega
theorem k_copy (n : Nat) (hn : 70000 ≤ n) (a b : Nat) (α : hp_T) (l : List Int32) (h : WD α b l) (hab : b ≠ a) (hr : hp_R α 500 b ≠ hp_R α 500 a) : ws (f_X9_copy n α a b) (fun γ => WD γ a l ∧ df a α γ) := by
  unfold f_X9_copy
  refine ws_b (k_wclear n α a) (fun β hβ => k_copy_L n a b α l hab hr n 0 β 0 (WD_df h hβ.2 hab hr) (by rw [List.take_zero]; exact hβ.1) hβ.2 rfl (Nat.zero_le _) (by omega))
theorem k_markBy (n : Nat) (hn : 70000 ≤ n) {α : hp_T} {a : Nat} {l : List Int32} (h : WD α a l) (m : Int32) (hm : 0 < m.toInt) : ws (f_X9_markBy n α a m) (fun r => r = eml m (fun k => l.getD k 0) l.length) := by
  have hL : ∀ (d k : Nat) (kI hI : Int32), kI.toInt = (k : Int) → k ≤ l.length → hI = eml m (fun k => l.getD k 0) k → 9 - k ≤ d → ws (f_X9_markBy_L4 n α a d m hI kI) (fun r => r = eml m (fun k => l.getD k 0) l.length) := by
    intro d
    induction d with
    | zero => intro k kI hI h1 h2 h3 h4; have := h.1; omega
    | succ d ih =>
      intro k kI hI h1 h2 h3 h4
      have h8 := h.1
      rw [f_X9_markBy_L4.eq_2]
      refine ws_l (ws_le (fun e => ws_s ?_) (fun e => ?_))
      · rw [h.2.1] at e
        rw [h3, show k = l.length by omega]
      · rw [h.2.1] at e
        refine ws_b (k_letterAt n h k kI h1 (by omega)) (fun v hv => ws_b (k_mixed n m hI v hm) (fun r hr => ws_l (ih (k + 1) _ r ?_ (by omega) ?_ (by omega))))
        · rw [ii_add (by rw [lt1]; omega) (by rw [lt1]; omega), h1, lt1]; omega
        · rw [hr, h3, hv, eml]
          congr 1
          rw [List.getD_eq_getElem?_getD, List.getElem?_eq_getElem (by omega)]
          rfl
  unfold f_X9_markBy
  exact hL n 0 0 1 rfl (Nat.zero_le _) rfl (by omega)
/-! ===== worlds: where their things lie, and how they stand to the reference's cells ===== -/
def lpA (w r : Nat) : Nat := w + 11 + 99 * r
def wdA (w r i : Nat) : Nat := w + 14 + 99 * r + 2 * i
def fzA (w i : Nat) : Nat := w + 407 + 3 * i
def wtA (w i : Nat) : Nat := w + 455 + i
def SHW (α : hp_T) (w : Nat) : Prop := hp_R α 551 w = w + 1 ∧ hp_R α 553 w = w + 2 ∧ hp_R α 555 w = w + 3 ∧ hp_R α 557 w = w + 4 ∧ hp_R α 558 w = w + 5 ∧ hp_R α 559 w = w + 7 ∧ (∀ r, r < 4 → hp_Q α 30 (w + 1) r = some (lpA w r)) ∧ (∀ i, i < 16 → hp_Q α 31 (w + 2) i = some (fzA w i)) ∧ (∀ i, i < 4 → hp_Q α 32 (w + 3) i = some (wtA w i)) ∧ hp_R α 300 (w + 5) = w + 6 ∧ (hp_R α 450 (w + 7) = w + 8 ∧ hp_R α 451 (w + 7) = w + 9 ∧ hp_R α 452 (w + 7) = w + 10) ∧ (∀ r, r < 4 → hp_R α 150 (lpA w r) = lpA w r + 1 ∧ hp_R α 151 (lpA w r) = lpA w r + 2 ∧ ∀ i, i < 48 → hp_Q α 28 (lpA w r + 1) i = some (wdA w r i) ∧ hp_R α 500 (wdA w r i) = wdA w r i + 1) ∧ ∀ i, i < 16 → hp_R α 104 (fzA w i) = fzA w i + 1 ∧ hp_R α 300 (fzA w i + 1) = fzA w i + 2
theorem SHW_e {α β : hp_T} {w : Nat} (h : SHW α w) (eR : hp_R β = hp_R α) (eQ : hp_Q β = hp_Q α) : SHW β w := by
  unfold SHW at h ⊢
  rw [eR, eQ]
  exact h
/-- the letters of an entry -/
def ltr (f : Nat → Int32) (r i : Nat) : List Int32 := (List.range (f (252 + (48 * r + i))).toInt.toNat).map (fun k => f (444 + 8 * (48 * r + i) + k))
theorem ltr_len (f : Nat → Int32) (r i : Nat) : (ltr f r i).length = (f (252 + (48 * r + i))).toInt.toNat := by unfold ltr; simp
theorem ltr_get (f : Nat → Int32) (r i k : Nat) (h : k < (f (252 + (48 * r + i))).toInt.toNat) : (ltr f r i)[k]? = some (f (444 + 8 * (48 * r + i) + k)) := by
  unfold ltr
  rw [List.getElem?_map, List.getElem?_range h]
  rfl
theorem eml_c (m : Int32) {g h : Nat → Int32} : ∀ k, (∀ j, j < k → g j = h j) → eml m g k = eml m h k := by
  intro k
  induction k with
  | zero => intro _; rfl
  | succ k ih => intro e; rw [eml, eml, ih (fun j hj => e j (by omega)), e k (by omega)]
theorem EM_l (f : Nat → Int32) (r i : Nat) : EM f r i = eml (f 1) (fun k => (ltr f r i).getD k 0) (ltr f r i).length := by
  unfold EM
  rw [ltr_len]
  refine eml_c _ _ (fun j hj => ?_)
  rw [List.getD_eq_getElem?_getD, ltr_get f r i j hj]
  rfl
def EN (α : hp_T) (w : Nat) (f : Nat → Int32) (r i : Nat) : Prop := WD α (wdA w r i) (ltr f r i) ∧ hp_E α 29 (lpA w r + 2) i = EM f r i
/-- how many peaks so many things have -/
def pkn (n : Nat) : Nat := n / 32 % 2 + n / 16 % 2 + n / 8 % 2 + n / 4 % 2 + n / 2 % 2 + n % 2
/-- whether rows of peaks are told, too -/
def rwP : Prop := False
def pdP : Prop := False
def flP : Prop := False
def FZN (α : hp_T) (w : Nat) (f : Nat → Int32) (i : Nat) : Prop := hp_I α 100 (fzA w i) = f (92 + 10 * i) ∧ hp_I α 101 (fzA w i) = f (93 + 10 * i) ∧ hp_I α 102 (fzA w i) = f (94 + 10 * i) ∧ hp_I α 103 (fzA w i) = f (95 + 10 * i) ∧ (rwP → (hp_I α 301 (fzA w i + 1)).toInt = (pkn (f (93 + 10 * i)).toInt.toNat : Int)) ∧ ∀ k, k < pkn (f (93 + 10 * i)).toInt.toNat → rwP → hp_E α 20 (fzA w i + 2) k = f (96 + 10 * i + k)
def WTN (α : hp_T) (w : Nat) (f : Nat → Int32) (i : Nat) : Prop := hp_I α 400 (wtA w i) = f (76 + 4 * i) ∧ hp_I α 401 (wtA w i) = f (77 + 4 * i) ∧ hp_I α 403 (wtA w i) = f (78 + 4 * i) ∧ hp_I α 402 (wtA w i) = f (79 + 4 * i)
def WR (α : hp_T) (w : Nat) (f : Nat → Int32) : Prop := SHW α w ∧ (hp_I α 550 w = f 1 ∧ hp_I α 552 w = f 0 ∧ hp_I α 554 w = f 3 ∧ hp_I α 556 w = f 4) ∧ (∀ r, r < (f 0).toInt.toNat → hp_I α 152 (lpA w r) = f (72 + r) ∧ ∀ i, i < (f (72 + r)).toInt.toNat → EN α w f r i) ∧ (∀ i, i < (f 3).toInt.toNat → FZN α w f i) ∧ (∀ i, i < 4 → WTN α w f i) ∧ ∀ i, i < 16 → 0 ≤ (hp_I α 301 (fzA w i + 1)).toInt ∧ (hp_I α 301 (fzA w i + 1)).toInt ≤ 64
theorem WR_LM {α : hp_T} {w : Nat} {f : Nat → Int32} (h : WR α w f) (hC : rC f) {r : Nat} (hr : r < (f 0).toInt.toNat) : LM α (lpA w r) (EL f r) := by
  have h4 := hC.1.2
  have hs := hC.2.2.2.2.1 r (by omega)
  refine ⟨by rw [EL_len]; omega, by rw [(h.2.2.1 r hr).1, EL_len]; omega, fun j hj => ?_⟩
  rw [EL_len] at hj
  rw [(h.1.2.2.2.2.2.2.2.2.2.2.2.1 r (by omega)).2.1, EL_get f r j hj, ((h.2.2.1 r hr).2 j hj).2]
/-- what a change of the picture must leave for a world to stay as it is -/
theorem WR_f {α β : hp_T} {w : Nat} {f : Nat → Int32} (h : WR α w f) (hC : rC f) (eR : hp_R β = hp_R α) (eQ : hp_Q β = hp_Q α) (eI : ∀ φ b, w ≤ b → b < w + 459 → (φ = 550 ∨ φ = 552 ∨ φ = 554 ∨ φ = 556 ∨ φ = 152 ∨ φ = 501 ∨ (100 ≤ φ ∧ φ ≤ 103) ∨ φ = 301 ∨ (400 ≤ φ ∧ φ ≤ 403)) → hp_I β φ b = hp_I α φ b) (eE : ∀ κ b j, w ≤ b → b < w + 459 → (κ = 27 ∨ κ = 29 ∨ (κ = 20 ∧ w + 407 ≤ b)) → hp_E β κ b j = hp_E α κ b j) : WR β w f := by
  have h4 := hC.1.2
  have h16 := hC.2.2.2.1.2
  obtain ⟨h1, h2, h3, hF, hW, hX⟩ := h
  refine ⟨SHW_e h1 eR eQ, ⟨?_, ?_, ?_, ?_⟩, fun r hr => ?_, fun i hi => ?_, fun i hi => ?_, fun i hi => by rw [eI 301 _ (by unfold fzA; omega) (by unfold fzA; omega) (by decide)]; exact hX i hi⟩
  · rw [eI 550 w (by omega) (by omega) (by decide)]; exact h2.1
  · rw [eI 552 w (by omega) (by omega) (by decide)]; exact h2.2.1
  · rw [eI 554 w (by omega) (by omega) (by decide)]; exact h2.2.2.1
  · rw [eI 556 w (by omega) (by omega) (by decide)]; exact h2.2.2.2
  · obtain ⟨a1, a2⟩ := h3 r hr
    have hs := hC.2.2.2.2.1 r (by omega)
    refine ⟨by rw [eI 152 _ (by unfold lpA; omega) (by unfold lpA; omega) (by decide)]; exact a1, fun i hi => ?_⟩
    obtain ⟨⟨b1, b2, b3, b4⟩, b5⟩ := a2 i hi
    have hsh := (h1.2.2.2.2.2.2.2.2.2.2.2.1 r (by omega)).2.2 i (by omega)
    refine ⟨⟨b1, by rw [eI 501 _ (by unfold wdA; omega) (by unfold wdA; omega) (by decide)]; exact b2, fun k hk => ?_, b4⟩, ?_⟩
    · rw [eR, hsh.2, eE 27 _ k (by unfold wdA; omega) (by unfold wdA; omega) (Or.inl rfl), ← hsh.2]; exact b3 k hk
    · rw [eE 29 _ i (by unfold lpA; omega) (by unfold lpA; omega) (Or.inr (Or.inl rfl))]; exact b5
  · obtain ⟨b1, b2, b3, b4, b5, b6⟩ := hF i hi
    refine ⟨?_, ?_, ?_, ?_, ?_, fun k hk => ?_⟩
    · rw [eI 100 _ (by unfold fzA; omega) (by unfold fzA; omega) (by decide)]; exact b1
    · rw [eI 101 _ (by unfold fzA; omega) (by unfold fzA; omega) (by decide)]; exact b2
    · rw [eI 102 _ (by unfold fzA; omega) (by unfold fzA; omega) (by decide)]; exact b3
    · rw [eI 103 _ (by unfold fzA; omega) (by unfold fzA; omega) (by decide)]; exact b4
    · rw [eI 301 _ (by unfold fzA; omega) (by unfold fzA; omega) (by decide)]; exact b5
    · rw [eE 20 _ k (by unfold fzA; omega) (by unfold fzA; omega) (Or.inr (Or.inr ⟨rfl, by unfold fzA; omega⟩))]; exact b6 k hk
  · obtain ⟨b1, b2, b3, b4⟩ := hW i hi
    refine ⟨?_, ?_, ?_, ?_⟩
    · rw [eI 400 _ (by unfold wtA; omega) (by unfold wtA; omega) (by decide)]; exact b1
    · rw [eI 401 _ (by unfold wtA; omega) (by unfold wtA; omega) (by decide)]; exact b2
    · rw [eI 403 _ (by unfold wtA; omega) (by unfold wtA; omega) (by decide)]; exact b3
    · rw [eI 402 _ (by unfold wtA; omega) (by unfold wtA; omega) (by decide)]; exact b4
/-! ===== a word is added ===== -/
theorem k_putWord (n : Nat) (hn : 70000 ≤ n) (α : hp_T) (w : Nat) (hS : SHW α w) (r s : Nat) (hr : r < 4) (hs : s < 48) (hl : (hp_I α 152 (lpA w r)).toInt = (s : Int)) (a : Nat) (l : List Int32) (ha : WD α a l) (h1 : a ≠ wdA w r s) (h2 : hp_R α 500 a ≠ wdA w r s + 1) (m : Int32) (hm : 0 < m.toInt) : ws (f_X2_putWord n α (lpA w r) a m) (fun β => hp_R β = hp_R α ∧ hp_K β = hp_K α ∧ hp_Q β = hp_Q α ∧ hp_N β = hp_N α ∧ WD β (wdA w r s) l ∧ hp_I β 152 (lpA w r) = hp_I α 152 (lpA w r) + 1 ∧ hp_E β 29 (lpA w r + 2) s = eml m (fun k => l.getD k 0) l.length ∧ (∀ φ b, ¬ (φ = 501 ∧ b = wdA w r s) → ¬ (φ = 152 ∧ b = lpA w r) → hp_I β φ b = hp_I α φ b) ∧ ∀ κ b j, ¬ (κ = 27 ∧ b = wdA w r s + 1) → ¬ (κ = 29 ∧ b = lpA w r + 2 ∧ j = s) → hp_E β κ b j = hp_E α κ b j) := by
  have L48 := t_48
  obtain ⟨g1, g2, g3⟩ := hS.2.2.2.2.2.2.2.2.2.2.2.1 r hr
  obtain ⟨g4, g5⟩ := g3 s hs
  unfold f_X2_putWord
  refine ws_l (ws_lt (fun e => by rw [lt0] at e; omega) (fun _ => ws_l (ws_l (ws_le (fun e => by omega) (fun _ => ws_l (ws_l (ws_le (fun e => by omega) (fun _ => ws_l (ws_l (ws_g (by omega) (by omega) ?_))))))))))
  rw [g1, cl_n hl, g4]
  show ws (ms_l _ _) _
  refine ws_l (ws_l (ws_g (by omega) (by omega) ?_))
  rw [cl_n hl, g4]
  show ws (ms_b _ _) _
  refine ws_b (k_copy n hn (wdA w r s) a α l ha h1 (by rw [g5]; exact h2)) (fun β hβ => ?_)
  obtain ⟨b1, b2⟩ := hβ
  have hI : hp_I β 152 (lpA w r) = hp_I α 152 (lpA w r) := b2.2.2.2.2.1 152 _ (fun q => absurd q.2 (by decide))
  have hb : WD β a l := WD_df ha b2 h1 (by rw [g5]; exact h2)
  refine ws_l (ws_l (ws_b (k_markBy n hn hb m hm) (fun v hv => ?_)))
  rw [hI]
  refine ws_g (by omega) (by omega) (ws_l (ws_l (ws_l (ws_s ?_))))
  rw [b2.1, g2, cl_n hl]
  refine ⟨b2.1, b2.2.1, b2.2.2.1, b2.2.2.2.1, ⟨b1.1, ?_, fun k hk => ?_, b1.2.2.2⟩, ?_, ?_, fun φ b q1 q2 => ?_, fun κ b j q1 q2 => ?_⟩
  · rw [hI_sI, if_neg (fun q => absurd q.1 (by decide)), hI_sE]; exact b1.2.1
  · rw [hR_sI, hR_sE, hE_sI, hE_sE, if_neg (fun q => absurd q.1 (by decide))]; exact b1.2.2.1 k hk
  · rw [hI_sI, if_pos ⟨rfl, rfl⟩, hI_sE, hI]
  · rw [hE_sI, hE_sE, if_pos ⟨rfl, rfl, rfl⟩]; exact hv
  · rw [hI_sI, if_neg q2, hI_sE]
    exact b2.2.2.2.2.1 φ b (fun q => q1 ⟨q.2, q.1⟩)
  · rw [hE_sI, hE_sE, if_neg q2]
    exact b2.2.2.2.2.2 κ b j (fun q => q1 ⟨q.1, by rw [q.2, g5]⟩)
end JN9_8
section JN9_9
set_option maxRecDepth 100000
/-! ===== the reference adds a word ===== -/
/-- the word that is handed on -/
def HWD (σ : ms_T) (l : List Int32) : Prop := l.length ≤ 8 ∧ (ms_I σ 665).toInt = (l.length : Int) ∧ ∀ k, k < l.length → some (ms_E σ 46 k) = l[k]?
/-- the cells with one entry more -/
def adF (f : Nat → Int32) (r s : Nat) (l : List Int32) (g : Nat → Int32) : Prop := (g (252 + (48 * r + s))).toInt = (l.length : Int) ∧ (∀ k, k < l.length → some (g (444 + 8 * (48 * r + s) + k)) = l[k]?) ∧ g (72 + r) = f (72 + r) + 1 ∧ g 4 = f 4 + 1 ∧ ∀ j, j ≠ 252 + (48 * r + s) → ¬ (444 + 8 * (48 * r + s) ≤ j ∧ j < 444 + 8 * (48 * r + s) + l.length) → j ≠ 72 + r → j ≠ 4 → g j = f j
theorem v_sizeOf (n : Nat) (σ : ms_T) (r : Nat) (hr : r < 4) (rI : Int32) (hrI : rI.toInt = (r : Int)) : pr (f_X12_sizeOf n σ rI) (fun v => v = ms_E σ 40 (72 + r)) := by
  have L72 := t_72
  have e : ((72 : Int32) + rI).toInt = ((72 + r : Nat) : Int) := by rw [ii_add (by omega) (by omega), L72, hrI]; omega
  unfold f_X12_sizeOf
  rw [cl_n e]
  exact pr_g (fun _ _ => pr_s rfl)
theorem v_adds_L (n : Nat) (f : Nat → Int32) (r s : Nat) (hr : r < 4) (hs : s < 48) (l : List Int32) (rI aI : Int32) (hrI : rI.toInt = (r : Int)) (haI : aI.toInt = ((48 * r + s : Nat) : Int)) : ∀ (d k : Nat) (σ : ms_T) (kI : Int32), kI.toInt = (k : Int) → k ≤ l.length → HWD σ l → (ms_E σ 40 (252 + (48 * r + s))).toInt = (l.length : Int) → (∀ j, j < k → some (ms_E σ 40 (444 + 8 * (48 * r + s) + j)) = l[j]?) → (∀ j, j ≠ 252 + (48 * r + s) → ¬ (444 + 8 * (48 * r + s) ≤ j ∧ j < 444 + 8 * (48 * r + s) + l.length) → ms_E σ 40 j = f j) → pr (f_X12_adds_L43 n d σ rI aI kI) (fun res => res.1 = f (72 + r) + 1 - 1 ∧ adF f r s l (ms_E res.2 40) ∧ fr [] [40] σ res.2) := by
  intro d
  induction d with
  | zero => intro k σ kI h1 h2 hW hA hB hD; rw [f_X12_adds_L43.eq_1]; exact pr_0
  | succ d ih =>
    intro k σ kI h1 h2 hW hA hB hD
    have L72 := t_72
    have L444 : (444 : Int32).toInt = 444 := by decide
    have L8 := t_8
    have h8 := hW.1
    have e72 : ((72 : Int32) + rI).toInt = ((72 + r : Nat) : Int) := by rw [ii_add (by omega) (by omega), L72, hrI]; omega
    rw [f_X12_adds_L43.eq_2]
    refine pr_le (fun e => ?_) (fun e => ?_)
    · rw [hW.2.1] at e
      have hk : k = l.length := by omega
      have f72 : ms_E σ 40 (72 + r) = f (72 + r) := hD _ (by omega) (by omega)
      have f4 : ms_E σ 40 4 = f 4 := hD _ (by omega) (by omega)
      refine pr_l (pr_g (fun _ _ => pr_g (fun _ _ => pr_l (pr_g (fun _ _ => pr_g (fun _ _ => pr_l ?_))))))
      rw [cl_n e72, c4]
      refine pr_b (v_sizeOf n _ r hr rI hrI) (fun v hv => pr_s ⟨?_, ⟨?_, fun j hj => ?_, ?_, ?_, fun j j1 j2 j3 j4 => ?_⟩, fr_tr (fr_sE (by decide)) (fr_sE (by decide))⟩)
      · rw [hv, mE_sE, if_neg (by omega), mE_sE, if_pos ⟨rfl, rfl⟩, f72]
      · rw [mE_sE, if_neg (by omega), mE_sE, if_neg (by omega)]; exact hA
      · rw [mE_sE, if_neg (by omega), mE_sE, if_neg (by omega)]; exact hB j (by omega)
      · rw [mE_sE, if_neg (by omega), mE_sE, if_pos ⟨rfl, rfl⟩, f72]
      · rw [mE_sE, if_pos ⟨rfl, rfl⟩, mE_sE, if_neg (by omega), f4]
      · rw [mE_sE, if_neg (by omega), mE_sE, if_neg (by omega)]; exact hD j j1 j2
    · rw [hW.2.1] at e
      have hk : k < l.length := by omega
      have e2 : ((8 : Int32) * aI).toInt = ((8 * (48 * r + s) : Nat) : Int) := by rw [ii_mul (by rw [L8]; omega) (by rw [L8]; omega), L8, haI]; omega
      have e3 : ((444 : Int32) + (8 : Int32) * aI).toInt = ((444 + 8 * (48 * r + s) : Nat) : Int) := by rw [ii_add (by omega) (by omega), L444, e2]; omega
      have e4 : (((444 : Int32) + (8 : Int32) * aI) + kI).toInt = ((444 + 8 * (48 * r + s) + k : Nat) : Int) := by rw [ii_add (by omega) (by omega), e3, h1]; omega
      rw [cl_n e4, cl_n h1]
      refine pr_g (fun _ _ => pr_g (fun _ _ => pr_l (pr_l (pr_m (ih (k + 1) _ _ ?_ (by omega) ?_ ?_ (fun j hj => ?_) (fun j j1 j2 => ?_)) (fun res hres => ⟨hres.1, hres.2.1, fr_tr (fr_sE (by decide)) hres.2.2⟩)))))
      · rw [ii_add (by rw [lt1]; omega) (by rw [lt1]; omega), h1, lt1]; omega
      · exact ⟨hW.1, hW.2.1, fun j hj => by rw [mE_sE, if_neg (fun q => absurd q.1 (by decide))]; exact hW.2.2 j hj⟩
      · rw [mE_sE, if_neg (by omega)]; exact hA
      · rw [mE_sE]
        by_cases hjk : j = k
        · rw [if_pos ⟨rfl, by omega⟩, hjk]; exact hW.2.2 k hk
        · rw [if_neg (by omega)]; exact hB j (by omega)
      · rw [mE_sE, if_neg (by omega)]; exact hD j j1 j2
theorem v_adds (n : Nat) (σ : ms_T) (hC : rC (ms_E σ 40)) (r s : Nat) (hr : r < 4) (hs : s ≤ 48) (hsz : (ms_E σ 40 (72 + r)).toInt = (s : Int)) (l : List Int32) (hW : HWD σ l) (rI : Int32) (hrI : rI.toInt = (r : Int)) : pr (f_X12_adds n σ rI) (fun res => (s = 48 → res.1 = -1 ∧ ms_E res.2 40 = ms_E σ 40 ∧ ms_I res.2 652 = 3) ∧ (s < 48 → res.1.toInt = (s : Int) ∧ adF (ms_E σ 40) r s l (ms_E res.2 40)) ∧ fr [652] [40] σ res.2) := by
  have L48 := t_48
  have L252 : (252 : Int32).toInt = 252 := by decide
  unfold f_X12_adds
  refine pr_b (v_sizeOf n σ r hr rI hrI) (fun v hv => pr_e (fun e => ?_) (fun e => ?_))
  · have h48 : s = 48 := by rw [hv] at e; rw [e, L48] at hsz; omega
    unfold f_X12_refuse
    refine pr_c (T := fun res => res.1 = -1 ∧ res.2 = ms_sI σ 652 3) (pr_l (pr_s ⟨rfl, rfl⟩)) (fun a τ hτ => pr_s ⟨fun _ => ⟨hτ.1, ?_, ?_⟩, fun h => by omega, ?_⟩)
    · have := hτ.2; dsimp only at this; rw [this]; rfl
    · have := hτ.2; dsimp only at this; rw [this, mI_sI, if_pos rfl]
    · have := hτ.2; dsimp only at this; rw [this]; exact fr_sI (by decide)
  · rw [hv, hsz, L48] at e
    have hs48 : s < 48 := by omega
    have e48 : ((48 : Int32) * rI).toInt = ((48 * r : Nat) : Int) := by rw [ii_mul (by rw [L48]; omega) (by rw [L48]; omega), L48, hrI]; omega
    refine pr_b (v_sizeOf n σ r hr rI hrI) (fun v2 hv2 => pr_l ?_)
    have ea : ((48 : Int32) * rI + v2).toInt = ((48 * r + s : Nat) : Int) := by rw [ii_add (by rw [hv2]; omega) (by rw [hv2]; omega), e48, hv2, hsz]; omega
    have e252 : ((252 : Int32) + ((48 : Int32) * rI + v2)).toInt = ((252 + (48 * r + s) : Nat) : Int) := by rw [ii_add (by omega) (by omega), L252, ea]; omega
    rw [cl_n e252]
    refine pr_g (fun _ _ => pr_l (pr_m (v_adds_L n (ms_E σ 40) r s hr hs48 l rI _ hrI ea n 0 _ 0 rfl (Nat.zero_le _) ?_ ?_ (fun j hj => by omega) (fun j j1 j2 => ?_)) (fun res hres => ⟨fun h => by omega, fun _ => ⟨?_, hres.2.1⟩, fr_tr (fr_sE (by decide)) (fr_sb hres.2.2 (by decide) (by decide))⟩)))
    · exact ⟨hW.1, hW.2.1, fun j hj => by rw [mE_sE, if_neg (fun q => absurd q.1 (by decide))]; exact hW.2.2 j hj⟩
    · rw [mE_sE, if_pos ⟨rfl, rfl⟩]; exact hW.2.1
    · rw [mE_sE, if_neg (fun q => j1 q.2)]
    · have e1 : (ms_E σ 40 (72 + r) + 1).toInt = (s : Int) + 1 := by rw [ii_add (by rw [lt1]; omega) (by rw [lt1]; omega), hsz, lt1]
      rw [hres.1, ii_sub (by rw [lt1]; omega) (by rw [lt1]; omega), e1, lt1]; omega
theorem v_hand (n : Nat) (σ : ms_T) (l : List Int32) (hl : l.length ≤ 8) (h1 : (ms_I σ 664).toInt = (l.length : Int)) (h2 : ∀ k, k < l.length → some (ms_E σ 45 k) = l[k]?) : pr (f_X12_hand n σ) (fun τ => HWD τ l ∧ fr [665] [46] σ τ) := by
  have hL : ∀ (d k : Nat) (τ : ms_T) (kI : Int32), kI.toInt = (k : Int) → k ≤ l.length → fr [665] [46] σ τ → (∀ j, j < k → some (ms_E τ 46 j) = l[j]?) → pr (f_X12_hand_L2 n d τ kI) (fun τ => HWD τ l ∧ fr [665] [46] σ τ) := by
    intro d
    induction d with
    | zero => intro k τ kI h3 h4 hf hA; rw [f_X12_hand_L2.eq_1]; exact pr_0
    | succ d ih =>
      intro k τ kI h3 h4 hf hA
      have e664 : ms_I τ 664 = ms_I σ 664 := hf.1 664 (by decide)
      rw [f_X12_hand_L2.eq_2, e664]
      refine pr_le (fun e => pr_l (pr_s ⟨⟨hl, ?_, fun k hk => ?_⟩, fr_tr hf (fr_sI (by decide))⟩)) (fun e => ?_)
      · rw [mI_sI, if_pos rfl]; exact h1
      · exact hA k (by omega)
      · rw [cl_n h3]
        refine pr_g (fun _ _ => pr_g (fun _ _ => pr_l (pr_l (ih (k + 1) _ _ ?_ (by omega) (fr_tr hf (fr_sE (by decide))) (fun j hj => ?_)))))
        · rw [ii_add (by rw [lt1]; omega) (by rw [lt1]; omega), h3, lt1]; omega
        · rw [mE_sE]
          by_cases hjk : j = k
          · rw [if_pos ⟨rfl, hjk⟩, hf.2 45 (by decide), hjk]; exact h2 k (by omega)
          · rw [if_neg (fun q => hjk q.2)]; exact hA j (by omega)
  unfold f_X12_hand
  exact hL n 0 σ 0 rfl (Nat.zero_le _) fr_rf (fun j hj => by omega)
/-! ===== add, side by side ===== -/
theorem ltr_c {f g : Nat → Int32} {r i : Nat} (h : g (252 + (48 * r + i)) = f (252 + (48 * r + i))) (h2 : ∀ k, k < (f (252 + (48 * r + i))).toInt.toNat → g (444 + 8 * (48 * r + i) + k) = f (444 + 8 * (48 * r + i) + k)) : ltr g r i = ltr f r i := by
  unfold ltr
  rw [h]
  refine List.map_congr_left (fun k hk => h2 k (List.mem_range.mp hk))
theorem EM_c {f g : Nat → Int32} {r i : Nat} (h1 : g 1 = f 1) (h : g (252 + (48 * r + i)) = f (252 + (48 * r + i))) (h2 : ∀ k, k < (f (252 + (48 * r + i))).toInt.toNat → g (444 + 8 * (48 * r + i) + k) = f (444 + 8 * (48 * r + i) + k)) : EM g r i = EM f r i := by
  unfold EM
  rw [h1, h]
  exact eml_c _ _ h2
theorem ltr_l {g : Nat → Int32} {r i : Nat} {l : List Int32} (h : (g (252 + (48 * r + i))).toInt = (l.length : Int)) (h2 : ∀ k, k < l.length → some (g (444 + 8 * (48 * r + i) + k)) = l[k]?) : ltr g r i = l := by
  refine List.ext_getElem? (fun k => ?_)
  by_cases hk : k < l.length
  · rw [ltr_get g r i k (by omega), h2 k hk]
  · rw [List.getElem?_eq_none (by rw [ltr_len]; omega), List.getElem?_eq_none (by omega)]
theorem WR_add {α β : hp_T} {w : Nat} {f g : Nat → Int32} (h : WR α w f) (hC : rC f) {r s : Nat} (hr : r < (f 0).toInt.toNat) (hs : s < 48) (hsz : (f (72 + r)).toInt = (s : Int)) {l : List Int32} (ha : adF f r s l g) (hl8 : l.length ≤ 8) (bR : hp_R β = hp_R α) (bQ : hp_Q β = hp_Q α) (bW : WD β (wdA w r s) l) (b152 : hp_I β 152 (lpA w r) = hp_I α 152 (lpA w r) + 1) (bE : hp_E β 29 (lpA w r + 2) s = eml (f 1) (fun k => l.getD k 0) l.length) (b556 : hp_I β 556 w = hp_I α 556 w + 1) (bI : ∀ φ b, ¬ (φ = 501 ∧ b = wdA w r s) → ¬ (φ = 152 ∧ b = lpA w r) → ¬ (φ = 556 ∧ b = w) → hp_I β φ b = hp_I α φ b) (bX : ∀ κ b j, ¬ (κ = 27 ∧ b = wdA w r s + 1) → ¬ (κ = 29 ∧ b = lpA w r + 2 ∧ j = s) → hp_E β κ b j = hp_E α κ b j) : WR β w g := by
  have h4 := hC.1.2
  have h16 := hC.2.2.2.1.2
  obtain ⟨h1, h2, h3, hF, hW, hX⟩ := h
  obtain ⟨a1, a2, a3, a4, a5⟩ := ha
  have g1 : g 1 = f 1 := a5 1 (by omega) (by omega) (by omega) (by omega)
  have g0 : g 0 = f 0 := a5 0 (by omega) (by omega) (by omega) (by omega)
  have g3 : g 3 = f 3 := a5 3 (by omega) (by omega) (by omega) (by omega)
  have lg := ltr_l a1 a2
  refine ⟨SHW_e h1 bR bQ, ⟨?_, ?_, ?_, ?_⟩, fun r' hr' => ?_, fun i hi => ?_, fun i hi => ?_, fun i hi => by rw [bI 301 _ (by omega) (by omega) (by omega)]; exact hX i hi⟩
  · rw [bI 550 w (by omega) (by omega) (by omega), g1]; exact h2.1
  · rw [bI 552 w (by omega) (by omega) (by omega), g0]; exact h2.2.1
  · rw [bI 554 w (by omega) (by omega) (by omega), g3]; exact h2.2.2.1
  · rw [b556, a4, h2.2.2.2]
  · rw [g0] at hr'
    obtain ⟨c1, c2⟩ := h3 r' hr'
    have hs' := hC.2.2.2.2.1 r' (by omega)
    have old : ∀ i, i < (f (72 + r')).toInt.toNat → EN β w g r' i := by
      intro i hi
      obtain ⟨⟨d1, d2, d3, d4⟩, d5⟩ := c2 i hi
      have hne : 48 * r' + i ≠ 48 * r + s := by
        intro e
        have : r' = r := by omega
        subst this
        omega
      have hlen := hC.2.2.2.2.2.2.2.2 (48 * r' + i) (by omega)
      have e1 : g (252 + (48 * r' + i)) = f (252 + (48 * r' + i)) := a5 _ (by omega) (by omega) (by omega) (by omega)
      have e2 : ∀ k, k < (f (252 + (48 * r' + i))).toInt.toNat → g (444 + 8 * (48 * r' + i) + k) = f (444 + 8 * (48 * r' + i) + k) := fun k hk => a5 _ (by omega) (by omega) (by omega) (by omega)
      have hsh := (h1.2.2.2.2.2.2.2.2.2.2.2.1 r' (by omega)).2.2 i (by omega)
      have hwd : wdA w r' i ≠ wdA w r s := by unfold wdA; omega
      refine ⟨?_, ?_⟩
      · rw [ltr_c e1 e2]
        refine ⟨d1, by rw [bI 501 _ (fun q => hwd q.2) (by omega) (by omega)]; exact d2, fun k hk => ?_, d4⟩
        rw [bR, hsh.2, bX 27 _ k (fun q => by unfold wdA at q; omega) (fun q => absurd q.1 (by decide)), ← hsh.2]
        exact d3 k hk
      · rw [EM_c g1 e1 e2, bX 29 _ i (fun q => absurd q.1 (by decide)) (fun q => by unfold lpA at q; omega)]
        exact d5
    by_cases hrr : r' = r
    · subst hrr
      refine ⟨by rw [b152, a3, c1], fun i hi => ?_⟩
      rw [a3, ii_add (by rw [lt1]; omega) (by rw [lt1]; omega), hsz, lt1] at hi
      by_cases his : i = s
      · subst his
        refine ⟨by rw [lg]; exact bW, ?_⟩
        rw [bE, EM_l, lg, g1]
      · exact old i (by omega)
    · have e72 : g (72 + r') = f (72 + r') := a5 _ (by omega) (by omega) (by omega) (by omega)
      refine ⟨by rw [bI 152 _ (by omega) (fun q => by unfold lpA at q; omega) (by omega), e72]; exact c1, fun i hi => ?_⟩
      rw [e72] at hi
      exact old i hi
  · rw [g3] at hi
    obtain ⟨b1, b2, b3, b4, b5, b6⟩ := hF i hi
    have e : ∀ k, k < 10 → g (92 + 10 * i + k) = f (92 + 10 * i + k) := fun k hk => a5 _ (by omega) (by omega) (by omega) (by omega)
    have e93 : g (93 + 10 * i) = f (93 + 10 * i) := by have := e 1 (by omega); rw [show 92 + 10 * i + 1 = 93 + 10 * i by omega] at this; exact this
    have hp : pkn (f (93 + 10 * i)).toInt.toNat ≤ 6 := by unfold pkn; omega
    refine ⟨?_, ?_, ?_, ?_, ?_, fun k hk hP => ?_⟩
    · rw [bI 100 _ (by omega) (by omega) (by omega), b1]; exact (e 0 (by omega)).symm
    · rw [bI 101 _ (by omega) (by omega) (by omega), b2, e93]
    · rw [bI 102 _ (by omega) (by omega) (by omega), b3]
      have := e 2 (by omega); rw [show 92 + 10 * i + 2 = 94 + 10 * i by omega] at this; exact this.symm
    · rw [bI 103 _ (by omega) (by omega) (by omega), b4]
      have := e 3 (by omega); rw [show 92 + 10 * i + 3 = 95 + 10 * i by omega] at this; exact this.symm
    · rw [bI 301 _ (by omega) (by omega) (by omega), e93]; exact b5
    · rw [e93] at hk
      rw [bX 20 _ k (fun q => absurd q.1 (by decide)) (fun q => absurd q.1 (by decide)), b6 k hk hP]
      have := e (4 + k) (by omega); rw [show 92 + 10 * i + (4 + k) = 96 + 10 * i + k by omega] at this; exact this.symm
  · obtain ⟨b1, b2, b3, b4⟩ := hW i hi
    have e : ∀ k, k < 4 → g (76 + 4 * i + k) = f (76 + 4 * i + k) := fun k hk => a5 _ (by omega) (by omega) (by omega) (by omega)
    refine ⟨?_, ?_, ?_, ?_⟩
    · rw [bI 400 _ (by omega) (by omega) (by omega), b1]; exact (e 0 (by omega)).symm
    · rw [bI 401 _ (by omega) (by omega) (by omega), b2]
      have := e 1 (by omega); rw [show 76 + 4 * i + 1 = 77 + 4 * i by omega] at this; exact this.symm
    · rw [bI 403 _ (by omega) (by omega) (by omega), b3]
      have := e 2 (by omega); rw [show 76 + 4 * i + 2 = 78 + 4 * i by omega] at this; exact this.symm
    · rw [bI 402 _ (by omega) (by omega) (by omega), b4]
      have := e 3 (by omega); rw [show 76 + 4 * i + 3 = 79 + 4 * i by omega] at this; exact this.symm
/-- the class adds a word to a world -/
theorem k_addWord (n : Nat) (hn : 70000 ≤ n) (α : hp_T) (w : Nat) (f : Nat → Int32) (h : WR α w f) (hC : rC f) (r s : Nat) (hr : r < (f 0).toInt.toNat) (hs : s < 48) (hsz : (f (72 + r)).toInt = (s : Int)) (a : Nat) (l : List Int32) (ha : WD α a l) (h1 : a < w ∨ w + 459 ≤ a) (h2 : hp_R α 500 a < w ∨ w + 459 ≤ hp_R α 500 a) : ws (f_X10_addWord n α w (lpA w r) a) (fun β => (∀ g, adF f r s l g → WR β w g) ∧ hp_I β 301 (w + 5) = hp_I α 301 (w + 5) ∧ hp_R β = hp_R α ∧ hp_K β = hp_K α ∧ hp_Q β = hp_Q α ∧ hp_N β = hp_N α ∧ hp_I β 152 (lpA w r) = f (72 + r) + 1 ∧ (∀ φ b, b < w ∨ w + 459 ≤ b → hp_I β φ b = hp_I α φ b) ∧ ∀ κ b j, b < w ∨ w + 459 ≤ b → hp_E β κ b j = hp_E α κ b j) := by
  have h4 := hC.1.2
  have hm := hC.2.1.1
  have e152 := (h.2.2.1 r hr).1
  unfold f_X10_addWord
  refine ws_l ?_
  rw [h.2.1.1]
  refine ws_b (k_putWord n hn α w h.1 r s (by omega) hs (by rw [e152]; exact hsz) a l ha (by unfold wdA; omega) (by unfold wdA; omega) (f 1) (by omega)) (fun β hβ => ?_)
  obtain ⟨b1, b2, b3, b4, b5, b6, b7, b8, b9⟩ := hβ
  have hw556 : hp_I β 556 w = hp_I α 556 w := b8 556 w (by omega) (by omega)
  refine ws_l (ws_l (ws_s ⟨fun g hg => ?_, by rw [hI_sI, if_neg (by omega)]; exact b8 301 _ (by omega) (by omega), b1, b2, b3, b4, ?_, fun φ b hb => ?_, fun κ b j hb => ?_⟩))
  · refine WR_add h hC hr hs hsz hg ha.1 b1 b3 ⟨b5.1, ?_, b5.2.2.1, b5.2.2.2⟩ ?_ b7 ?_ (fun φ b q1 q2 q3 => ?_) (fun κ b j q1 q2 => b9 κ b j q1 q2)
    · rw [hI_sI, if_neg (by omega)]; exact b5.2.1
    · rw [hI_sI, if_neg (by omega)]; exact b6
    · rw [hI_sI, if_pos ⟨rfl, rfl⟩, hw556]
    · rw [hI_sI, if_neg q3]; exact b8 φ b q1 q2
  · rw [hI_sI, if_neg (by omega), b6, e152]
  · rw [hI_sI, if_neg (by omega)]
    exact b8 φ b (fun q => by unfold wdA at q; omega) (fun q => by unfold lpA at q; omega)
  · rw [hE_sI]
    exact b9 κ b j (fun q => by unfold wdA at q; omega) (fun q => by unfold lpA at q; omega)
/-! ===== fork ===== -/
def foF (f : Nat → Int32) (r t n : Nat) (g : Nat → Int32) : Prop := (∀ i, i < n → g (252 + (48 * t + i)) = f (252 + (48 * r + i)) ∧ ∀ k, k < 8 → g (444 + 8 * (48 * t + i) + k) = f (444 + 8 * (48 * r + i) + k)) ∧ (g (72 + t)).toInt = (n : Int) ∧ g 0 = f 0 + 1 ∧ g 4 = f 4 + 1 ∧ ∀ j, ¬ (252 + 48 * t ≤ j ∧ j < 252 + 48 * t + 48) → ¬ (444 + 8 * (48 * t) ≤ j ∧ j < 444 + 8 * (48 * t) + 384) → j ≠ 72 + t → j ≠ 0 → j ≠ 4 → g j = f j
/-- the cells while entries are copied -/
def fp (f : Nat → Int32) (r t : Nat) (i k : Nat) (g : Nat → Int32) : Prop := (∀ a, a < i → g (252 + (48 * t + a)) = f (252 + (48 * r + a)) ∧ ∀ b, b < 8 → g (444 + 8 * (48 * t + a) + b) = f (444 + 8 * (48 * r + a) + b)) ∧ (∀ b, b < k → g (444 + 8 * (48 * t + i) + b) = f (444 + 8 * (48 * r + i) + b)) ∧ ∀ j, ¬ (252 + 48 * t ≤ j ∧ j < 252 + 48 * t + 48) → ¬ (444 + 8 * (48 * t) ≤ j ∧ j < 444 + 8 * (48 * t) + 384) → g j = f j
theorem v_forks_L82 (n : Nat) (f : Nat → Int32) (r t : Nat) (hrt : r < t) (ht : t < 4) (i : Nat) (hi : i < 48) (rI tI iI nI : Int32) (hrI : rI.toInt = (r : Int)) (htI : tI.toInt = (t : Int)) (hiI : iI.toInt = (i : Int)) (rec41 : ms_T → Int32 → Int32 → Int32 → Int32 → Option (Int32 × ms_T)) (σ0 : ms_T) (P : Int32 × ms_T → Prop) (hrec : ∀ (τ : ms_T) (jI : Int32), jI.toInt = ((i + 1 : Nat) : Int) → fp f r t (i + 1) 0 (ms_E τ 40) → fr [] [40] σ0 τ → pr (rec41 τ rI nI tI jI) P) : ∀ (d k : Nat) (σ : ms_T) (kI : Int32), kI.toInt = (k : Int) → k ≤ 8 → fp f r t i k (ms_E σ 40) → ms_E σ 40 (252 + (48 * t + i)) = f (252 + (48 * r + i)) → fr [] [40] σ0 σ → pr (f_X12_forks_L82 n rec41 d σ rI nI tI iI kI) P := by
  intro d
  induction d with
  | zero => intro k σ kI h1 h2 h3 h4 h5; rw [f_X12_forks_L82.eq_1]; exact pr_0
  | succ d ih =>
    intro k σ kI h1 h2 h3 h4 h5
    have L8 := t_8
    have L48 := t_48
    have L444 : (444 : Int32).toInt = 444 := by decide
    have er : ((48 : Int32) * rI).toInt = ((48 * r : Nat) : Int) := by rw [ii_mul (by rw [L48]; omega) (by rw [L48]; omega), L48, hrI]; omega
    have et : ((48 : Int32) * tI).toInt = ((48 * t : Nat) : Int) := by rw [ii_mul (by rw [L48]; omega) (by rw [L48]; omega), L48, htI]; omega
    have er2 : ((48 : Int32) * rI + iI).toInt = ((48 * r + i : Nat) : Int) := by rw [ii_add (by omega) (by omega), er, hiI]; omega
    have et2 : ((48 : Int32) * tI + iI).toInt = ((48 * t + i : Nat) : Int) := by rw [ii_add (by omega) (by omega), et, hiI]; omega
    have er3 : ((8 : Int32) * ((48 : Int32) * rI + iI)).toInt = ((8 * (48 * r + i) : Nat) : Int) := by rw [ii_mul (by rw [L8]; omega) (by rw [L8]; omega), L8, er2]; omega
    have et3 : ((8 : Int32) * ((48 : Int32) * tI + iI)).toInt = ((8 * (48 * t + i) : Nat) : Int) := by rw [ii_mul (by rw [L8]; omega) (by rw [L8]; omega), L8, et2]; omega
    have er4 : ((444 : Int32) + (8 : Int32) * ((48 : Int32) * rI + iI)).toInt = ((444 + 8 * (48 * r + i) : Nat) : Int) := by rw [ii_add (by omega) (by omega), L444, er3]; omega
    have et4 : ((444 : Int32) + (8 : Int32) * ((48 : Int32) * tI + iI)).toInt = ((444 + 8 * (48 * t + i) : Nat) : Int) := by rw [ii_add (by omega) (by omega), L444, et3]; omega
    rw [f_X12_forks_L82.eq_2]
    refine pr_le (fun e => pr_l (hrec σ _ ?_ ⟨fun a ha => ?_, fun b hb => by omega, h3.2.2⟩ h5)) (fun e => ?_)
    · rw [ii_add (by rw [lt1]; omega) (by rw [lt1]; omega), hiI, lt1]; omega
    · by_cases hai : a = i
      · subst hai
        exact ⟨h4, fun b hb => h3.2.1 b (by omega)⟩
      · exact h3.1 a (by omega)
    · have er5 : (((444 : Int32) + (8 : Int32) * ((48 : Int32) * rI + iI)) + kI).toInt = ((444 + 8 * (48 * r + i) + k : Nat) : Int) := by rw [ii_add (by omega) (by omega), er4, h1]; omega
      have et5 : (((444 : Int32) + (8 : Int32) * ((48 : Int32) * tI + iI)) + kI).toInt = ((444 + 8 * (48 * t + i) + k : Nat) : Int) := by rw [ii_add (by omega) (by omega), et4, h1]; omega
      rw [cl_n er5, cl_n et5]
      have hsrc : ms_E σ 40 (444 + 8 * (48 * r + i) + k) = f (444 + 8 * (48 * r + i) + k) := h3.2.2 _ (by omega) (by omega)
      refine pr_g (fun _ _ => pr_g (fun _ _ => pr_l (pr_l (ih (k + 1) _ _ ?_ (by omega) ⟨fun a ha => ⟨?_, fun b hb => ?_⟩, fun b hb => ?_, fun j j1 j2 => ?_⟩ ?_ (fr_tr h5 (fr_sE (by decide)))))))
      · rw [ii_add (by rw [lt1]; omega) (by rw [lt1]; omega), h1, lt1]; omega
      · rw [mE_sE, if_neg (by omega)]; exact (h3.1 a ha).1
      · rw [mE_sE, if_neg (by omega)]; exact (h3.1 a ha).2 b hb
      · rw [mE_sE]
        by_cases hbk : b = k
        · rw [if_pos ⟨rfl, by omega⟩, hsrc, hbk]
        · rw [if_neg (by omega)]; exact h3.2.1 b (by omega)
      · rw [mE_sE, if_neg (by omega)]; exact h3.2.2 j j1 j2
      · rw [mE_sE, if_neg (by omega)]; exact h4
theorem v_forks_L41 (n : Nat) (f : Nat → Int32) (r t N : Nat) (hrt : r < t) (ht : t < 4) (hN : N ≤ 48) (rI tI nI : Int32) (hrI : rI.toInt = (r : Int)) (htI : tI.toInt = (t : Int)) (hnI : nI.toInt = (N : Int)) (σ0 : ms_T) : ∀ (d i : Nat) (σ : ms_T) (iI : Int32), iI.toInt = (i : Int) → i ≤ N → fp f r t i 0 (ms_E σ 40) → fr [] [40] σ0 σ → pr (f_X12_forks_L41 n d σ rI nI tI iI) (fun res => res.1 = tI ∧ foF f r t N (ms_E res.2 40) ∧ fr [] [40] σ0 res.2) := by
  intro d
  induction d with
  | zero => intro i σ iI h1 h2 h3 h4; rw [f_X12_forks_L41.eq_1]; exact pr_0
  | succ d ih =>
    intro i σ iI h1 h2 h3 h4
    have L72 := t_72
    have L48 := t_48
    have L252 : (252 : Int32).toInt = 252 := by decide
    rw [f_X12_forks_L41.eq_2]
    refine pr_le (fun e => ?_) (fun e => ?_)
    · have hiN : i = N := by omega
      have e72 : ((72 : Int32) + tI).toInt = ((72 + t : Nat) : Int) := by rw [ii_add (by omega) (by omega), L72, htI]; omega
      have f0 : ms_E σ 40 0 = f 0 := h3.2.2 _ (by omega) (by omega)
      have f4 : ms_E σ 40 4 = f 4 := h3.2.2 _ (by omega) (by omega)
      rw [cl_n e72]
      refine pr_g (fun _ _ => pr_l (pr_g (fun _ _ => pr_g (fun _ _ => pr_l (pr_g (fun _ _ => pr_g (fun _ _ => pr_l (pr_s ?_))))))))
      rw [c0, c4]
      refine ⟨rfl, ⟨fun a ha => ⟨?_, fun k hk => ?_⟩, ?_, ?_, ?_, fun j j1 j2 j3 j4 j5 => ?_⟩, fr_tr h4 (fr_tr (fr_sE (by decide)) (fr_tr (fr_sE (by decide)) (fr_sE (by decide))))⟩
      · rw [mE_sE, if_neg (by omega), mE_sE, if_neg (by omega), mE_sE, if_neg (by omega)]; exact (h3.1 a (by omega)).1
      · rw [mE_sE, if_neg (by omega), mE_sE, if_neg (by omega), mE_sE, if_neg (by omega)]; exact (h3.1 a (by omega)).2 k hk
      · rw [mE_sE, if_neg (by omega), mE_sE, if_neg (by omega), mE_sE, if_pos ⟨rfl, rfl⟩]; exact hnI
      · rw [mE_sE, if_neg (by omega), mE_sE, if_pos ⟨rfl, rfl⟩, mE_sE, if_neg (by omega), f0]
      · rw [mE_sE, if_pos ⟨rfl, rfl⟩, mE_sE, if_neg (by omega), mE_sE, if_neg (by omega), f4]
      · rw [mE_sE, if_neg (by omega), mE_sE, if_neg (by omega), mE_sE, if_neg (by omega)]; exact h3.2.2 j j1 j2
    · have hiN : i < N := by omega
      have er : ((48 : Int32) * rI).toInt = ((48 * r : Nat) : Int) := by rw [ii_mul (by rw [L48]; omega) (by rw [L48]; omega), L48, hrI]; omega
      have et : ((48 : Int32) * tI).toInt = ((48 * t : Nat) : Int) := by rw [ii_mul (by rw [L48]; omega) (by rw [L48]; omega), L48, htI]; omega
      have er2 : ((252 : Int32) + (48 : Int32) * rI).toInt = ((252 + 48 * r : Nat) : Int) := by rw [ii_add (by omega) (by omega), L252, er]; omega
      have et2 : ((252 : Int32) + (48 : Int32) * tI).toInt = ((252 + 48 * t : Nat) : Int) := by rw [ii_add (by omega) (by omega), L252, et]; omega
      have er3 : ((252 : Int32) + (48 : Int32) * rI + iI).toInt = ((252 + (48 * r + i) : Nat) : Int) := by rw [ii_add (by omega) (by omega), er2, h1]; omega
      have et3 : ((252 : Int32) + (48 : Int32) * tI + iI).toInt = ((252 + (48 * t + i) : Nat) : Int) := by rw [ii_add (by omega) (by omega), et2, h1]; omega
      rw [cl_n er3, cl_n et3]
      have hsrc : ms_E σ 40 (252 + (48 * r + i)) = f (252 + (48 * r + i)) := h3.2.2 _ (by omega) (by omega)
      refine pr_g (fun _ _ => pr_g (fun _ _ => pr_l (v_forks_L82 n f r t hrt ht i (by omega) rI tI iI nI hrI htI h1 _ σ0 _ (fun τ jI hj hp hf => ih (i + 1) τ jI hj (by omega) hp hf) n 0 _ 0 rfl (Nat.zero_le _) ⟨fun a ha => ⟨?_, fun b hb => ?_⟩, fun b hb => by omega, fun j j1 j2 => ?_⟩ ?_ (fr_tr h4 (fr_sE (by decide))))))
      · rw [mE_sE, if_neg (by omega)]; exact (h3.1 a ha).1
      · rw [mE_sE, if_neg (by omega)]; exact (h3.1 a ha).2 b hb
      · rw [mE_sE, if_neg (by omega)]; exact h3.2.2 j j1 j2
      · rw [mE_sE, if_pos ⟨rfl, rfl⟩, hsrc]
theorem v_forks (n : Nat) (σ : ms_T) (hC : rC (ms_E σ 40)) (r : Nat) (hr : r < (ms_E σ 40 0).toInt.toNat) (rI nI : Int32) (hrI : rI.toInt = (r : Int)) (hn0 : 0 ≤ nI.toInt) : pr (f_X12_forks n σ rI nI) (fun res => ((ms_E σ 40 (72 + r)).toInt < nI.toInt → res.1 = -1 ∧ res.2 = ms_sI σ 652 5) ∧ (nI.toInt ≤ (ms_E σ 40 (72 + r)).toInt → (ms_E σ 40 0).toInt = 4 → res.1 = -1 ∧ res.2 = ms_sI σ 652 3) ∧ (nI.toInt ≤ (ms_E σ 40 (72 + r)).toInt → (ms_E σ 40 0).toInt < 4 → res.1 = ms_E σ 40 0 ∧ foF (ms_E σ 40) r (ms_E σ 40 0).toInt.toNat nI.toInt.toNat (ms_E res.2 40) ∧ fr [] [40] σ res.2)) := by
  have h4 := hC.1
  have L4 := t_4
  have hs := hC.2.2.2.2.1 r (by omega)
  unfold f_X12_forks
  refine pr_b (v_sizeOf n σ r (by omega) rI hrI) (fun v hv => ?_)
  rw [hv, c0]
  have hre : ∀ w, pr (ms_c (f_X12_refuse n σ w) fun a τ => some (a, τ)) (fun res => res.1 = -1 ∧ res.2 = ms_sI σ 652 w) := by
    intro w
    unfold f_X12_refuse
    exact pr_c (T := fun res => res.1 = -1 ∧ res.2 = ms_sI σ 652 w) (pr_l (pr_s ⟨rfl, rfl⟩)) (fun a τ hτ => pr_s hτ)
  refine pr_le (fun e => pr_g (fun _ _ => pr_e (fun e4 => ?_) (fun e4 => pr_g (fun _ _ => pr_l ?_)))) (fun e => ?_)
  · have : (ms_E σ 40 0).toInt = 4 := by rw [e4]; exact L4
    exact pr_m (hre 3) (fun res hres => ⟨fun h => by omega, fun _ _ => hres, fun _ h => by omega⟩)
  · rw [L4] at e4
    refine pr_m (v_forks_L41 n (ms_E σ 40) r (ms_E σ 40 0).toInt.toNat nI.toInt.toNat hr (by omega) (by omega) rI _ nI hrI (by omega) (by omega) σ n 0 σ 0 rfl (Nat.zero_le _) ⟨fun a ha => by omega, fun b hb => by omega, fun _ _ _ => rfl⟩ fr_rf) (fun res hres => ⟨fun h => by omega, fun _ h => by omega, fun _ _ => hres⟩)
  · exact pr_m (hre 5) (fun res hres => ⟨fun _ => hres, fun h => by omega, fun h => by omega⟩)
/-- the class while entries are copied into record t -/
def fq (w t : Nat) (α β : hp_T) : Prop := hp_R β = hp_R α ∧ hp_K β = hp_K α ∧ hp_Q β = hp_Q α ∧ hp_N β = hp_N α ∧ (∀ φ b, ¬ (φ = 501 ∧ ∃ i, i < 48 ∧ b = wdA w t i) → ¬ (φ = 152 ∧ b = lpA w t) → hp_I β φ b = hp_I α φ b) ∧ ∀ κ b j, ¬ (κ = 27 ∧ ∃ i, i < 48 ∧ b = wdA w t i + 1) → ¬ (κ = 29 ∧ b = lpA w t + 2) → hp_E β κ b j = hp_E α κ b j
theorem fq_tr {w t : Nat} {α β γ : hp_T} (h : fq w t α β) (g : fq w t β γ) : fq w t α γ := by
  obtain ⟨h1, h2, h3, h4, h5, h6⟩ := h
  obtain ⟨g1, g2, g3, g4, g5, g6⟩ := g
  exact ⟨g1.trans h1, g2.trans h2, g3.trans h3, g4.trans h4, fun φ b q1 q2 => (g5 φ b q1 q2).trans (h5 φ b q1 q2), fun κ b j q1 q2 => (g6 κ b j q1 q2).trans (h6 κ b j q1 q2)⟩
theorem WD_fq {α β : hp_T} {w t a : Nat} {l : List Int32} (h : WD α a l) (f : fq w t α β) (ha : ∀ i, i < 48 → a ≠ wdA w t i) (hr : ∀ i, i < 48 → hp_R α 500 a ≠ wdA w t i + 1) : WD β a l := by
  obtain ⟨f1, -, -, -, f5, f6⟩ := f
  refine ⟨h.1, by rw [f5 501 a (fun q => by obtain ⟨i, hi, e⟩ := q.2; exact ha i hi e) (fun q => absurd q.1 (by decide))]; exact h.2.1, fun k hk => ?_, h.2.2.2⟩
  rw [f1, f6 27 _ _ (fun q => by obtain ⟨i, hi, e⟩ := q.2; exact hr i hi e) (fun q => absurd q.1 (by decide))]
  exact h.2.2.1 k hk
theorem k_wordAt (n : Nat) {α : hp_T} {w r s : Nat} (hS : SHW α w) (hr : r < 4) (hl : (hp_I α 152 (lpA w r)).toInt = (s : Int)) (hs : s ≤ 48) (i : Nat) (hi : i < s) (iI : Int32) (hiI : iI.toInt = (i : Int)) : ws (f_X2_wordAt n α (lpA w r) iI) (fun o => o = some (wdA w r i)) := by
  have L48 := t_48
  obtain ⟨g1, g2, g3⟩ := hS.2.2.2.2.2.2.2.2.2.2.2.1 r hr
  unfold f_X2_wordAt
  refine ws_lt (fun e => by rw [lt0] at e; omega) (fun _ => ws_l (ws_le (fun e => by omega) (fun _ => ws_l (ws_le (fun e => by omega) (fun _ => ws_l (ws_g (by omega) (by omega) ?_))))))
  rw [g1, cl_n hiI, (g3 i (by omega)).1]
  exact ws_s rfl
theorem k_forkLog_L (n : Nat) (hn : 70000 ≤ n) (α : hp_T) (w : Nat) (f : Nat → Int32) (h : WR α w f) (hC : rC f) (r t N : Nat) (hrt : r < t) (htm : t = (f 0).toInt.toNat) (ht4 : t < 4) (hN : (N : Int) ≤ (f (72 + r)).toInt) (nI : Int32) (hnI : nI.toInt = (N : Int)) : ∀ (d i : Nat) (β : hp_T) (iI : Int32), iI.toInt = (i : Int) → i ≤ N → fq w t α β → (hp_I β 152 (lpA w t)).toInt = (i : Int) → (∀ a, a < i → WD β (wdA w t a) (ltr f r a) ∧ hp_E β 29 (lpA w t + 2) a = EM f r a) → N + 1 - i ≤ d → ws (f_X10_forkLog_L51 n w d β (lpA w r) nI (lpA w t) iI) (fun res => res.1 = f 0 + 1 - 1 ∧ ∃ γ, fq w t α γ ∧ (hp_I γ 152 (lpA w t)).toInt = (N : Int) ∧ (∀ a, a < N → WD γ (wdA w t a) (ltr f r a) ∧ hp_E γ 29 (lpA w t + 2) a = EM f r a) ∧ res.2 = hp_sI (hp_sI γ 552 w (f 0 + 1)) 556 w (f 4 + 1)) := by
  have hs := hC.2.2.2.2.1 r (by omega)
  have hm := hC.2.1.1
  intro d
  induction d with
  | zero => intro i β iI h1 h2 hf h3 h4 h5; omega
  | succ d ih =>
    intro i β iI h1 h2 hf h3 h4 h5
    have hSβ : SHW β w := SHW_e h.1 hf.1 hf.2.2.1
    have i550 : hp_I β 550 w = f 1 := by rw [hf.2.2.2.2.1 550 w (by omega) (by omega)]; exact h.2.1.1
    have i552 : hp_I β 552 w = f 0 := by rw [hf.2.2.2.2.1 552 w (by omega) (by omega)]; exact h.2.1.2.1
    have i556 : hp_I β 556 w = f 4 := by rw [hf.2.2.2.2.1 556 w (by omega) (by omega)]; exact h.2.1.2.2.2
    have i152 : hp_I β 152 (lpA w r) = f (72 + r) := by rw [hf.2.2.2.2.1 152 _ (by omega) (fun q => by unfold lpA at q; omega)]; exact (h.2.2.1 r (by omega)).1
    rw [f_X10_forkLog_L51.eq_2]
    refine ws_le (fun e => ?_) (fun e => ?_)
    · have hiN : i = N := by omega
      refine ws_l (ws_l (ws_l (ws_l (ws_l (ws_s ⟨?_, β, hf, by rw [← hiN]; exact h3, by rw [← hiN]; exact h4, ?_⟩)))))
      · rw [hI_sI, if_neg (by omega), hI_sI, if_pos ⟨rfl, rfl⟩, i552]
      · have e9 : hp_I (hp_sI β 552 w (hp_I β 552 w + 1)) 556 w = f 4 := by rw [hI_sI, if_neg (by omega), i556]
        show hp_sI (hp_sI β 552 w (hp_I β 552 w + 1)) 556 w (hp_I (hp_sI β 552 w (hp_I β 552 w + 1)) 556 w + 1) = _
        rw [e9, i552]
    · refine ws_b (k_wordAt n hSβ (by omega) (s := (f (72 + r)).toInt.toNat) (by rw [i152]; omega) (by omega) i (by omega) iI h1) (fun o ho => ?_)
      subst ho
      show ws (ms_l _ _) _
      refine ws_l ?_
      rw [i550]
      obtain ⟨c1, c2⟩ := (h.2.2.1 r (by omega)).2 i (by omega)
      have hsh := (h.1.2.2.2.2.2.2.2.2.2.2.2.1 r (by omega)).2.2 i (by omega)
      have hWs : WD β (wdA w r i) (ltr f r i) := WD_fq c1 hf (fun a ha => by unfold wdA; omega) (fun a ha => by rw [hsh.2]; unfold wdA; omega)
      refine ws_b (k_putWord n hn β w hSβ t i (by omega) (by omega) h3 (wdA w r i) (ltr f r i) hWs (by unfold wdA; omega) (by rw [hf.1, hsh.2]; unfold wdA; omega) (f 1) (by omega)) (fun γ hγ => ?_)
      obtain ⟨b1, b2, b3, b4, b5, b6, b7, b8, b9⟩ := hγ
      have hfg : fq w t β γ := ⟨b1, b2, b3, b4, fun φ b q1 q2 => b8 φ b (fun q => q1 ⟨q.1, i, by omega, q.2⟩) q2, fun κ b j q1 q2 => b9 κ b j (fun q => q1 ⟨q.1, i, by omega, q.2⟩) (fun q => q2 ⟨q.1, q.2.1⟩)⟩
      unfold f_X10_forkLog_J80
      refine ws_l (ih (i + 1) γ _ ?_ (by omega) (fq_tr hf hfg) ?_ (fun a ha => ?_) (by omega))
      · rw [ii_add (by rw [lt1]; omega) (by rw [lt1]; omega), h1, lt1]; omega
      · rw [b6, ii_add (by rw [lt1]; omega) (by rw [lt1]; omega), h3, lt1]; omega
      · by_cases hai : a = i
        · subst hai
          refine ⟨b5, ?_⟩
          rw [b7, EM_l]
        · obtain ⟨⟨d1, d2, d3, d4⟩, d5⟩ := h4 a (by omega)
          have hsa := (hSβ.2.2.2.2.2.2.2.2.2.2.2.1 t (by omega)).2.2 a (by omega)
          refine ⟨⟨d1, by rw [b8 501 _ (fun q => by unfold wdA at q; omega) (by omega)]; exact d2, fun k hk => ?_, d4⟩, ?_⟩
          · rw [b1, hsa.2, b9 27 _ k (fun q => by unfold wdA at q; omega) (fun q => absurd q.1 (by decide)), ← hsa.2]
            exact d3 k hk
          · rw [b9 29 _ a (fun q => absurd q.1 (by decide)) (fun q => by omega)]; exact d5
theorem k_forkLog (n : Nat) (hn : 70000 ≤ n) (α : hp_T) (w : Nat) (f : Nat → Int32) (h : WR α w f) (hC : rC f) (r N : Nat) (hr : r < (f 0).toInt.toNat) (h0 : (f 0).toInt < 4) (hN : (N : Int) ≤ (f (72 + r)).toInt) (nI : Int32) (hnI : nI.toInt = (N : Int)) : ws (f_X10_forkLog n α w (lpA w r) nI) (fun res => res.1 = f 0 ∧ (∀ g, foF f r (f 0).toInt.toNat N g → WR res.2 w g) ∧ hp_I res.2 301 (w + 5) = hp_I α 301 (w + 5) ∧ hp_R res.2 = hp_R α ∧ hp_K res.2 = hp_K α ∧ hp_Q res.2 = hp_Q α ∧ hp_N res.2 = hp_N α ∧ (∀ φ b, b < w ∨ w + 459 ≤ b → hp_I res.2 φ b = hp_I α φ b) ∧ ∀ κ b j, b < w ∨ w + 459 ≤ b → hp_E res.2 κ b j = hp_E α κ b j) := by
  have hs := hC.2.2.2.2.1 r (by omega)
  have h16 := hC.2.2.2.1.2
  have L4 := t_4
  obtain ⟨t, ht⟩ : ∃ t, t = (f 0).toInt.toNat := ⟨_, rfl⟩
  have e552 := h.2.1.2.1
  have hcl : (hp_I α 552 w).toNatClampNeg = t := cl_n (by rw [e552]; omega)
  unfold f_X10_forkLog
  refine ws_l (ws_lt (fun e => by rw [lt0, e552] at e; omega) (fun _ => ws_l (ws_l (ws_le (fun e => by rw [e552] at e; omega) (fun _ => ws_l (ws_l (ws_g (by rw [e552]; omega) (by rw [e552]; omega) ?_)))))))
  rw [h.1.1, hcl, h.1.2.2.2.2.2.2.1 t (by omega)]
  show ws (ms_l _ _) _
  refine ws_l (ws_l (ws_g (by rw [e552]; omega) (by rw [e552]; omega) ?_))
  rw [hcl, h.1.2.2.2.2.2.2.1 t (by omega)]
  show ws (ms_l _ _) _
  have hf0 : fq w t α (hp_sI α 152 (lpA w t) 0) := ⟨rfl, rfl, rfl, rfl, fun φ b _ q2 => by rw [hI_sI, if_neg q2], fun _ _ _ _ _ => rfl⟩
  refine ws_l (ws_m (k_forkLog_L n hn α w f h hC r t N (by omega) ht (by omega) hN nI hnI n 0 _ 0 rfl (Nat.zero_le _) hf0 (by rw [hI_sI, if_pos ⟨rfl, rfl⟩]; rfl) (fun a ha => by omega) (by omega)) (fun res hres => ?_))
  obtain ⟨v1, γ, v2, v3, v4, v5⟩ := hres
  have e01 : (f 0 + 1 - 1 : Int32) = f 0 := by
    refine Int32.toInt_inj.mp ?_
    have e1 : (f 0 + 1).toInt = (f 0).toInt + 1 := by rw [ii_add (by rw [lt1]; omega) (by rw [lt1]; omega), lt1]
    rw [ii_sub (by rw [lt1]; omega) (by rw [lt1]; omega), e1, lt1]; omega
  rw [v5]
  have I2 : ∀ φ b, ¬ (φ = 552 ∧ b = w) → ¬ (φ = 556 ∧ b = w) → hp_I (hp_sI (hp_sI γ 552 w (f 0 + 1)) 556 w (f 4 + 1)) φ b = hp_I γ φ b := fun φ b q1 q2 => by rw [hI_sI, if_neg q2, hI_sI, if_neg q1]
  refine ⟨v1.trans e01, fun g hg => ?_, (I2 301 _ (by omega) (by omega)).trans (v2.2.2.2.2.1 301 _ (by omega) (by omega)), v2.1, v2.2.1, v2.2.2.1, v2.2.2.2.1, fun φ b hb => ?_, fun κ b j hb => ?_⟩
  · rw [← ht] at hg
    obtain ⟨a1, a2, a3, a4, a5⟩ := hg
    have g1 : g 1 = f 1 := a5 1 (by omega) (by omega) (by omega) (by omega) (by omega)
    have g3 : g 3 = f 3 := a5 3 (by omega) (by omega) (by omega) (by omega) (by omega)
    have hlenr : ∀ a, a < N → 0 ≤ (f (252 + (48 * r + a))).toInt ∧ (f (252 + (48 * r + a))).toInt ≤ 8 := fun a ha => hC.2.2.2.2.2.2.2.2 (48 * r + a) (by omega)
    have hltr : ∀ a, a < N → ltr g t a = ltr f r a := by
      intro a ha
      unfold ltr
      rw [(a1 a ha).1]
      have := hlenr a ha
      exact List.map_congr_left (fun k hk => (a1 a ha).2 k (by have := List.mem_range.mp hk; omega))
    have hEM : ∀ a, a < N → EM g t a = EM f r a := by
      intro a ha
      rw [EM_l, EM_l, hltr a ha, g1]
    refine ⟨SHW_e h.1 v2.1 v2.2.2.1, ⟨?_, ?_, ?_, ?_⟩, fun r' hr' => ?_, fun i hi => ?_, fun i hi => ?_, fun i hi => by rw [I2 301 _ (by omega) (by omega), v2.2.2.2.2.1 301 _ (by omega) (by omega)]; exact h.2.2.2.2.2 i hi⟩
    · rw [I2 550 w (by omega) (by omega), v2.2.2.2.2.1 550 w (by omega) (by omega), g1]; exact h.2.1.1
    · rw [hI_sI, if_neg (by omega), hI_sI, if_pos ⟨rfl, rfl⟩, a3]
    · rw [I2 554 w (by omega) (by omega), v2.2.2.2.2.1 554 w (by omega) (by omega), g3]; exact h.2.1.2.2.1
    · rw [hI_sI, if_pos ⟨rfl, rfl⟩, a4]
    · rw [a3, ii_add (by rw [lt1]; omega) (by rw [lt1]; omega), lt1] at hr'
      by_cases hrt : r' = t
      · subst hrt
        refine ⟨?_, fun i hi => ?_⟩
        · rw [I2 152 _ (by omega) (by omega)]
          exact Int32.toInt_inj.mp (by rw [v3, a2])
        · have hiN : i < N := by omega
          obtain ⟨w1, w2⟩ := v4 i hiN
          refine ⟨?_, ?_⟩
          · rw [hltr i hiN]
            exact ⟨w1.1, by rw [I2 501 _ (by omega) (by omega)]; exact w1.2.1, w1.2.2.1, w1.2.2.2⟩
          · rw [hEM i hiN]; exact w2
      · have hr2 : r' < (f 0).toInt.toNat := by omega
        obtain ⟨c1, c2⟩ := h.2.2.1 r' hr2
        have hs' := hC.2.2.2.2.1 r' (by omega)
        have e72 : g (72 + r') = f (72 + r') := a5 _ (by omega) (by omega) (by omega) (by omega) (by omega)
        refine ⟨by rw [I2 152 _ (by omega) (by omega), v2.2.2.2.2.1 152 _ (by omega) (fun q => by unfold lpA at q; omega), e72]; exact c1, fun i hi => ?_⟩
        rw [e72] at hi
        obtain ⟨d1, d2⟩ := c2 i hi
        have hlen := hC.2.2.2.2.2.2.2.2 (48 * r' + i) (by omega)
        have q1 : g (252 + (48 * r' + i)) = f (252 + (48 * r' + i)) := a5 _ (by omega) (by omega) (by omega) (by omega) (by omega)
        have q2 : ∀ k, k < (f (252 + (48 * r' + i))).toInt.toNat → g (444 + 8 * (48 * r' + i) + k) = f (444 + 8 * (48 * r' + i) + k) := fun k hk => a5 _ (by omega) (by omega) (by omega) (by omega) (by omega)
        have hsh := (h.1.2.2.2.2.2.2.2.2.2.2.2.1 r' (by omega)).2.2 i (by omega)
        refine ⟨?_, ?_⟩
        · rw [ltr_c q1 q2]
          have := WD_fq d1 v2 (fun a ha => by unfold wdA; omega) (fun a ha => by rw [hsh.2]; unfold wdA; omega)
          exact ⟨this.1, by rw [I2 501 _ (by omega) (by omega)]; exact this.2.1, this.2.2.1, this.2.2.2⟩
        · rw [EM_c g1 q1 q2]
          show hp_E γ 29 _ i = _
          rw [v2.2.2.2.2.2 29 _ i (fun q => absurd q.1 (by decide)) (fun q => by unfold lpA at q; omega)]
          exact d2
    · rw [g3] at hi
      obtain ⟨b1, b2, b3, b4, b5, b6⟩ := h.2.2.2.1 i hi
      have e : ∀ k, k < 10 → g (92 + 10 * i + k) = f (92 + 10 * i + k) := fun k hk => a5 _ (by omega) (by omega) (by omega) (by omega) (by omega)
      have e93 : g (93 + 10 * i) = f (93 + 10 * i) := by have := e 1 (by omega); rw [show 92 + 10 * i + 1 = 93 + 10 * i by omega] at this; exact this
      have hp : pkn (f (93 + 10 * i)).toInt.toNat ≤ 6 := by unfold pkn; omega
      have I3 : ∀ φ b, φ ≠ 501 → φ ≠ 152 → φ ≠ 552 → φ ≠ 556 → hp_I (hp_sI (hp_sI γ 552 w (f 0 + 1)) 556 w (f 4 + 1)) φ b = hp_I α φ b := fun φ b q1 q2 q3 q4 => by rw [I2 φ b (fun q => q3 q.1) (fun q => q4 q.1)]; exact v2.2.2.2.2.1 φ b (fun q => q1 q.1) (fun q => q2 q.1)
      refine ⟨?_, ?_, ?_, ?_, ?_, fun k hk hP => ?_⟩
      · rw [I3 100 _ (by decide) (by decide) (by decide) (by decide), b1]; exact (e 0 (by omega)).symm
      · rw [I3 101 _ (by decide) (by decide) (by decide) (by decide), b2, e93]
      · rw [I3 102 _ (by decide) (by decide) (by decide) (by decide), b3]
        have := e 2 (by omega); rw [show 92 + 10 * i + 2 = 94 + 10 * i by omega] at this; exact this.symm
      · rw [I3 103 _ (by decide) (by decide) (by decide) (by decide), b4]
        have := e 3 (by omega); rw [show 92 + 10 * i + 3 = 95 + 10 * i by omega] at this; exact this.symm
      · rw [I3 301 _ (by decide) (by decide) (by decide) (by decide), e93]; exact b5
      · rw [e93] at hk
        show hp_E γ 20 _ k = _
        rw [v2.2.2.2.2.2 20 _ k (fun q => absurd q.1 (by decide)) (fun q => absurd q.1 (by decide)), b6 k hk hP]
        have := e (4 + k) (by omega); rw [show 92 + 10 * i + (4 + k) = 96 + 10 * i + k by omega] at this; exact this.symm
    · obtain ⟨b1, b2, b3, b4⟩ := h.2.2.2.2.1 i hi
      have e : ∀ k, k < 4 → g (76 + 4 * i + k) = f (76 + 4 * i + k) := fun k hk => a5 _ (by omega) (by omega) (by omega) (by omega) (by omega)
      have I3 : ∀ φ b, φ ≠ 501 → φ ≠ 152 → φ ≠ 552 → φ ≠ 556 → hp_I (hp_sI (hp_sI γ 552 w (f 0 + 1)) 556 w (f 4 + 1)) φ b = hp_I α φ b := fun φ b q1 q2 q3 q4 => by rw [I2 φ b (fun q => q3 q.1) (fun q => q4 q.1)]; exact v2.2.2.2.2.1 φ b (fun q => q1 q.1) (fun q => q2 q.1)
      refine ⟨?_, ?_, ?_, ?_⟩
      · rw [I3 400 _ (by decide) (by decide) (by decide) (by decide), b1]; exact (e 0 (by omega)).symm
      · rw [I3 401 _ (by decide) (by decide) (by decide) (by decide), b2]
        have := e 1 (by omega); rw [show 76 + 4 * i + 1 = 77 + 4 * i by omega] at this; exact this.symm
      · rw [I3 403 _ (by decide) (by decide) (by decide) (by decide), b3]
        have := e 2 (by omega); rw [show 76 + 4 * i + 2 = 78 + 4 * i by omega] at this; exact this.symm
      · rw [I3 402 _ (by decide) (by decide) (by decide) (by decide), b4]
        have := e 3 (by omega); rw [show 76 + 4 * i + 3 = 79 + 4 * i by omega] at this; exact this.symm
  · rw [I2 φ b (by omega) (by omega)]
    exact v2.2.2.2.2.1 φ b (fun q => by obtain ⟨i, hi, e⟩ := q.2; unfold wdA at e; omega) (fun q => by unfold lpA at q; omega)
  · show hp_E γ κ b j = _
    exact v2.2.2.2.2.2 κ b j (fun q => by obtain ⟨i, hi, e⟩ := q.2; unfold wdA at e; omega) (fun q => by unfold lpA at q; omega)
end JN9_9
section JN9_10
set_option maxRecDepth 100000
/-! ===== rows of the class; peaks ===== -/
def RWL (α : hp_T) (a : Nat) (l : List Int32) : Prop := l.length ≤ 64 ∧ (hp_I α 301 a).toInt = (l.length : Int) ∧ ∀ k, k < l.length → some (hp_E α 20 (hp_R α 300 a) k) = l[k]?
def ef (a : Nat) (α β : hp_T) : Prop := hp_R β = hp_R α ∧ hp_K β = hp_K α ∧ hp_Q β = hp_Q α ∧ hp_N β = hp_N α ∧ (∀ φ b, ¬ (b = a ∧ φ = 301) → hp_I β φ b = hp_I α φ b) ∧ ∀ κ b j, ¬ (κ = 20 ∧ b = hp_R α 300 a) → hp_E β κ b j = hp_E α κ b j
theorem ef_rf {a : Nat} {α : hp_T} : ef a α α := ⟨rfl, rfl, rfl, rfl, fun _ _ _ => rfl, fun _ _ _ _ => rfl⟩
theorem ef_tr {a : Nat} {α β γ : hp_T} (h : ef a α β) (g : ef a β γ) : ef a α γ := by
  obtain ⟨h1, h2, h3, h4, h5, h6⟩ := h
  obtain ⟨g1, g2, g3, g4, g5, g6⟩ := g
  rw [h1] at g6
  exact ⟨g1.trans h1, g2.trans h2, g3.trans h3, g4.trans h4, fun φ b q => (g5 φ b q).trans (h5 φ b q), fun κ b j q => (g6 κ b j q).trans (h6 κ b j q)⟩
theorem ef_sI {a : Nat} {α : hp_T} {v : Int32} : ef a α (hp_sI α 301 a v) :=
  ⟨rfl, rfl, rfl, rfl, fun ψ b q => by rw [hI_sI, if_neg (fun (e : ψ = 301 ∧ b = a) => q ⟨e.2, e.1⟩)], fun _ _ _ _ => rfl⟩
theorem ef_sE {a j : Nat} {α : hp_T} {v : Int32} : ef a α (hp_sE α 20 (hp_R α 300 a) j v) :=
  ⟨rfl, rfl, rfl, rfl, fun _ _ _ => rfl, fun κ b i q => by rw [hE_sE, if_neg (fun e => q ⟨e.1, e.2.1⟩)]⟩
theorem k_rput (n : Nat) {α : hp_T} {a : Nat} {l : List Int32} (h : RWL α a l) (hl : l.length < 64) (v : Int32) : ws (f_X5_put n α a v) (fun β => RWL β a (l ++ [v]) ∧ ef a α β) := by
  have L64 := t_64
  obtain ⟨h1, h2, h3⟩ := h
  unfold f_X5_put
  refine ws_l (ws_lt (fun e => by rw [lt0] at e; omega) (fun _ => ws_l (ws_l (ws_le (fun e => by omega) (fun _ => ws_l (ws_l (ws_g (by omega) (by omega) (ws_l (ws_l (ws_l (ws_s ⟨⟨?_, ?_, fun k hk => ?_⟩, ef_tr ef_sE ef_sI⟩)))))))))))
  · rw [List.length_append]; simp; omega
  · rw [hI_sI, if_pos ⟨rfl, rfl⟩, hI_sE, ii_add (by rw [lt1]; omega) (by rw [lt1]; omega), h2, lt1, List.length_append]; rfl
  · rw [List.length_append] at hk
    simp only [hR_sI, hR_sE, hE_sI]
    rw [hE_sE, cl_n h2]
    by_cases hkl : k = l.length
    · rw [if_pos ⟨rfl, rfl, hkl⟩, hkl]; simp
    · rw [if_neg (fun e => hkl e.2.2), List.getElem?_append_left (by simp at hk; omega)]
      exact h3 k (by simp at hk; omega)
theorem k_rshort (n : Nat) {α : hp_T} {a : Nat} {l : List Int32} (h : RWL α a l) (k : Nat) (hk : k ≤ l.length) (kI : Int32) (hkI : kI.toInt = (k : Int)) : ws (f_X5_shorten n α a kI) (fun β => RWL β a (l.take k) ∧ ef a α β) := by
  obtain ⟨h1, h2, h3⟩ := h
  unfold f_X5_shorten
  refine ws_lt (fun e => by rw [lt0] at e; omega) (fun _ => ws_l (ws_le (fun e => ws_s ⟨?_, ef_rf⟩) (fun e => ws_l (ws_s ⟨⟨?_, ?_, fun j hj => ?_⟩, ef_sI⟩))))
  · rw [List.take_of_length_le (by omega)]; exact ⟨h1, h2, h3⟩
  · rw [List.length_take]; omega
  · rw [hI_sI, if_pos ⟨rfl, rfl⟩, hkI, List.length_take]; omega
  · rw [List.length_take] at hj
    rw [hR_sI, hE_sI, List.getElem?_take_of_lt (by omega)]
    exact h3 j (by omega)
/-- the peaks of n things: their first things and how many they are -/
def pks : Nat → Nat → Nat → List (Nat × Nat × Bool)
  | 0, _, _ => []
  | e + 1, n, f => if n / 2 ^ e % 2 = 0 then pks e n f else (f, 2 ^ e, false) :: pks e n (f + 2 ^ e)
theorem pks_up {n e : Nat} (h : n < 2 ^ e) (f : Nat) : ∀ k, pks (e + k) n f = pks e n f := by
  intro k
  induction k with
  | zero => rfl
  | succ k ih =>
    have hp : 2 ^ e ≤ 2 ^ (e + k) := Nat.pow_le_pow_right (by decide) (by omega)
    rw [← Nat.add_assoc, pks, if_pos (by rw [Nat.div_eq_of_lt (by omega)]), ih]
theorem pks_len : ∀ (e n f : Nat), (pks e n f).length ≤ e := by
  intro e
  induction e with
  | zero => intro n f; exact Nat.le_refl _
  | succ e ih =>
    intro n f
    rw [pks]
    split
    · exact Nat.le_succ_of_le (ih n f)
    · exact Nat.succ_le_succ (ih _ _)
theorem and_bit (n e : Nat) : n &&& 2 ^ e = 0 ↔ n / 2 ^ e % 2 = 0 := by
  have ht : n.testBit e = decide (n / 2 ^ e % 2 = 1) := Nat.testBit_eq_decide_div_mod_eq
  constructor
  · intro h
    have h2 : (n &&& 2 ^ e).testBit e = false := by rw [h, Nat.zero_testBit]
    rw [Nat.testBit_and, Nat.testBit_two_pow, ht] at h2
    simp at h2
    omega
  · intro h
    apply Nat.eq_of_testBit_eq
    intro i
    rw [Nat.testBit_and, Nat.testBit_two_pow, Nat.zero_testBit]
    by_cases hi : e = i
    · subst hi; rw [ht]; simp; omega
    · simp [hi]
theorem pr_w_asks (n : Nat) (σ : ms_T) (a b : Int32) : pr (f_X12_asks n σ a b) (fun τ => fr [657] [42, 43] σ τ) := by
  unfold f_X12_asks
  exact pr_g (fun _ _ => pr_l (pr_g (fun _ _ => pr_l (pr_l (pr_s (fr_tr (fr_sE (by decide)) (fr_tr (fr_sE (by decide)) (fr_sI (by decide))))))))) 
theorem v_peaksOf_L (n : Nat) (N : Nat) (nI : Int32) (hn : nI.toInt = (N : Int)) : ∀ (d e : Nat) (σ : ms_T) (l : List (Nat × Nat × Bool)) (f : Nat) (fI pI : Int32), WS σ l → fI.toInt = (f : Int) → (∀ e', e = e' + 1 → pI.toInt = ((2 ^ e' : Nat) : Int)) → (e = 0 → pI.toInt = 0) → e ≤ 31 → f + N % 2 ^ e ≤ 2147483647 → pr (f_X12_peaksOf_L10 n d σ nI fI pI) (fun τ => WS τ (l ++ pks e N f) ∧ fr [657] [42, 43] σ τ) := by
  intro d
  induction d with
  | zero => intro e σ l f fI pI hW hf hp h0 he hb; rw [f_X12_peaksOf_L10.eq_1]; exact pr_0
  | succ d ih =>
    intro e σ l f fI pI hW hf hp h0 he hb
    have l2 := t_2
    rw [f_X12_peaksOf_L10.eq_2]
    cases e with
    | zero =>
      have := h0 rfl
      refine pr_le (fun _ => pr_s ⟨by rw [pks, List.append_nil]; exact hW, fr_rf⟩) (fun h => by rw [lt0] at h; omega)
    | succ e =>
      have hpe := hp e rfl
      have hp1 : 1 ≤ 2 ^ e := Nat.one_le_two_pow
      have hm : N % 2 ^ (e + 1) = N % 2 ^ e + 2 ^ e * (N / 2 ^ e % 2) := by rw [Nat.pow_succ, Nat.mod_mul]
      have hdv : (nI / pI).toInt = ((N / 2 ^ e : Nat) : Int) := by rw [ii_div (by omega) (by omega), hn, hpe]; rfl
      have hrem : ((nI / pI) - (nI / pI) / (2 : Int32) * (2 : Int32)).toInt = ((N / 2 ^ e % 2 : Nat) : Int) := by
        rw [ii_rem (by rw [hdv]; exact Int.natCast_nonneg _) (by decide), hdv, l2]
        rfl
      have hhalf : ∀ e', e = e' + 1 → (pI / (2 : Int32)).toInt = ((2 ^ e' : Nat) : Int) := by
        intro e' h
        rw [ii_div (by omega) (by decide), hpe, l2, h, Nat.pow_succ]; omega
      have hhalf0 : e = 0 → (pI / (2 : Int32)).toInt = 0 := by
        intro h
        rw [ii_div (by omega) (by decide), hpe, l2, h]; rfl
      have hnz : ¬ pI = 0 := fun h => by rw [h, lt0] at hpe; omega
      unfold f_X12_peaksOf_J35
      rw [pks]
      refine pr_le (fun h => by rw [lt0] at h; omega) (fun _ => pr_n (fun _ => pr_e (fun e1 => pr_l ?_) (fun e1 => ?_)))
      · have h0' : N / 2 ^ e % 2 = 0 := by have := il_eq e1; rw [hrem, lt0] at this; omega
        rw [if_pos h0']
        exact ih e σ l f fI _ hW hf hhalf hhalf0 (by omega) (by rw [hm, h0'] at hb; omega)
      · rw [hrem, lt0] at e1
        have h1' : N / 2 ^ e % 2 = 1 := by omega
        rw [if_neg (by omega)]
        rw [hm, h1'] at hb
        refine pr_b (fun τ hτ => (⟨v_asks n hW fI pI (f, 2 ^ e, false) hf hpe τ hτ, (pr_w_asks n σ fI pI τ hτ : fr [657] [42, 43] σ τ)⟩ : _ ∧ _)) (fun τ hτ => pr_l (pr_l (pr_m (ih e τ _ (f + 2 ^ e) _ _ hτ.1 (by rw [ii_add (by omega) (by omega), hf, hpe]; omega) hhalf hhalf0 (by omega) (by omega)) (fun υ hυ => ⟨?_, fr_tr hτ.2 hυ.2⟩))))
        have := hυ.1
        rw [List.append_assoc, List.singleton_append] at this
        exact this
theorem v_tree (n : Nat) (σ : ms_T) (hC : rC (ms_E σ 40)) (r : Nat) (hr : r < 4) (rI : Int32) (hrI : rI.toInt = (r : Int)) (f k : Nat) (fI kI : Int32) (hf : fI.toInt = (f : Int)) (hk : kI.toInt = (k : Int)) (hl : f + k ≤ (EL (ms_E σ 40) r).length) : pr (f_X12_treeMark n 40 σ rI fI kI) (fun v => v = TMK (ms_E σ 40 1) (EL (ms_E σ 40) r) f k) := by
  have hs := hC.2.2.2.2.1 r hr
  have h48 : (EL (ms_E σ 40) r).length ≤ 48 := by rw [EL_len]; omega
  unfold TMK
  by_cases h0 : k = 0
  · rw [if_pos h0, f_X12_treeMark.eq_2]
    refine pr_e (fun _ => pr_s rfl) (fun h => absurd (by rw [hk, lt0]; omega) h)
  · rw [if_neg h0]
    exact v_treeMark n σ hC r hr rI hrI 40 6 f k fI kI hf hk (by omega) (by omega) hl h48
theorem v_headOf (n : Nat) (σ : ms_T) (hC : rC (ms_E σ 40)) (r : Nat) (hr : r < 4) (rI : Int32) (hrI : rI.toInt = (r : Int)) (k : Nat) (kI : Int32) (hk : kI.toInt = (k : Int)) (hl : k ≤ (EL (ms_E σ 40) r).length) : pr (f_X12_headOf n σ rI kI) (fun v => v = TMK (ms_E σ 40 1) (EL (ms_E σ 40) r) 0 k) := by
  unfold f_X12_headOf
  exact pr_b (v_tree n σ hC r hr rI hrI 0 k 0 kI rfl hk (by omega)) (fun v hv => pr_s hv)
/-- marks that were fetched -/
def MKS (τ : ms_T) (ml : List Int32) : Prop := ∀ k, k < ml.length → some (ms_E τ 44 k) = ml[k]?
def mkl (m : Int32) (L : List Int32) (l : List (Nat × Nat × Bool)) : List Int32 := l.map (fun q => TMK m L q.1 q.2.1)
theorem mkl_get (m : Int32) (L : List Int32) (l : List (Nat × Nat × Bool)) (k : Nat) (h : k < l.length) : (mkl m L l)[k]? = some (TMK m L l[k].1 l[k].2.1) := by
  unfold mkl
  rw [List.getElem?_map, List.getElem?_eq_getElem h]
  rfl
theorem mkl_len (m : Int32) (L : List Int32) (l : List (Nat × Nat × Bool)) : (mkl m L l).length = l.length := by unfold mkl; simp
theorem v_fetches (n : Nat) (σ : ms_T) (hC : rC (ms_E σ 40)) (r : Nat) (hr : r < 4) (rI : Int32) (hrI : rI.toInt = (r : Int)) (l : List (Nat × Nat × Bool)) (hW : WS σ l) (hl : ∀ q ∈ l, q.1 + q.2.1 ≤ (EL (ms_E σ 40) r).length) : pr (f_X12_fetches n σ rI) (fun τ => MKS τ (mkl (ms_E σ 40 1) (EL (ms_E σ 40) r) l) ∧ WS τ l ∧ fr [] [44] σ τ) := by
  have hL : ∀ (d k : Nat) (τ : ms_T) (kI : Int32), kI.toInt = (k : Int) → k ≤ l.length → fr [] [44] σ τ → (∀ j, j < k → some (ms_E τ 44 j) = (mkl (ms_E σ 40 1) (EL (ms_E σ 40) r) l)[j]?) → pr (f_X12_fetches_L2 n d τ rI kI) (fun τ => MKS τ (mkl (ms_E σ 40 1) (EL (ms_E σ 40) r) l) ∧ WS τ l ∧ fr [] [44] σ τ) := by
    intro d
    induction d with
    | zero => intro k τ kI h1 h2 hf hA; rw [f_X12_fetches_L2.eq_1]; exact pr_0
    | succ d ih =>
      intro k τ kI h1 h2 hf hA
      have e40 : ms_E τ 40 = ms_E σ 40 := funext (hf.2 40 (by decide))
      have hWτ : WS τ l := ⟨by rw [hf.1 657 (by decide)]; exact hW.1, fun j q hq => by rw [hf.2 42 (by decide), hf.2 43 (by decide)]; exact hW.2 j q hq⟩
      rw [f_X12_fetches_L2.eq_2]
      refine pr_le (fun e => pr_s ⟨fun j hj => hA j ?_, hWτ, hf⟩) (fun e => ?_)
      · rw [mkl_len] at hj
        rw [hWτ.1] at e
        omega
      · rw [hWτ.1] at e
        have hk : k < l.length := by omega
        have hq := hWτ.2 k _ (List.getElem?_eq_getElem hk)
        rw [cl_n h1]
        refine pr_g (fun g0 g1 => pr_g (fun _ _ => pr_b (v_tree n τ (by rw [e40]; exact hC) r hr rI hrI l[k].1 l[k].2.1 _ _ hq.1 hq.2 (by rw [e40]; exact hl _ (List.getElem_mem hk))) (fun v hv => pr_g (fun _ _ => pr_l (pr_l (ih (k + 1) _ _ ?_ (by omega) (fr_tr hf (fr_sE (by decide))) (fun j hj => ?_)))))))
        · rw [ii_add (by rw [lt1]; omega) (by rw [lt1]; omega), h1, lt1]; omega
        · rw [mE_sE]
          by_cases hjk : j = k
          · subst hjk
            rw [if_pos ⟨rfl, rfl⟩, mkl_get _ _ _ _ hk, hv, e40]
          · rw [if_neg (fun q => hjk q.2)]; exact hA j (by omega)
  unfold f_X12_fetches
  exact hL n 0 σ 0 rfl (Nat.zero_le _) fr_rf (fun j hj => by omega)
theorem v_peaksOf (n : Nat) (σ : ms_T) (N : Nat) (hN : N < 64) (nI : Int32) (hn : nI.toInt = (N : Int)) : pr (f_X12_peaksOf n σ nI) (fun τ => WS τ (pks 6 N 0) ∧ fr [657] [42, 43] σ τ) := by
  unfold f_X12_peaksOf
  have hz : WS (ms_sI σ 657 0) [] := ⟨by rw [mI_sI, if_pos rfl]; rfl, fun k q h => by simp at h⟩
  have hmod : N % 2 ^ 31 ≤ N := Nat.mod_le _ _
  refine pr_l (pr_m (v_peaksOf_L n N nI hn n 31 _ [] 0 0 _ hz rfl (fun e' h => by have : e' = 30 := by omega
                                                                                  subst this; decide) (fun h => absurd h (by decide)) (by decide) (by omega)) (fun τ hτ => ⟨?_, fr_tr (fr_sI (by decide)) hτ.2⟩))
  have := hτ.1
  rw [List.nil_append, show (31 : Nat) = 6 + 25 by decide, pks_up (show N < 2 ^ 6 by omega)] at this
  exact this
/-! of the class -/
theorem ws_hS {R : Type} {P : R → Prop} {b : Nat} {x : Option R} {k : Nat → Option R} (h : ws (k b) P) : ws (hq_m (some b) x k) P := h
theorem k_headOf (n : Nat) (hn : 70000 ≤ n) (w : Nat) (α : hp_T) (m : Int32) (hm : 0 < m.toInt) (hmα : hp_I α 550 w = m) (lg : Nat) (L : List Int32) (hL : LM α lg L) (k : Nat) (hk : k ≤ L.length) (kI : Int32) (hkI : kI.toInt = (k : Int)) : ws (f_X10_headOf n α w (some lg) kI) (fun res => res.1 = TMK m L 0 k ∧ jf w α res.2) := by
  unfold f_X10_headOf
  refine ws_hS ?_
  exact ws_hc (k_treeMark n hn w α m hm hmα lg L hL 0 k (by omega) 0 kI rfl hkI) (fun r β hr => ws_s hr)
/-- the row for joining and a row change -/
def qf (w a : Nat) (α β : hp_T) : Prop := hp_R β = hp_R α ∧ hp_K β = hp_K α ∧ hp_Q β = hp_Q α ∧ hp_N β = hp_N α ∧ (∀ φ b, ¬ (b = a ∧ φ = 301) → hp_I β φ b = hp_I α φ b) ∧ ∀ κ b j, ¬ (κ = 33 ∧ b = hp_R α 557 w) → ¬ (κ = 20 ∧ b = hp_R α 300 a) → hp_E β κ b j = hp_E α κ b j
theorem qf_tr {w a : Nat} {α β γ : hp_T} (h : qf w a α β) (g : qf w a β γ) : qf w a α γ := by
  obtain ⟨h1, h2, h3, h4, h5, h6⟩ := h
  obtain ⟨g1, g2, g3, g4, g5, g6⟩ := g
  rw [h1] at g6
  exact ⟨g1.trans h1, g2.trans h2, g3.trans h3, g4.trans h4, fun φ b q => (g5 φ b q).trans (h5 φ b q), fun κ b j q1 q2 => (g6 κ b j q1 q2).trans (h6 κ b j q1 q2)⟩
theorem qf_j {w a : Nat} {α β : hp_T} (h : jf w α β) : qf w a α β := by
  obtain ⟨h1, h2, h3, h4, h5, h6⟩ := h
  exact ⟨h1, h2, h3, h4, fun φ b _ => by rw [h5], fun κ b j q1 _ => h6 κ b j q1⟩
theorem qf_e {w a : Nat} {α β : hp_T} (h : ef a α β) : qf w a α β := by
  obtain ⟨h1, h2, h3, h4, h5, h6⟩ := h
  exact ⟨h1, h2, h3, h4, h5, fun κ b j _ q2 => h6 κ b j q2⟩
theorem LM_qf {α β : hp_T} {w a lg : Nat} {L : List Int32} (h : LM α lg L) (f : qf w a α β) : LM β lg L := by
  obtain ⟨f1, -, -, -, f5, f6⟩ := f
  refine ⟨h.1, by rw [f5 152 lg (fun q => absurd q.2 (by decide))]; exact h.2.1, fun j hj => ?_⟩
  rw [f1, f6 29 _ _ (fun q => absurd q.1 (by decide)) (fun q => absurd q.1 (by decide))]
  exact h.2.2 j hj
theorem RWL_jf {α β : hp_T} {w a : Nat} {l : List Int32} (h : RWL α a l) (f : jf w α β) : RWL β a l := by
  obtain ⟨f1, -, -, -, f5, f6⟩ := f
  refine ⟨h.1, by rw [f5]; exact h.2.1, fun k hk => ?_⟩
  rw [f1, f6 20 _ _ (fun q => absurd q.1 (by decide))]
  exact h.2.2 k hk
theorem k_peaks_L (n : Nat) (hn : 70000 ≤ n) (w a : Nat) (α : hp_T) (m : Int32) (hm : 0 < m.toInt) (hmα : hp_I α 550 w = m) (lg : Nat) (L : List Int32) (hL : LM α lg L) (N : Nat) (hN : N ≤ L.length) (nI : Int32) (hnI : nI.toInt = (N : Int)) : ∀ (d e : Nat) (β : hp_T) (l : List Int32) (f : Nat) (fI pI : Int32), qf w a α β → RWL β a l → l.length + e ≤ 64 → fI.toInt = (f : Int) → (∀ e', e = e' + 1 → pI.toInt = ((2 ^ e' : Nat) : Int)) → (e = 0 → pI.toInt = 0) → e ≤ 6 → f + N % 2 ^ e ≤ N → e + 1 ≤ d → ws (f_X10_peaksOfs_L12 n w d β lg nI a fI pI) (fun γ => RWL γ a (l ++ mkl m L (pks e N f)) ∧ qf w a α γ) := by
  intro d
  induction d with
  | zero => intro e β l f fI pI hf hR hl h1 hp h0 he hb hd; omega
  | succ d ih =>
    intro e β l f fI pI hf hR hl h1 hp h0 he hb hd
    have l2 := t_2
    have h48 := hL.1
    rw [f_X10_peaksOfs_L12.eq_2]
    cases e with
    | zero =>
      have := h0 rfl
      refine ws_le (fun _ => ws_s ⟨?_, hf⟩) (fun h => by rw [lt0] at h; omega)
      show RWL β a (l ++ [])
      rw [List.append_nil]; exact hR
    | succ e =>
      have hpe := hp e rfl
      have hp1 : 1 ≤ 2 ^ e := Nat.one_le_two_pow
      have hp32 : 2 ^ e ≤ 2 ^ 5 := Nat.pow_le_pow_right (by decide) (by omega)
      have hmm : N % 2 ^ (e + 1) = N % 2 ^ e + 2 ^ e * (N / 2 ^ e % 2) := by rw [Nat.pow_succ, Nat.mod_mul]
      have hhalf : ∀ e', e = e' + 1 → (pI / (2 : Int32)).toInt = ((2 ^ e' : Nat) : Int) := by
        intro e' h
        rw [ii_div (by omega) (by decide), hpe, l2, h, Nat.pow_succ]; omega
      have hhalf0 : e = 0 → (pI / (2 : Int32)).toInt = 0 := by
        intro h
        rw [ii_div (by omega) (by decide), hpe, l2, h]; rfl
      have hand : (nI &&& pI) = 0 ↔ N / 2 ^ e % 2 = 0 := by
        obtain ⟨b1, b2⟩ := bN nI (by omega)
        obtain ⟨c1, c2⟩ := bN pI (by omega)
        have en : nI.toBitVec.toNat = N := by omega
        have ep : pI.toBitVec.toNat = 2 ^ e := by omega
        have ha := n_and nI pI
        rw [en, ep] at ha
        rw [← and_bit, ← ha]
        constructor
        · intro h; rw [h]; rfl
        · intro h
          refine Int32.toInt_inj.mp ?_
          rw [tI_N _ (by omega), h]; rfl
      unfold f_X10_peaksOfs_J44
      rw [pks]
      refine ws_le (fun h => by rw [lt0] at h; omega) (fun _ => ws_i (fun e1 => ws_l ?_) (fun e1 => ?_))
      · have h0' := hand.mp e1
        rw [if_pos h0']
        exact ih e β l f fI _ hf hR (by omega) h1 hhalf hhalf0 (by omega) (by rw [hmm, h0'] at hb; omega) (by omega)
      · have h1' : N / 2 ^ e % 2 = 1 := by have : ¬ N / 2 ^ e % 2 = 0 := fun h => e1 (hand.mpr h); omega
        rw [if_neg (by omega)]
        rw [hmm, h1'] at hb
        have i550 : hp_I β 550 w = m := by rw [hf.2.2.2.2.1 550 w (fun q => absurd q.2 (by decide))]; exact hmα
        refine ws_hc (k_treeMark n hn w β m hm i550 lg L (LM_qf hL hf) f (2 ^ e) (by omega) fI pI h1 hpe) (fun v γ hv => ws_b (k_rput n (RWL_jf hR hv.2) (by omega) v) (fun δ hδ => ws_l (ws_l ?_)))
        have := ih e δ (l ++ [v]) (f + 2 ^ e) (fI + pI) (pI / 2) (qf_tr hf (qf_tr (qf_j hv.2) (qf_e hδ.2))) hδ.1 (by rw [List.length_append]; simp; omega) (by rw [ii_add (by omega) (by omega), h1, hpe]; omega) hhalf hhalf0 (by omega) (by omega) (by omega)
        have hv1 : v = TMK m L f (2 ^ e) := hv.1
        rw [List.append_assoc, List.singleton_append, hv1] at this
        exact this
theorem k_peaksOf (n : Nat) (hn : 70000 ≤ n) (w a : Nat) (α : hp_T) (m : Int32) (hm : 0 < m.toInt) (hmα : hp_I α 550 w = m) (lg : Nat) (L : List Int32) (hL : LM α lg L) (N : Nat) (hN : N ≤ L.length) (nI : Int32) (hnI : nI.toInt = (N : Int)) (l : List Int32) (hR : RWL α a l) : ws (f_X10_peaksOf n α w (some lg) nI a) (fun γ => RWL γ a (mkl m L (pks 6 N 0)) ∧ qf w a α γ) := by
  have h48 := hL.1
  show ws (ms_b _ _) _
  refine ws_b (k_rshort n hR 0 (Nat.zero_le _) 0 rfl) (fun β hβ => ?_)
  rw [List.take_zero] at hβ
  have i550 : hp_I α 550 w = m := hmα
  have := k_peaks_L n hn w a α m hm hmα lg L hL N hN nI hnI n 6 β [] 0 0 32 (qf_e hβ.2) hβ.1 (by decide) rfl (fun e' h => by have : e' = 5 := by omega
                                                                                                                             subst this; decide) (fun h => absurd h (by decide)) (by decide) (by have := Nat.mod_le N (2 ^ 6); omega) (by omega)
  rw [List.nil_append] at this
  exact this
/-! ===== freeze ===== -/
def frF (f : Nat → Int32) (r i : Nat) (g : Nat → Int32) : Prop := (g (92 + 10 * i)).toInt = (r : Int) ∧ g (93 + 10 * i) = f (72 + r) ∧ g (94 + 10 * i) = TMK (f 1) (EL f r) 0 (f (72 + r)).toInt.toNat ∧ g (95 + 10 * i) = f 4 ∧ (∀ k, k < (pks 6 (f (72 + r)).toInt.toNat 0).length → some (g (96 + 10 * i + k)) = (mkl (f 1) (EL f r) (pks 6 (f (72 + r)).toInt.toNat 0))[k]?) ∧ g 3 = f 3 + 1 ∧ g 4 = f 4 + 1 ∧ ∀ j, ¬ (92 + 10 * i ≤ j ∧ j < 92 + 10 * i + 10) → j ≠ 3 → j ≠ 4 → g j = f j
theorem fr_mo {wI wE vI vE : List Nat} {σ τ : ms_T} (h : fr wI wE σ τ) (h1 : ∀ x ∈ wI, x ∈ vI) (h2 : ∀ x ∈ wE, x ∈ vE) : fr vI vE σ τ := ⟨fun φ hφ => h.1 φ (fun q => hφ (h1 φ q)), fun κ hκ j => h.2 κ (fun q => hκ (h2 κ q)) j⟩
theorem pks_pkn : ∀ n, n < 64 → (pks 6 n 0).length = pkn n := by decide +kernel
/-- cells that matter for a record's marks -/
theorem EL_c {f g : Nat → Int32} {r : Nat} (hC : rC f) (hr : r < 4) (h1 : g 1 = f 1) (h72 : g (72 + r) = f (72 + r)) (h : ∀ j, 252 ≤ j → j < 1980 → g j = f j) : EL g r = EL f r := by
  unfold EL
  rw [h72]
  have hs := hC.2.2.2.2.1 r hr
  refine List.map_congr_left (fun i hi => ?_)
  have hi2 := List.mem_range.mp hi
  have hl := hC.2.2.2.2.2.2.2.2 (48 * r + i) (by omega)
  exact EM_c h1 (h _ (by omega) (by omega)) (fun k hk => h _ (by omega) (by omega))
theorem v_freezes_L (n : Nat) (f : Nat → Int32) (b : Nat) (hb : b + 10 ≤ 252) (hb92 : 92 ≤ b) (bI : Int32) (hbI : bI.toInt = (b : Int)) (ml : List Int32) (hml : ml.length ≤ 6) (pl : List (Nat × Nat × Bool)) (hpl : pl.length = ml.length) (σ0 : ms_T) : ∀ (d k : Nat) (σ : ms_T) (kI : Int32), kI.toInt = (k : Int) → k ≤ ml.length → WS σ pl → MKS σ ml → (∀ j, j < k → some (ms_E σ 40 (b + 4 + j)) = ml[j]?) → (∀ j, ¬ (b + 4 ≤ j ∧ j < b + 10) → ms_E σ 40 j = f j) → 0 ≤ (f 3).toInt → (f 3).toInt ≤ 16 → fr [] [40] σ0 σ → pr (f_X12_freezes_L98 n d σ bI kI) (fun res => res.1 = f 3 ∧ (∀ j, j < ml.length → some (ms_E res.2 40 (b + 4 + j)) = ml[j]?) ∧ ms_E res.2 40 3 = f 3 + 1 ∧ ms_E res.2 40 4 = f 4 + 1 ∧ (∀ j, ¬ (b + 4 ≤ j ∧ j < b + 10) → j ≠ 3 → j ≠ 4 → ms_E res.2 40 j = f j) ∧ fr [] [40] σ0 res.2) := by
  intro d
  induction d with
  | zero => intro k σ kI h1 h2 hW hM hA hB h3 h4 hf; rw [f_X12_freezes_L98.eq_1]; exact pr_0
  | succ d ih =>
    intro k σ kI h1 h2 hW hM hA hB h3 h4 hf
    have L4 := t_4
    rw [f_X12_freezes_L98.eq_2]
    refine pr_le (fun e => ?_) (fun e => ?_)
    · rw [hW.1] at e
      have hk : k = ml.length := by omega
      have f3 : ms_E σ 40 3 = f 3 := hB 3 (by omega)
      have f4 : ms_E σ 40 4 = f 4 := hB 4 (by omega)
      rw [c3, c4]
      refine pr_g (fun _ _ => pr_g (fun _ _ => pr_l (pr_g (fun _ _ => pr_g (fun _ _ => pr_l (pr_g (fun _ _ => pr_s ⟨?_, fun j hj => ?_, ?_, ?_, fun j j1 j2 j3 => ?_, fr_tr hf (fr_tr (fr_sE (by decide)) (fr_sE (by decide)))⟩)))))))
      · rw [mE_sE, if_neg (by omega), mE_sE, if_pos ⟨rfl, rfl⟩, f3]
        refine Int32.toInt_inj.mp ?_
        have e1 : (f 3 + 1).toInt = (f 3).toInt + 1 := by rw [ii_add (by rw [lt1]; omega) (by rw [lt1]; omega), lt1]
        rw [ii_sub (by rw [lt1]; omega) (by rw [lt1]; omega), e1, lt1]; omega
      · rw [mE_sE, if_neg (by omega), mE_sE, if_neg (by omega)]; exact hA j (by omega)
      · rw [mE_sE, if_neg (by omega), mE_sE, if_pos ⟨rfl, rfl⟩, f3]
      · rw [mE_sE, if_pos ⟨rfl, rfl⟩, mE_sE, if_neg (by omega), f4]
      · rw [mE_sE, if_neg (by omega), mE_sE, if_neg (by omega)]; exact hB j j1
    · rw [hW.1] at e
      have hk : k < ml.length := by omega
      have e4 : (bI + (4 : Int32)).toInt = ((b + 4 : Nat) : Int) := by rw [ii_add (by omega) (by omega), hbI, L4]; omega
      have e5 : ((bI + (4 : Int32)) + kI).toInt = ((b + 4 + k : Nat) : Int) := by rw [ii_add (by omega) (by omega), e4, h1]; omega
      rw [cl_n e5, cl_n h1]
      refine pr_g (fun _ _ => pr_g (fun _ _ => pr_l (pr_l (ih (k + 1) _ _ ?_ (by omega) ⟨hW.1, fun j q hq => ?_⟩ (fun j hj => ?_) (fun j hj => ?_) (fun j j1 => ?_) h3 h4 (fr_tr hf (fr_sE (by decide)))))))
      · rw [ii_add (by rw [lt1]; omega) (by rw [lt1]; omega), h1, lt1]; omega
      · rw [mE_sE, if_neg (fun q => absurd q.1 (by decide)), mE_sE, if_neg (fun q => absurd q.1 (by decide))]; exact hW.2 j q hq
      · rw [mE_sE, if_neg (fun q => absurd q.1 (by decide))]; exact hM j hj
      · rw [mE_sE]
        by_cases hjk : j = k
        · subst hjk; rw [if_pos ⟨rfl, rfl⟩]; exact hM j hk
        · rw [if_neg (by omega)]; exact hA j (by omega)
      · rw [mE_sE, if_neg (by omega)]; exact hB j j1
theorem pks_in : ∀ n, n < 64 → ∀ q ∈ pks 6 n 0, q.1 + q.2.1 ≤ n := by decide +kernel
theorem pks_six : ∀ n, n < 64 → (pks 6 n 0).length ≤ 6 := by decide +kernel
theorem rC_fz {f g : Nat → Int32} (hC : rC f) (i : Nat) (hi : i < 16) (h : ∀ j, ¬ (92 + 10 * i ≤ j ∧ j < 92 + 10 * i + 10) → g j = f j) (ha : 0 ≤ (g (92 + 10 * i)).toInt ∧ (g (92 + 10 * i)).toInt ≤ 3) (hb : 0 ≤ (g (93 + 10 * i)).toInt ∧ (g (93 + 10 * i)).toInt ≤ 48) : rC g := by
  obtain ⟨a, b, c, d, e, e2, e3, e4, e5⟩ := hC
  refine ⟨by rw [h 0 (by omega)]; exact a, by rw [h 1 (by omega)]; exact b, by rw [h 2 (by omega)]; exact c, by rw [h 3 (by omega)]; exact d, fun r hr => by rw [h (72 + r) (by omega)]; exact e r hr, fun w hw => by rw [h (76 + 4 * w) (by omega)]; exact e2 w hw, fun q hq => ?_, fun q hq => ?_, fun q hq => by rw [h (252 + q) (by omega)]; exact e5 q hq⟩
  · by_cases hqi : q = i
    · subst hqi; exact ha
    · rw [h (92 + 10 * q) (by omega)]; exact e3 q hq
  · by_cases hqi : q = i
    · subst hqi; exact hb
    · rw [h (93 + 10 * q) (by omega)]; exact e4 q hq
theorem v_freezes (n : Nat) (σ : ms_T) (hC : rC (ms_E σ 40)) (r : Nat) (hr : r < (ms_E σ 40 0).toInt.toNat) (rI : Int32) (hrI : rI.toInt = (r : Int)) : pr (f_X12_freezes n σ rI) (fun res => ((ms_E σ 40 3).toInt = 16 → res.1 = -1 ∧ res.2 = ms_sI σ 652 3) ∧ ((ms_E σ 40 3).toInt < 16 → res.1 = ms_E σ 40 3 ∧ frF (ms_E σ 40) r (ms_E σ 40 3).toInt.toNat (ms_E res.2 40) ∧ fr [657] [40, 42, 43, 44] σ res.2)) := by
  have h4 := hC.1
  have hs := hC.2.2.2.2.1 r (by omega)
  have h16 := hC.2.2.2.1
  have L16 := t_16
  have L92 := t_92
  have L10 := t_10
  have L3 := t_3
  have L2 := t_2
  obtain ⟨i, hi⟩ : ∃ i, i = (ms_E σ 40 3).toInt.toNat := ⟨_, rfl⟩
  unfold f_X12_freezes
  rw [c3, c4]
  refine pr_g (fun _ _ => pr_e (fun e => ?_) (fun e => pr_g (fun _ _ => pr_ln (fun x hx => ?_))))
  · have h16' : (ms_E σ 40 3).toInt = 16 := by rw [e]; exact L16
    unfold f_X12_refuse
    exact pr_c (T := fun res => res.1 = -1 ∧ res.2 = ms_sI σ 652 3) (pr_l (pr_s ⟨rfl, rfl⟩)) (fun a τ hτ => pr_s ⟨fun _ => hτ, fun h => by omega⟩)
  · rw [L16] at e
    have hi16 : i < 16 := by omega
    have e10 : ((10 : Int32) * ms_E σ 40 3).toInt = ((10 * i : Nat) : Int) := by rw [ii_mul (by rw [L10]; omega) (by rw [L10]; omega), L10]; omega
    have ex : x.toInt = ((92 + 10 * i : Nat) : Int) := by rw [hx, ii_add (by omega) (by omega), L92, e10]; omega
    have ex1 : (x + 1).toInt = ((93 + 10 * i : Nat) : Int) := by rw [ii_add (by rw [lt1]; omega) (by rw [lt1]; omega), ex, lt1]; omega
    have ex2 : (x + 2).toInt = ((94 + 10 * i : Nat) : Int) := by rw [ii_add (by rw [L2]; omega) (by rw [L2]; omega), ex, L2]; omega
    have ex3 : (x + 3).toInt = ((95 + 10 * i : Nat) : Int) := by rw [ii_add (by rw [L3]; omega) (by rw [L3]; omega), ex, L3]; omega
    rw [cl_n ex, cl_n ex1, cl_n ex2, cl_n ex3]
    -- the head of the record, its place being told first
    have key : ∀ τ : ms_T, (∀ j, ¬ (92 + 10 * i ≤ j ∧ j < 92 + 10 * i + 10) → ms_E τ 40 j = ms_E σ 40 j) → ms_E τ 40 (72 + r) = ms_E σ 40 (72 + r) ∧ ms_E τ 40 1 = ms_E σ 40 1 ∧ EL (ms_E τ 40) r = EL (ms_E σ 40) r := by
      intro τ hτ
      have a1 := hτ (72 + r) (by omega)
      have a2 := hτ 1 (by omega)
      exact ⟨a1, a2, EL_c hC (by omega) a2 a1 (fun j j1 j2 => hτ j (by omega))⟩
    obtain ⟨v, hv⟩ : ∃ v, v = ms_E σ 40 (72 + r) := ⟨_, rfl⟩
    obtain ⟨N, hN⟩ : ∃ N, N = v.toInt.toNat := ⟨_, rfl⟩
    have hvN : v.toInt = (N : Int) := by rw [hN]; rw [← hv] at hs; omega
    have hN48 : N ≤ 48 := by rw [← hv] at hs; omega
    refine pr_g (fun _ _ => pr_ln (fun σ1 hσ1 => ?_))
    have q1 : ∀ j, j ≠ 92 + 10 * i → ms_E σ1 40 j = ms_E σ 40 j := fun j hj => by rw [hσ1, mE_sE, if_neg (by omega)]
    have p1 : ms_E σ1 40 (92 + 10 * i) = rI := by rw [hσ1, mE_sE, if_pos ⟨rfl, rfl⟩]
    have f1 : fr [] [40] σ σ1 := by rw [hσ1]; exact fr_sE (by decide)
    refine pr_b (v_sizeOf n σ1 r (by omega) rI hrI) (fun w hw => ?_)
    rw [q1 _ (by omega), ← hv] at hw
    subst hw
    refine pr_g (fun _ _ => pr_ln (fun σ2 hσ2 => ?_))
    have q2 : ∀ j, j ≠ 92 + 10 * i → j ≠ 93 + 10 * i → ms_E σ2 40 j = ms_E σ 40 j := fun j hj hj2 => by rw [hσ2, mE_sE, if_neg (by omega)]; exact q1 j hj
    have p2 : ms_E σ2 40 (92 + 10 * i) = rI := by rw [hσ2, mE_sE, if_neg (by omega)]; exact p1
    have p2b : ms_E σ2 40 (93 + 10 * i) = w := by rw [hσ2, mE_sE, if_pos ⟨rfl, rfl⟩]
    have f2 : fr [] [40] σ σ2 := by rw [hσ2]; exact fr_tr f1 (fr_sE (by decide))
    have k2 := key σ2 (fun j hj => q2 j (by omega) (by omega))
    have C2 : rC (ms_E σ2 40) := rC_fz hC i hi16 (fun j hj => q2 j (by omega) (by omega)) (by rw [p2, hrI]; omega) (by rw [p2b, hvN]; omega)
    refine pr_b (v_sizeOf n σ2 r (by omega) rI hrI) (fun w2 hw2 => ?_)
    rw [k2.1, ← hv] at hw2
    subst hw2
    refine pr_b (v_headOf n σ2 C2 r (by omega) rI hrI N w2 hvN (by rw [k2.2.2, EL_len, ← hv]; omega)) (fun hd hhd => ?_)
    rw [k2.2.1, k2.2.2] at hhd
    refine pr_g (fun _ _ => pr_ln (fun σ3 hσ3 => pr_g (fun _ _ => pr_g (fun _ _ => pr_ln (fun σ4 hσ4 => ?_)))))
    have q4 : ∀ j, ¬ (92 + 10 * i ≤ j ∧ j < 96 + 10 * i) → ms_E σ4 40 j = ms_E σ 40 j := fun j hj => by rw [hσ4, mE_sE, if_neg (by omega), hσ3, mE_sE, if_neg (by omega)]; exact q2 j (by omega) (by omega)
    have p4 : ms_E σ4 40 (92 + 10 * i) = rI ∧ ms_E σ4 40 (93 + 10 * i) = w2 ∧ ms_E σ4 40 (94 + 10 * i) = hd ∧ ms_E σ4 40 (95 + 10 * i) = ms_E σ 40 4 := by
      refine ⟨?_, ?_, ?_, ?_⟩
      · rw [hσ4, mE_sE, if_neg (by omega), hσ3, mE_sE, if_neg (by omega)]; exact p2
      · rw [hσ4, mE_sE, if_neg (by omega), hσ3, mE_sE, if_neg (by omega)]; exact p2b
      · rw [hσ4, mE_sE, if_neg (by omega), hσ3, mE_sE, if_pos ⟨rfl, rfl⟩]
      · rw [hσ4, mE_sE, if_pos ⟨rfl, rfl⟩, hσ3, mE_sE, if_neg (by omega)]; exact q2 4 (by omega) (by omega)
    have f4 : fr [] [40] σ σ4 := by rw [hσ4, hσ3]; exact fr_tr f2 (fr_tr (fr_sE (by decide)) (fr_sE (by decide)))
    have k4 := key σ4 (fun j hj => q4 j (by omega))
    have C4 : rC (ms_E σ4 40) := rC_fz hC i hi16 (fun j hj => q4 j (by omega)) (by rw [p4.1, hrI]; omega) (by rw [p4.2.1, hvN]; omega)
    refine pr_b (v_sizeOf n σ4 r (by omega) rI hrI) (fun w3 hw3 => ?_)
    rw [k4.1, ← hv] at hw3
    subst hw3
    refine pr_b (v_peaksOf n σ4 N (by omega) w3 hvN) (fun σ5 h5 => ?_)
    have e5 : ms_E σ5 40 = ms_E σ4 40 := funext (h5.2.2 40 (by decide))
    refine pr_b (v_fetches n σ5 (by rw [e5]; exact C4) r (by omega) rI hrI (pks 6 N 0) h5.1 (fun q hq => ?_)) (fun σ6 h6 => ?_)
    · rw [e5, k4.2.2, EL_len, ← hv, ← hN]
      exact pks_in N (by omega) q hq
    rw [e5, k4.2.1, k4.2.2] at h6
    have e6 : ms_E σ6 40 = ms_E σ4 40 := (funext (h6.2.2.2 40 (by decide))).trans e5
    have f6 : fr [657] [40, 42, 43, 44] σ σ6 := fr_tr (fr_mo f4 (by decide) (by decide)) (fr_tr (fr_mo h5.2 (by decide) (by decide)) (fr_mo h6.2.2 (by decide) (by decide)))
    have hl6 : (pks 6 N 0).length ≤ 6 := pks_six N (by omega)
    refine pr_m (v_freezes_L n (ms_E σ4 40) (92 + 10 * i) (by omega) (by omega) x ex (mkl (ms_E σ 40 1) (EL (ms_E σ 40) r) (pks 6 N 0)) (by rw [mkl_len]; exact hl6) (pks 6 N 0) (by rw [mkl_len]) σ6 n 0 σ6 0 rfl (Nat.zero_le _) h6.2.1 h6.1 (fun j hj => by omega) (fun j _ => by rw [e6]) (by rw [q4 3 (by omega)]; omega) (by rw [q4 3 (by omega)]; omega) fr_rf) (fun res hres => ⟨fun h => by omega, fun _ => ?_⟩)
    obtain ⟨r1, r2, r3, r4, r5, r6⟩ := hres
    rw [q4 3 (by omega)] at r1 r3
    rw [q4 4 (by omega)] at r4
    rw [← hi]
    refine ⟨r1, ⟨?_, ?_, ?_, ?_, fun k hk => ?_, r3, r4, fun j j1 j2 j3 => ?_⟩, fr_tr f6 (fr_mo r6 (by decide) (by decide))⟩
    · rw [r5 _ (by omega) (by omega) (by omega), p4.1]; exact hrI
    · rw [r5 _ (by omega) (by omega) (by omega), p4.2.1, hv]
    · rw [r5 _ (by omega) (by omega) (by omega), p4.2.2.1, hhd, ← hv, ← hN]
    · rw [r5 _ (by omega) (by omega) (by omega), p4.2.2.2]
    · rw [← hv, ← hN] at hk ⊢
      have := r2 k (by rw [mkl_len]; exact hk)
      rw [show 92 + 10 * i + 4 + k = 96 + 10 * i + k by omega] at this
      exact this
    · rw [r5 j (by omega) j2 j3]; exact q4 j (by omega)
/-! ===== the class freezes ===== -/
theorem k_logAt (n : Nat) {α : hp_T} {w : Nat} {f : Nat → Int32} (h : WR α w f) (hC : rC f) (rI : Int32) : ws (f_X10_logAt n α w rI) (fun o => o = if 0 ≤ rI.toInt ∧ rI.toInt < (f 0).toInt then some (lpA w rI.toInt.toNat) else none) := by
  have h4 := hC.1
  have L4 := t_4
  have e552 := h.2.1.2.1
  unfold f_X10_logAt
  refine ws_lt (fun e => ?_) (fun e => ws_l (ws_le (fun e1 => ?_) (fun e1 => ws_l (ws_le (fun e2 => ?_) (fun e2 => ws_l (ws_g (by rw [lt0] at e; omega) (by rw [e552] at e1; omega) ?_))))))
  · rw [lt0] at e
    rw [if_neg (by omega)]; exact ws_s rfl
  · rw [e552] at e1
    rw [if_neg (by omega)]; exact ws_s rfl
  · rw [e552] at e1; omega
  · rw [lt0] at e
    rw [e552] at e1
    rw [if_pos ⟨by omega, by omega⟩, h.1.1, cl_n (k := rI.toInt.toNat) (by omega), h.1.2.2.2.2.2.2.1 rI.toInt.toNat (by omega)]
    exact ws_s rfl
theorem LM_c {α β : hp_T} {lg : Nat} {L : List Int32} (h : LM α lg L) (eR : hp_R β = hp_R α) (eI : hp_I β 152 lg = hp_I α 152 lg) (eE : hp_E β = hp_E α) : LM β lg L := by
  refine ⟨h.1, by rw [eI]; exact h.2.1, fun j hj => ?_⟩
  rw [eR, eE]
  exact h.2.2 j hj
theorem RWL_any {α : hp_T} {a : Nat} (h0 : 0 ≤ (hp_I α 301 a).toInt) (h1 : (hp_I α 301 a).toInt ≤ 64) : ∃ l, RWL α a l := by
  obtain ⟨N, hN⟩ : ∃ N, N = (hp_I α 301 a).toInt.toNat := ⟨_, rfl⟩
  refine ⟨(List.range N).map (fun k => hp_E α 20 (hp_R α 300 a) k), by rw [List.length_map, List.length_range]; omega, by rw [List.length_map, List.length_range]; omega, fun k hk => ?_⟩
  rw [List.length_map, List.length_range] at hk
  rw [List.getElem?_map, List.getElem?_range hk]
  rfl
theorem ltr_k {f g : Nat → Int32} {r i : Nat} (h : ∀ j, 252 ≤ j → g j = f j) : ltr g r i = ltr f r i := by
  unfold ltr
  rw [h _ (by omega)]
  exact List.map_congr_left (fun k hk => h _ (by omega))
theorem EM_c1 {f g : Nat → Int32} {r i : Nat} (h1 : g 1 = f 1) (h : ∀ j, 252 ≤ j → g j = f j) : EM g r i = EM f r i := by
  rw [EM_l, EM_l, ltr_k h, h1]
/-- what freezing leaves in the class -/
theorem WR_frz {α β : hp_T} {w : Nat} {f g : Nat → Int32} {r i : Nat} (h : WR α w f) (hC : rC f) (hr : r < (f 0).toInt.toNat) (hi : i = (f 3).toInt.toNat) (hi16 : i < 16) (eR : hp_R β = hp_R α) (eQ : hp_Q β = hp_Q α) (eI : ∀ φ b, ¬ (b = fzA w i ∧ 100 ≤ φ ∧ φ ≤ 103) → ¬ (b = fzA w i + 1 ∧ φ = 301) → ¬ (b = w ∧ (φ = 554 ∨ φ = 556)) → hp_I β φ b = hp_I α φ b) (eE : ∀ κ b j, ¬ (κ = 33 ∧ b = w + 4) → ¬ (κ = 20 ∧ b = fzA w i + 2) → hp_E β κ b j = hp_E α κ b j) (e3 : hp_I β 554 w = f 3 + 1) (e4 : hp_I β 556 w = f 4 + 1) (hz : (hp_I β 100 (fzA w i)).toInt = (r : Int) ∧ hp_I β 101 (fzA w i) = f (72 + r) ∧ hp_I β 102 (fzA w i) = TMK (f 1) (EL f r) 0 (f (72 + r)).toInt.toNat ∧ hp_I β 103 (fzA w i) = f 4) (hR : RWL β (fzA w i + 1) (mkl (f 1) (EL f r) (pks 6 (f (72 + r)).toInt.toNat 0))) (hg : frF f r i g) : WR β w g := by
  obtain ⟨g1, g2, g3, g4, g5, g6, g7, g8⟩ := hg
  obtain ⟨h1, h2, h3, hF, hW, hX⟩ := h
  have b4 := hC.1
  have hs := hC.2.2.2.2.1 r (by omega)
  have b16 := hC.2.2.2.1
  have c0 : g 0 = f 0 := g8 0 (by omega) (by decide) (by decide)
  have c1 : g 1 = f 1 := g8 1 (by omega) (by decide) (by decide)
  have c252 : ∀ j, 252 ≤ j → g j = f j := fun j hj => g8 j (by omega) (by omega) (by omega)
  have hSβ : SHW β w := SHW_e h1 eR eQ
  have hg3 : (g 3).toInt = (i : Int) + 1 := by rw [g6, ii_add (by rw [lt1]; omega) (by rw [lt1]; omega), lt1]; omega
  refine ⟨hSβ, ⟨?_, ?_, ?_, ?_⟩, fun q hq => ?_, fun q hq => ?_, fun q hq => ?_, fun q hq => ?_⟩
  · rw [eI 550 w (by unfold fzA; omega) (by unfold fzA; omega) (by omega), c1]; exact h2.1
  · rw [eI 552 w (by unfold fzA; omega) (by unfold fzA; omega) (by omega), c0]; exact h2.2.1
  · rw [e3, g6]
  · rw [e4, g7]
  · rw [c0] at hq
    have c72 : g (72 + q) = f (72 + q) := g8 _ (by omega) (by omega) (by omega)
    have hsq := hC.2.2.2.2.1 q (by omega)
    rw [c72]
    refine ⟨by rw [eI 152 _ (by omega) (by omega) (by omega)]; exact (h3 q hq).1, fun e he => ?_⟩
    obtain ⟨⟨d1, d2, d3, d4⟩, d5⟩ := (h3 q hq).2 e he
    have hsh := (h1.2.2.2.2.2.2.2.2.2.2.2.1 q (by omega)).2.2 e (by omega)
    unfold EN
    rw [ltr_k c252, EM_c1 c1 c252]
    refine ⟨⟨d1, by rw [eI 501 _ (by omega) (by omega) (by omega)]; exact d2, fun k hk => ?_, d4⟩, ?_⟩
    · rw [eR, eE 27 _ k (by omega) (by omega)]; exact d3 k hk
    · rw [eE 29 _ e (by omega) (by omega)]; exact d5
  · by_cases hqi : q = i
    · subst hqi
      have hpk : pkn (g (93 + 10 * q)).toInt.toNat = (pks 6 (f (72 + r)).toInt.toNat 0).length := by rw [g2]; exact (pks_pkn _ (by omega)).symm
      have hshz := h1.2.2.2.2.2.2.2.2.2.2.2.2 q hi16
      refine ⟨Int32.toInt_inj.mp (by rw [hz.1, g1]), by rw [hz.2.1, g2], by rw [hz.2.2.1, g3], by rw [hz.2.2.2, g4], ?_, fun k hk hP => ?_⟩
      · intro hP; rw [hR.2.1, mkl_len, hpk]
      · rw [hpk] at hk
        have := hR.2.2 k (by rw [mkl_len]; exact hk)
        rw [eR, hshz.2, ← g5 k hk] at this
        exact Option.some.inj this
    · have hqlt : q < i := by omega
      obtain ⟨d1, d2, d3, d4, d5, d6⟩ := hF q (by omega)
      have e : ∀ k, k < 10 → g (92 + 10 * q + k) = f (92 + 10 * q + k) := fun k hk => g8 _ (by omega) (by omega) (by omega)
      have e93 : g (93 + 10 * q) = f (93 + 10 * q) := g8 _ (by omega) (by omega) (by omega)
      have hp : pkn (f (93 + 10 * q)).toInt.toNat ≤ 6 := by unfold pkn; omega
      refine ⟨?_, ?_, ?_, ?_, ?_, fun k hk hP => ?_⟩
      · rw [eI 100 _ (by unfold fzA; omega) (by unfold fzA; omega) (by omega), d1]; exact (e 0 (by omega)).symm
      · rw [eI 101 _ (by unfold fzA; omega) (by unfold fzA; omega) (by omega), d2, e93]
      · rw [eI 102 _ (by unfold fzA; omega) (by unfold fzA; omega) (by omega), d3]; exact (g8 _ (by omega) (by omega) (by omega)).symm
      · rw [eI 103 _ (by unfold fzA; omega) (by unfold fzA; omega) (by omega), d4]; exact (g8 _ (by omega) (by omega) (by omega)).symm
      · rw [eI 301 _ (by unfold fzA; omega) (by unfold fzA; omega) (by omega), e93]; exact d5
      · rw [e93] at hk
        rw [eE 20 _ k (by omega) (by unfold fzA; omega), d6 k hk hP]; exact (g8 _ (by omega) (by omega) (by omega)).symm
  · obtain ⟨d1, d2, d3, d4⟩ := hW q hq
    have hI : ∀ φ, 400 ≤ φ → φ ≤ 403 → hp_I β φ (wtA w q) = hp_I α φ (wtA w q) := fun φ _ _ => eI φ _ (by omega) (by omega) (by omega)
    refine ⟨?_, ?_, ?_, ?_⟩
    · rw [hI 400 (by decide) (by decide), d1]; exact (g8 _ (by omega) (by omega) (by omega)).symm
    · rw [hI 401 (by decide) (by decide), d2]; exact (g8 _ (by omega) (by omega) (by omega)).symm
    · rw [hI 403 (by decide) (by decide), d3]; exact (g8 _ (by omega) (by omega) (by omega)).symm
    · rw [hI 402 (by decide) (by decide), d4]; exact (g8 _ (by omega) (by omega) (by omega)).symm
  · by_cases hqi : q = i
    · subst hqi
      rw [hR.2.1, mkl_len]
      have := pks_six (f (72 + r)).toInt.toNat (by omega)
      omega
    · rw [eI 301 _ (by unfold fzA; omega) (by unfold fzA; omega) (by omega)]; exact hX q hq
/-- what stays, of all that is not in a world -/
def wfr (w : Nat) (α β : hp_T) : Prop := hp_R β = hp_R α ∧ hp_K β = hp_K α ∧ hp_Q β = hp_Q α ∧ hp_N β = hp_N α ∧ (∀ φ b, b < w ∨ w + 459 ≤ b → hp_I β φ b = hp_I α φ b) ∧ ∀ κ b j, b < w ∨ w + 459 ≤ b → hp_E β κ b j = hp_E α κ b j
theorem k_freezeHead (n : Nat) (hn : 70000 ≤ n) (α : hp_T) (w : Nat) (f : Nat → Int32) (h : WR α w f) (hC : rC f) (r : Nat) (hr : r < (f 0).toInt.toNat) (h16 : (f 3).toInt < 16) (rI : Int32) (hrI : rI.toInt = (r : Int)) : ws (f_X10_freezeHead n α w rI) (fun res => res.1 = f 3 ∧ (∀ g, frF f r (f 3).toInt.toNat g → WR res.2 w g) ∧ wfr w α res.2 ∧ hp_I res.2 301 (w + 5) = hp_I α 301 (w + 5)) := by
  have b4 := hC.1
  have b16 := hC.2.2.2.1
  have hs := hC.2.2.2.2.1 r (by omega)
  have L16 := t_16
  obtain ⟨i, hi⟩ : ∃ i, i = (f 3).toInt.toNat := ⟨_, rfl⟩
  have e554 := h.2.1.2.2.1
  have hcl : (hp_I α 554 w).toNatClampNeg = i := cl_n (by rw [e554]; omega)
  have hq : hp_Q α 31 (hp_R α 553 w) (hp_I α 554 w).toNatClampNeg = some (fzA w i) := by rw [hcl, h.1.2.1]; exact h.1.2.2.2.2.2.2.2.1 i (by omega)
  unfold f_X10_freezeHead
  refine ws_b (k_logAt n h hC rI) (fun o ho => ?_)
  rw [if_pos ⟨by omega, by omega⟩, hrI] at ho
  rw [show ((r : Int)).toNat = r by omega] at ho
  subst ho
  refine ws_hS (ws_l (ws_lt (fun e => by rw [lt0, e554] at e; omega) (fun _ => ws_l (ws_l (ws_le (fun e => by rw [e554] at e; omega) (fun _ => ws_l (ws_l (ws_g (by rw [e554]; omega) (by rw [e554]; omega) ?_))))))))
  rw [hq]
  refine ws_hS (ws_l (ws_l (ws_g (by rw [e554]; omega) (by rw [e554]; omega) ?_)))
  rw [hq]
  refine ws_hS (ws_ln (fun α1 hα1 => ws_ln (fun x1 hx1 => ws_ln (fun α2 hα2 => ws_ln (fun x2 hx2 => ?_)))))
  have q152 : hp_I α 152 (lpA w r) = f (72 + r) := (h.2.2.1 r hr).1
  have x1e : x1 = f (72 + r) := by rw [hx1, hα1, hI_sI, if_neg (by omega)]; exact q152
  have i2 : ∀ φ b, ¬ (b = fzA w i ∧ (φ = 100 ∨ φ = 101)) → hp_I α2 φ b = hp_I α φ b := fun φ b q => by rw [hα2, hI_sI, if_neg (by omega), hα1, hI_sI, if_neg (by omega)]
  have x2e : x2 = f (72 + r) := by rw [hx2, i2 152 _ (by omega)]; exact q152
  have r2 : hp_R α2 = hp_R α ∧ hp_K α2 = hp_K α ∧ hp_Q α2 = hp_Q α ∧ hp_N α2 = hp_N α ∧ hp_E α2 = hp_E α := by rw [hα2, hα1]; exact ⟨rfl, rfl, rfl, rfl, rfl⟩
  have L0 := WR_LM h hC hr
  have L2 : LM α2 (lpA w r) (EL f r) := LM_c L0 r2.1 (i2 152 _ (by omega)) r2.2.2.2.2
  have hm : 0 < (f 1).toInt := by have := hC.2.1; omega
  obtain ⟨N, hN⟩ : ∃ N, N = (f (72 + r)).toInt.toNat := ⟨_, rfl⟩
  refine ws_hc (k_headOf n hn w α2 (f 1) hm (by rw [i2 550 w (by omega)]; exact h.2.1.1) (lpA w r) (EL f r) L2 N (by rw [EL_len]; omega) x2 (by rw [x2e]; omega)) (fun v β hv => ?_)
  obtain ⟨hv1, j1, j2, j3, j4, j5, j6⟩ := hv
  refine ws_ln (fun α3 hα3 => ws_ln (fun x3 hx3 => ws_ln (fun α4 hα4 => ws_ln (fun x4 hx4 => ws_l ?_))))
  have i4 : ∀ φ b, ¬ (b = fzA w i ∧ 100 ≤ φ ∧ φ ≤ 103) → hp_I α4 φ b = hp_I α φ b := fun φ b q => by rw [hα4, hI_sI, if_neg (by omega), hα3, hI_sI, if_neg (by omega), j5]; exact i2 φ b (by omega)
  have x3e : x3 = f 4 := by rw [hx3, hα3, hI_sI, if_neg (by omega), j5, i2 556 w (by omega)]; exact h.2.1.2.2.2
  have x4e : x4 = f (72 + r) := by rw [hx4, i4 152 _ (by omega)]; exact q152
  have r4 : hp_R α4 = hp_R α ∧ hp_K α4 = hp_K α ∧ hp_Q α4 = hp_Q α ∧ hp_N α4 = hp_N α ∧ hp_E α4 = hp_E β := by
    rw [hα4, hα3]
    exact ⟨j1.trans r2.1, j2.trans r2.2.1, j3.trans r2.2.2.1, j4.trans r2.2.2.2.1, rfl⟩
  have hR557 : hp_R α2 557 w = w + 4 := by rw [r2.1]; exact h.1.2.2.2.1
  have E4 : ∀ κ b j, ¬ (κ = 33 ∧ b = w + 4) → hp_E α4 κ b j = hp_E α κ b j := fun κ b j q => by rw [r4.2.2.2.2, j6 κ b j (by rw [hR557]; exact q), r2.2.2.2.2]
  have z4 : hp_I α4 100 (fzA w i) = rI ∧ hp_I α4 101 (fzA w i) = f (72 + r) ∧ hp_I α4 102 (fzA w i) = v ∧ hp_I α4 103 (fzA w i) = f 4 := by
    refine ⟨?_, ?_, ?_, ?_⟩
    · rw [hα4, hI_sI, if_neg (by omega), hα3, hI_sI, if_neg (by omega), j5, hα2, hI_sI, if_neg (by omega), hα1, hI_sI, if_pos ⟨rfl, rfl⟩]
    · rw [hα4, hI_sI, if_neg (by omega), hα3, hI_sI, if_neg (by omega), j5, hα2, hI_sI, if_pos ⟨rfl, rfl⟩, x1e]
    · rw [hα4, hI_sI, if_neg (by omega), hα3, hI_sI, if_pos ⟨rfl, rfl⟩]
    · rw [hα4, hI_sI, if_pos ⟨rfl, rfl⟩, x3e]
  have L4' : LM α4 (lpA w r) (EL f r) := by
    refine ⟨L0.1, by rw [i4 152 _ (by omega)]; exact L0.2.1, fun j hj => ?_⟩
    rw [r4.1, E4 29 _ _ (by omega)]
    exact L0.2.2 j hj
  have hshz := h.1.2.2.2.2.2.2.2.2.2.2.2.2 i (by omega)
  have hb : hp_R α4 104 (fzA w i) = fzA w i + 1 := by rw [r4.1]; exact hshz.1
  rw [hb]
  have hX := h.2.2.2.2.2 i (by omega)
  obtain ⟨l, hl⟩ := RWL_any (α := α4) (a := fzA w i + 1) (by rw [i4 301 _ (by omega)]; exact hX.1) (by rw [i4 301 _ (by omega)]; exact hX.2)
  refine ws_b (k_peaksOf n hn w (fzA w i + 1) α4 (f 1) hm (by rw [i4 550 w (by omega)]; exact h.2.1.1) (lpA w r) (EL f r) L4' N (by rw [EL_len]; omega) x4 (by rw [x4e]; omega) l hl) (fun γ hγ => ?_)
  obtain ⟨hRγ, k1, k2, k3, k4, k5, k6⟩ := hγ
  have hR557' : hp_R α4 557 w = w + 4 := by rw [r4.1]; exact h.1.2.2.2.1
  have hR300 : hp_R α4 300 (fzA w i + 1) = fzA w i + 2 := by rw [r4.1]; exact hshz.2
  rw [hR557', hR300] at k6
  refine ws_ln (fun x5 hx5 => ws_ln (fun α5 hα5 => ws_ln (fun x6 hx6 => ws_ln (fun α6 hα6 => ws_l (ws_s ?_)))))
  have x5e : x5 = f 3 := by rw [hx5, k5 554 w (by omega), i4 554 w (by unfold fzA; omega)]; exact e554
  have x6e : x6 = f 4 := by rw [hx6, hα5, hI_sI, if_neg (by omega), k5 556 w (by omega), i4 556 w (by unfold fzA; omega)]; exact h.2.1.2.2.2
  have i6 : ∀ φ b, ¬ (b = w ∧ (φ = 554 ∨ φ = 556)) → hp_I α6 φ b = hp_I γ φ b := fun φ b q => by rw [hα6, hI_sI, if_neg (by omega), hα5, hI_sI, if_neg (by omega)]
  have r6 : hp_R α6 = hp_R α ∧ hp_K α6 = hp_K α ∧ hp_Q α6 = hp_Q α ∧ hp_N α6 = hp_N α ∧ hp_E α6 = hp_E γ := by
    rw [hα6, hα5]
    exact ⟨k1.trans r4.1, k2.trans r4.2.1, k3.trans r4.2.2.1, k4.trans r4.2.2.2.1, rfl⟩
  have eI : ∀ φ b, ¬ (b = fzA w i ∧ 100 ≤ φ ∧ φ ≤ 103) → ¬ (b = fzA w i + 1 ∧ φ = 301) → ¬ (b = w ∧ (φ = 554 ∨ φ = 556)) → hp_I α6 φ b = hp_I α φ b := fun φ b q1 q2 q3 => by rw [i6 φ b q3, k5 φ b q2]; exact i4 φ b q1
  have eE : ∀ κ b j, ¬ (κ = 33 ∧ b = w + 4) → ¬ (κ = 20 ∧ b = fzA w i + 2) → hp_E α6 κ b j = hp_E α κ b j := fun κ b j q1 q2 => by rw [r6.2.2.2.2, k6 κ b j q1 q2]; exact E4 κ b j q1
  have e3 : hp_I α6 554 w = f 3 + 1 := by rw [hα6, hI_sI, if_neg (by omega), hα5, hI_sI, if_pos ⟨rfl, rfl⟩, x5e]
  have e4 : hp_I α6 556 w = f 4 + 1 := by rw [hα6, hI_sI, if_pos ⟨rfl, rfl⟩, x6e]
  refine ⟨?_, fun g hg => ?_, ⟨r6.1, r6.2.1, r6.2.2.1, r6.2.2.2.1, fun φ b q => eI φ b (by unfold fzA; omega) (by unfold fzA; omega) (by omega), fun κ b j q => eE κ b j (by omega) (by unfold fzA; omega)⟩, eI 301 _ (by unfold fzA; omega) (by unfold fzA; omega) (by omega)⟩
  · show hp_I α6 554 w - 1 = f 3
    rw [e3]
    refine Int32.toInt_inj.mp ?_
    have e1 : (f 3 + 1).toInt = (f 3).toInt + 1 := by rw [ii_add (by rw [lt1]; omega) (by rw [lt1]; omega), lt1]
    rw [ii_sub (by rw [lt1]; omega) (by rw [lt1]; omega), e1, lt1]; omega
  · rw [← hi] at hg
    refine WR_frz h hC hr hi (by omega) r6.1 r6.2.2.1 eI eE e3 e4 ⟨?_, ?_, ?_, ?_⟩ ?_ hg
    · rw [i6 100 _ (by omega), k5 100 _ (by omega), z4.1]; exact hrI
    · rw [i6 101 _ (by omega), k5 101 _ (by omega), z4.2.1]
    · rw [i6 102 _ (by omega), k5 102 _ (by omega), z4.2.2.1, ← hN]; exact hv1
    · rw [i6 103 _ (by omega), k5 103 _ (by omega), z4.2.2.2]
    · rw [← hN]
      refine ⟨hRγ.1, by rw [i6 301 _ (by omega)]; exact hRγ.2.1, fun k hk => ?_⟩
      rw [r6.1, ← (k1.trans r4.1), r6.2.2.2.2]
      exact hRγ.2.2 k hk
end JN9_10
section JN9_11
set_option maxRecDepth 100000
/-! ===== why a growth is wrong, told by lists ===== -/
def gst (m : Int32) (b : Bool) (x : Int32) (s : Int32 × Int32) : Int32 × Int32 := (if b then bt m x s.1 else s.1, if b then bt m x s.2 else bt m s.2 x)
def FGw (m : Int32) (xs : Nat → Int32) : List (Nat × Nat × Bool) → Nat → Int32 × Int32 → Int32 × Int32
  | [], _, s => s
  | q :: l, k, s => FGw m xs l (k + 1) (gst m q.2.2 (xs k) s)
theorem FGw_snoc (m : Int32) (xs : Nat → Int32) (q : Nat × Nat × Bool) : ∀ (l : List (Nat × Nat × Bool)) (k : Nat) (s : Int32 × Int32), FGw m xs (l ++ [q]) k s = gst m q.2.2 (xs (k + l.length)) (FGw m xs l k s) := by
  intro l
  induction l with
  | nil => intro k s; rfl
  | cons a l ih =>
    intro k s
    rw [List.cons_append, FGw, ih, FGw, List.length_cons, show k + 1 + l.length = k + (l.length + 1) by omega]
/-- whether the first mark is the start -/
def stG : Nat → Nat → Nat → Bool → Bool
  | 0, _, _, _ => false
  | d + 1, i, m, w => if i = m then !w else if i ≤ p0 m then stG d i (p0 m) w else stG d (i - p0 m) (m - p0 m) false
theorem stG_ne : ∀ (d i f m : Nat) (w : Bool), stG d i m w = true → wyG d i f m w ≠ [] := by
  intro d
  induction d with
  | zero => intro i f m w h; unfold stG at h; exact absurd h (by decide)
  | succ d ih =>
    intro i f m w h
    rw [stG] at h
    rw [wyG]
    by_cases h1 : i = m
    · rw [if_pos h1] at h ⊢
      cases w with
      | true => exact absurd h (by decide)
      | false => exact List.cons_ne_nil _ _
    · rw [if_neg h1]
      by_cases h2 : i ≤ p0 m
      · rw [if_pos h2]; exact List.cons_ne_nil _ _
      · rw [if_neg h2]; exact List.cons_ne_nil _ _
def GGw (m : Int32) (xs : Nat → Int32) (old : Int32) (l : List (Nat × Nat × Bool)) (s : Bool) : Int32 × Int32 := if s then FGw m xs l.tail 1 (xs 0, xs 0) else FGw m xs l 0 (old, old)
theorem GGw_snoc (m : Int32) (xs : Nat → Int32) (old : Int32) (l : List (Nat × Nat × Bool)) (s : Bool) (q : Nat × Nat × Bool) (h : s = true → l ≠ []) : GGw m xs old (l ++ [q]) s = gst m q.2.2 (xs l.length) (GGw m xs old l s) := by
  unfold GGw
  cases s with
  | false => rw [if_neg (by decide), if_neg (by decide), FGw_snoc, Nat.zero_add]
  | true =>
    rw [if_pos rfl, if_pos rfl]
    cases l with
    | nil => exact absurd rfl (h rfl)
    | cons a l =>
      show FGw m xs (l ++ [q]) 1 _ = _
      rw [FGw_snoc]
      show _ = gst m q.2.2 (xs (l.length + 1)) (FGw m xs l 1 (xs 0, xs 0))
      rw [Nat.add_comm 1]
theorem v_growsIn_fr (n : Nat) : ∀ (d : Nat) (σ : ms_T) (f i m w : Int32), pr (f_X12_growsIn n d σ f i m w) (fun τ => fr [657] [42, 43] σ τ) := by
  intro d
  induction d with
  | zero => intro σ f i m w; rw [f_X12_growsIn.eq_1]; exact pr_0
  | succ d ih =>
    intro σ f i m w
    rw [f_X12_growsIn.eq_2]
    refine pr_i (fun _ => pr_i (fun _ => pr_b (pr_w_asks n σ _ _) (fun τ hτ => pr_s hτ)) (fun _ => pr_s fr_rf)) (fun _ => pr_b (T := fun _ => True) (fun _ _ => trivial) (fun r _ => pr_i (fun _ => ?_) (fun _ => ?_)))
    · exact pr_b (ih σ _ _ _ _) (fun τ hτ => pr_b (pr_w_asks n τ _ _) (fun υ hυ => pr_s (fr_tr hτ hυ)))
    · exact pr_b (ih σ _ _ _ _) (fun τ hτ => pr_b (pr_w_asks n τ _ _) (fun υ hυ => pr_s (fr_tr hτ hυ)))
theorem v_growth_fr (n : Nat) (σ : ms_T) (i m : Int32) : pr (f_X12_growth n σ i m) (fun τ => fr [657] [42, 43] σ τ) := by
  unfold f_X12_growth
  refine pr_l (pr_i (fun _ => pr_s (fr_sI (by decide))) (fun _ => pr_i (fun _ => pr_s (fr_sI (by decide))) (fun _ => pr_b (v_growsIn_fr n 40 _ _ _ _ _) (fun τ hτ => pr_s (fr_tr (fr_sI (by decide)) hτ)))))
theorem v_foldsGrowth (n : Nat) (old : Int32) : ∀ (d e : Nat) (σ : ms_T) (f i m : Nat) (iI mI wI : Int32) (w : Bool), ms_I σ 658 = 0 → iI.toInt = (i : Int) → mI.toInt = (m : Int) → 1 ≤ i → i ≤ m → m ≤ 2 ^ e → wI = (if w then 1 else 0) → pr (f_X12_foldsGrowth n d σ old iI mI wI) (fun τ => (ms_I τ 658).toInt = ((wyG (e + 1) i f m w).length : Int) ∧ (ms_I τ 659, ms_I τ 660) = GGw (ms_E σ 40 1) (ms_E σ 44) old (wyG (e + 1) i f m w).reverse (stG (e + 1) i m w) ∧ fr [658, 659, 660] [] σ τ) := by
  intro d
  induction d with
  | zero => intro e σ f i m iI mI wI w h0 hi hm hi1 him hme hw; rw [f_X12_foldsGrowth.eq_1]; exact pr_0
  | succ d ih =>
    intro e σ f i m iI mI wI w h0 hi hm hi1 him hme hw
    rw [f_X12_foldsGrowth.eq_2, wyG, stG]
    refine pr_e (fun h1 => ?_) (fun h1 => ?_)
    · have : i = m := by rw [h1] at hi; omega
      rw [if_pos this, if_pos this]
      unfold f_X12_foldsGrowth_J24 f_X12_foldsGrowth_J50
      cases w with
      | true =>
        subst hw
        refine pr_i (fun h => absurd h (by decide)) (fun _ => pr_l (pr_l (pr_i (fun h => absurd h (by decide)) (fun _ => pr_l (pr_s ⟨?_, ?_, ?_⟩)))))
        · rw [mI_sI, if_pos rfl, mI_sI, if_neg (by decide), mI_sI, if_neg (by decide), h0]; rfl
        · rw [mI_sI, if_neg (by decide), mI_sI, if_neg (by decide), mI_sI, if_pos rfl, mI_sI, if_neg (by decide), mI_sI, if_pos rfl]; rfl
        · exact fr_tr (fr_sI (by decide)) (fr_tr (fr_sI (by decide)) (fr_sI (by decide)))
      | false =>
        subst hw
        refine pr_i (fun _ => pr_g (fun _ _ => pr_l (pr_l (pr_i (fun _ => pr_l (pr_s ⟨?_, ?_, ?_⟩)) (fun h => absurd rfl h))))) (fun h => absurd rfl h)
        · rw [mI_sI, if_pos rfl, mI_sI, if_neg (by decide), mI_sI, if_neg (by decide), h0]; rfl
        · rw [mI_sI, if_neg (by decide), mI_sI, if_neg (by decide), mI_sI, if_pos rfl, mI_sI, if_neg (by decide), mI_sI, if_pos rfl, h0]; rfl
        · exact fr_tr (fr_sI (by decide)) (fr_tr (fr_sI (by decide)) (fr_sI (by decide)))
    · rw [hi, hm] at h1
      rw [if_neg (show ¬ i = m by omega), if_neg (show ¬ i = m by omega)]
      have hmb := ib_hi mI
      have hm2 : 2 ≤ m := by omega
      cases e with
      | zero => simp at hme; omega
      | succ e =>
      have hp1 := p0_lt hm2
      have hp2 := p0_le (m := m)
      have hp3 := p0_pos m
      have hp4 := p0_dn hm2 hme
      refine pr_b (v_part0 n mI (by omega)) (fun r hr => ?_)
      rw [hm, Int.toNat_natCast] at hr
      unfold f_X12_foldsGrowth_J157
      refine pr_lt (fun h2 => ?_) (fun h2 => ?_)
      · rw [if_neg (show ¬ i ≤ p0 m by omega), if_neg (show ¬ i ≤ p0 m by omega)]
        refine pr_b (ih e σ (f + p0 m) (i - p0 m) (m - p0 m) _ _ 0 false h0 (by rw [ii_sub (by omega) (by omega)]; omega) (by rw [ii_sub (by omega) (by omega)]; omega) (by omega) (by omega) (by omega) rfl) (fun τ hτ => ?_)
        obtain ⟨t1, t2, t3⟩ := hτ
        have e44 : ms_E τ 44 = ms_E σ 44 := funext (t3.2 44 (by decide))
        have e40 : ms_E τ 40 1 = ms_E σ 40 1 := t3.2 40 (by decide) 1
        refine pr_g (fun _ g1 => pr_b (v_both n τ _ _) (fun v hv => pr_ln (fun υ hυ => pr_g (fun _ _ => pr_b (v_both n υ _ _) (fun v2 hv2 => pr_l (pr_l (pr_s ⟨?_, ?_, ?_⟩)))))))
        · rw [mI_sI, if_pos rfl, mI_sI, if_neg (by decide), hυ, mI_sI, if_neg (by decide), ii_add (by rw [lt1]; omega) (by rw [lt1]; omega), t1, lt1, List.length_cons]; omega
        · rw [List.reverse_cons, GGw_snoc _ _ _ _ _ _ (fun h hn => stG_ne _ _ (f + p0 m) _ _ h (List.reverse_eq_nil_iff.mp hn)), ← t2, List.length_reverse]
          have hc : (ms_I τ 658).toNatClampNeg = (wyG (e + 1) (i - p0 m) (f + p0 m) (m - p0 m) false).length := cl_n t1
          have u1 : ms_I υ 658 = ms_I τ 658 := by rw [hυ, mI_sI, if_neg (by decide)]
          have u2 : ms_I υ 660 = ms_I τ 660 := by rw [hυ, mI_sI, if_neg (by decide)]
          have u3 : ms_E υ = ms_E τ := by rw [hυ]; rfl
          rw [u1, u2, u3, hc, e44, e40] at hv2
          rw [hc, e44, e40] at hv
          rw [mI_sI, if_neg (by decide), mI_sI, if_neg (by decide), mI_sI, if_neg (by decide), mI_sI, if_pos rfl, hυ, mI_sI, if_pos rfl, hv2, hv]
          rfl
        · rw [hυ]
          exact fr_tr t3 (fr_tr (fr_sI (by decide)) (fr_tr (fr_sI (by decide)) (fr_sI (by decide))))
      · rw [if_pos (show i ≤ p0 m by omega), if_pos (show i ≤ p0 m by omega)]
        refine pr_b (ih e σ f i (p0 m) _ _ wI w h0 hi hr (by omega) (by omega) hp4 hw) (fun τ hτ => ?_)
        obtain ⟨t1, t2, t3⟩ := hτ
        have e44 : ms_E τ 44 = ms_E σ 44 := funext (t3.2 44 (by decide))
        have e40 : ms_E τ 40 1 = ms_E σ 40 1 := t3.2 40 (by decide) 1
        refine pr_g (fun _ g1 => pr_b (v_both n τ _ _) (fun v hv => pr_l (pr_l (pr_s ⟨?_, ?_, ?_⟩))))
        · rw [mI_sI, if_pos rfl, mI_sI, if_neg (by decide), ii_add (by rw [lt1]; omega) (by rw [lt1]; omega), t1, lt1, List.length_cons]; omega
        · rw [List.reverse_cons, GGw_snoc _ _ _ _ _ _ (fun h hn => stG_ne _ _ f _ _ h (List.reverse_eq_nil_iff.mp hn)), ← t2, List.length_reverse]
          have hc : (ms_I τ 658).toNatClampNeg = (wyG (e + 1) i f (p0 m) w).length := cl_n t1
          rw [hc, e44, e40] at hv
          rw [mI_sI, if_neg (by decide), mI_sI, if_neg (by decide), mI_sI, if_neg (by decide), mI_sI, if_pos rfl, hv]
          rfl
        · exact fr_tr t3 (fr_tr (fr_sI (by decide)) (fr_sI (by decide)))
/-- why a growth from i to N with c marks is wrong -/
def WHY (m : Int32) (xs : Nat → Int32) (c : Nat) (i : Nat) (old : Int32) (N : Nat) (new : Int32) : Int32 := if c < (wyH i N).length then 1 else if (wyH i N).length < c then 2 else if i = N then (if old = new ∧ (i = 0 → old = 0) then 0 else 3) else if i = 0 then (if old = 0 then 0 else 3) else if (GGw m xs old (wyH i N).reverse (stG 32 i N true)).1 = old then (if (GGw m xs old (wyH i N).reverse (stG 32 i N true)).2 = new then 0 else 4) else 3
theorem v_whyGrown (n : Nat) (σ : ms_T) (c : Nat) (cI : Int32) (hc : cI.toInt = (c : Int)) (i N : Nat) (iI NI old new : Int32) (hi : iI.toInt = (i : Int)) (hN : NI.toInt = (N : Int)) (hiN : i ≤ N) : pr (f_X12_whyGrown n σ cI iI old NI new) (fun res => res.1 = WHY (ms_E σ 40 1) (ms_E σ 44) c i old N new ∧ fr [657, 658, 659, 660] [42, 43] σ res.2) := by
  have hNb := ib_hi NI
  unfold f_X12_whyGrown WHY
  refine pr_b (fun τ hτ => (⟨v_growth n σ iI NI (by omega) (by omega) τ hτ, v_growth_fr n σ iI NI τ hτ⟩ : WS τ _ ∧ fr [657] [42, 43] σ τ)) (fun τ hτ => ?_)
  rw [hi, hN, Int.toNat_natCast, Int.toNat_natCast] at hτ
  have hlen := hτ.1.1
  rw [List.length_reverse] at hlen
  have hf : fr [657, 658, 659, 660] [42, 43] σ τ := fr_sb hτ.2 (by decide) (by decide)
  have e44 : ms_E τ 44 = ms_E σ 44 := funext (hτ.2.2 44 (by decide))
  have e40 : ms_E τ 40 1 = ms_E σ 40 1 := hτ.2.2 40 (by decide) 1
  have hJ : c = (wyH i N).length → (i = 0 → old = 0) → pr (f_X12_whyGrown_J39 n τ iI old NI new) (fun res => res.1 = (if i = N then (if old = new ∧ (i = 0 → old = 0) then 0 else 3) else if i = 0 then (if old = 0 then 0 else 3) else if (GGw (ms_E σ 40 1) (ms_E σ 44) old (wyH i N).reverse (stG 32 i N true)).1 = old then (if (GGw (ms_E σ 40 1) (ms_E σ 44) old (wyH i N).reverse (stG 32 i N true)).2 = new then 0 else 4) else 3) ∧ fr [657, 658, 659, 660] [42, 43] σ res.2) := by
    intro _ h0
    unfold f_X12_whyGrown_J39
    refine pr_e (fun e => ?_) (fun e => ?_)
    · have : i = N := by rw [e] at hi; omega
      rw [if_pos this]
      refine pr_i (fun e2 => pr_s ⟨?_, hf⟩) (fun e2 => pr_s ⟨?_, hf⟩)
      · rw [if_pos ⟨e2, h0⟩]
      · rw [if_neg (fun h => e2 h.1)]
    · rw [hi, hN] at e
      rw [if_neg (show ¬ i = N by omega)]
      refine pr_e (fun e2 => ?_) (fun e2 => ?_)
      · have : i = 0 := by rw [e2] at hi; rw [lt0] at hi; omega
        rw [if_pos this, if_pos (h0 this)]
        exact pr_s ⟨rfl, hf⟩
      · rw [hi, lt0] at e2
        rw [if_neg (show ¬ i = 0 by omega)]
        have hw : wyH i N = wyG 32 i 0 N true := by unfold wyH; rw [if_neg (by omega)]
        refine pr_l (pr_b (v_foldsGrowth n old 40 31 (ms_sI τ 658 0) 0 i N iI NI 1 true (by rw [mI_sI, if_pos rfl]) hi hN (by omega) (by omega) (by omega) rfl) (fun υ hυ => ?_))
        obtain ⟨-, u2, u3⟩ := hυ
        have hE : ms_E (ms_sI τ 658 0) = ms_E τ := rfl
        rw [hE, e44, e40, ← hw] at u2
        have u4 : fr [657, 658, 659, 660] [42, 43] σ υ := fr_tr hf (fr_tr (fr_sI (by decide)) (fr_sb u3 (by decide) (by decide)))
        rw [← u2]
        refine pr_i (fun e3 => pr_i (fun e4 => pr_s ⟨?_, u4⟩) (fun e4 => pr_s ⟨?_, u4⟩)) (fun e3 => pr_s ⟨?_, u4⟩)
        · rw [if_pos e3, if_pos e4]
        · rw [if_pos e3, if_neg e4]
        · rw [if_neg e3]
  refine pr_e (fun e => ?_) (fun e => ?_)
  · have hcl : c = (wyH i N).length := by rw [e, hlen] at hc; omega
    rw [if_neg (show ¬ c < (wyH i N).length by omega), if_neg (show ¬ (wyH i N).length < c by omega)]
    refine pr_e (fun e2 => ?_) (fun e2 => ?_)
    · have h0 : i = 0 := by rw [e2, lt0] at hi; omega
      refine pr_i (fun e3 => hJ hcl (fun _ => e3)) (fun e3 => pr_s ⟨?_, hf⟩)
      by_cases h4 : i = N
      · rw [if_pos h4, if_neg (fun h => e3 (h.2 h0))]
      · rw [if_neg h4, if_pos h0, if_neg e3]
    · rw [hi, lt0] at e2
      exact hJ hcl (fun h => by omega)
  · rw [hc, hlen] at e
    refine pr_le (fun e2 => pr_s ⟨?_, hf⟩) (fun e2 => pr_s ⟨?_, hf⟩)
    · rw [hlen, hc] at e2
      rw [if_neg (by omega), if_pos (by omega)]
    · rw [hlen, hc] at e2
      rw [if_pos (by omega)]
/-! ===== the class: whether a way has a start ===== -/
theorem k_turn_s_L (n a : Nat) : ∀ (k : Nat) (β : hp_T) (v : Int32), pr (f_X8_turnRound_L2 n a k β v) (fun γ => hp_I γ 454 a = hp_I β 454 a) := by
  intro k
  induction k with
  | zero => intro β v; rw [f_X8_turnRound_L2.eq_1]; exact pr_0
  | succ k ih =>
    intro β v
    rw [f_X8_turnRound_L2.eq_2]
    repeat' first | exact pr_0 | exact pr_s rfl | exact ih _ _ | refine pr_g (fun _ _ => ?_) | refine pr_i (fun _ => ?_) (fun _ => ?_) | refine pr_l ?_
theorem k_turn_s (n a : Nat) (β : hp_T) : pr (f_X8_turnRound n β a) (fun γ => hp_I γ 454 a = hp_I β 454 a) := k_turn_s_L n a n β 0
theorem k_put8_s (n a : Nat) (β : hp_T) (f m b : Int32) : pr (f_X8_put n β a f m b) (fun γ => hp_I γ 454 a = hp_I β 454 a) := by
  unfold f_X8_put
  repeat' first | exact pr_0 | exact pr_s rfl | exact pr_s (by rw [hI_sI, if_neg (fun h => absurd h.1 (by decide))]; rfl) | refine pr_g (fun _ _ => ?_) | refine pr_i (fun _ => ?_) (fun _ => ?_) | refine pr_l ?_
theorem k_toGrowth_Js (n a : Nat) (β : hp_T) (h0 : hp_I β 454 a = 0) (f m wI : Int32) (w : Bool) (hw : wI = if w then 1 else 0) : pr (f_X8_toGrowth_J100 n a β f m wI) (fun γ => hp_I γ 454 a = if (!w) then 1 else 0) := by
  unfold f_X8_toGrowth_J100 f_X8_toGrowth_J118
  cases w with
  | true =>
    subst hw
    refine pr_i (fun h => absurd h (by decide)) (fun _ => pr_b (k_turn_s n a β) (fun γ hγ => pr_s ?_))
    rw [hγ, h0]; rfl
  | false =>
    subst hw
    refine pr_i (fun _ => pr_b (T := fun _ => True) (fun _ _ => trivial) (fun γ _ => pr_l (pr_b (k_turn_s n a _) (fun δ hδ => pr_s ?_)))) (fun h => absurd rfl h)
    rw [hδ, hI_sI, if_pos ⟨rfl, rfl⟩]; rfl
theorem k_toGrowth_Ls (n a : Nat) : ∀ (k e : Nat) (β : hp_T) (f i m : Nat) (iI fI mI wI dI : Int32) (w : Bool), hp_I β 454 a = 0 → 0 ≤ dI.toInt → dI.toInt + e < 40 → fI.toInt = (f : Int) → iI.toInt = (f : Int) + i → mI.toInt = (m : Int) → 1 ≤ i → i ≤ m → m ≤ 2 ^ e → f + m ≤ 2147483647 → wI = (if w then 1 else 0) → pr (f_X8_toGrowth_L20 n a k β iI fI mI wI dI) (fun γ => hp_I γ 454 a = if stG (e + 1) i m w then 1 else 0) := by
  intro k
  induction k with
  | zero => intro e β f i m iI fI mI wI dI w h0 hd0 hd hf hi hm hi1 him hme hfm hwI; rw [f_X8_toGrowth_L20.eq_1]; exact pr_0
  | succ k ih =>
    intro e β f i m iI fI mI wI dI w h0 hd0 hd hf hi hm hi1 him hme hfm hwI
    rw [f_X8_toGrowth_L20.eq_2, stG]
    have L40 : (40 : Int32).toInt = 40 := by decide
    have hif : (iI - fI).toInt = (i : Int) := by rw [ii_sub (by omega) (by omega)]; omega
    refine pr_le (fun h => by omega) (fun _ => pr_e (fun h => ?_) (fun h => ?_))
    · have hq : i = m := by rw [h, hm] at hif; omega
      rw [if_pos hq]
      exact k_toGrowth_Js n a β h0 fI mI wI w hwI
    · rw [hif, hm] at h
      have hm2 : 2 ≤ m := by omega
      rw [if_neg (show ¬ i = m by omega)]
      cases e with
      | zero => simp at hme; omega
      | succ e =>
      have hp1 := p0_lt hm2
      have hp2 := p0_le (m := m)
      have hp3 := p0_pos m
      have hp4 := p0_dn hm2 hme
      have hdI : (dI + 1).toInt = dI.toInt + 1 := by rw [ii_add (by rw [lt1]; omega) (by rw [lt1]; omega), lt1]
      refine pr_b (pr_w (k_first n mI (by omega))) (fun r hr => ?_)
      rw [hm, Int.toNat_natCast] at hr
      unfold f_X8_toGrowth_J94
      refine pr_lt (fun h2 => ?_) (fun h2 => ?_)
      · rw [if_neg (show ¬ i ≤ p0 m by omega)]
        refine pr_b (k_put8_s n a β _ _ _) (fun γ hγ => pr_l (pr_l (pr_l ?_)))
        exact ih e γ (f + p0 m) (i - p0 m) (m - p0 m) iI (fI + r) (mI - r) 0 (dI + 1) false (by rw [hγ]; exact h0) (by omega) (by omega) (by rw [ii_add (by omega) (by omega)]; omega) (by omega) (by rw [ii_sub (by omega) (by omega)]; omega) (by omega) (by omega) (by omega) (by omega) rfl
      · rw [if_pos (show i ≤ p0 m by omega)]
        refine pr_b (k_put8_s n a β _ _ _) (fun γ hγ => pr_l ?_)
        exact ih e γ f i (p0 m) iI fI r wI (dI + 1) w (by rw [hγ]; exact h0) (by omega) (by omega) hf hi hr hi1 (by omega) hp4 (by omega) hwI
def stH (i m : Nat) : Bool := if i = 0 then false else stG 32 i m true
theorem k_toGrowth_s (n a : Nat) (α : hp_T) (i m : Int32) (h0 : 0 ≤ i.toInt) (h1 : i.toInt ≤ m.toInt) : pr (f_X8_toGrowth n α a i m) (fun γ => hp_I γ 454 a = if stH i.toInt.toNat m.toInt.toNat then 1 else 0) := by
  have hm := ib_hi m
  unfold f_X8_toGrowth
  refine pr_b (T := fun β => hp_I β 454 a = 0) ?_ (fun β hβ => pr_e (fun h => ?_) (fun h => ?_))
  · unfold f_X8_clear
    exact pr_l (pr_l (pr_s (by rw [hI_sI, if_pos ⟨rfl, rfl⟩])))
  · have e : stH i.toInt.toNat m.toInt.toNat = false := by unfold stH; rw [if_pos (by rw [h]; rfl)]
    rw [e]
    exact pr_s hβ
  · rw [lt0] at h
    have e : stH i.toInt.toNat m.toInt.toNat = stG 32 i.toInt.toNat m.toInt.toNat true := by unfold stH; rw [if_neg (by omega)]
    rw [e]
    exact k_toGrowth_Ls n a n 31 β 0 i.toInt.toNat m.toInt.toNat i 0 m 1 0 true hβ (by decide) (by decide) rfl (by omega) (by omega) (by omega) (by omega) (by omega) (by omega) rfl
theorem k_toGrowth2 (n : Nat) (hn : 70000 ≤ n) (α : hp_T) (a : Nat) (i N : Nat) (iI NI : Int32) (hi : iI.toInt = (i : Int)) (hN : NI.toInt = (N : Int)) (hiN : i ≤ N) : ws (f_X8_toGrowth n α a iI NI) (fun β => (WC β a (wyH i N).reverse ∧ wf a α β) ∧ hp_I β 454 a = if stH i N then 1 else 0) := by
  have h1 := k_toGrowth n hn α a iI NI (by omega) (by omega)
  have h2 := k_toGrowth_s n a α iI NI (by omega) (by omega)
  rw [hi, hN, Int.toNat_natCast, Int.toNat_natCast] at h1 h2
  exact ws_pr h1 h2
/-! the fold -/
theorem k_isAhead (n : Nat) {α : hp_T} {a : Nat} {l : List (Nat × Nat × Bool)} (h : WC α a l) (hl : l.length ≤ 64) (k : Nat) (hk : k < l.length) (kI : Int32) (hkI : kI.toInt = (k : Int)) : ws (f_X8_isAhead n α a kI) (fun r => r = if l[k].2.2 then 1 else 0) := by
  have L64 := t_64
  have hq := h.2 k _ (List.getElem?_eq_getElem hk)
  unfold f_X8_isAhead
  refine ws_lt (fun e => by rw [lt0] at e; omega) (fun _ => ws_l (ws_le (fun e => by rw [h.1] at e; omega) (fun _ => ws_l (ws_le (fun e => by omega) (fun _ => ws_l (ws_g (by omega) (by omega) ?_))))))
  rw [cl_n hkI, hq.2.2]
  cases l[k].2.2 with
  | true => exact ws_i (fun h => absurd h (by decide)) (fun _ => ws_s rfl)
  | false => exact ws_i (fun _ => ws_s rfl) (fun h => absurd rfl h)
theorem k_joined (n : Nat) {α : hp_T} {a : Nat} {l : List (Nat × Nat × Bool)} (h : WC α a l) (hl : l.length ≤ 64) (k : Nat) (hk : k < l.length) (kI : Int32) (hkI : kI.toInt = (k : Int)) (m : Int32) (hm : 0 < m.toInt) (s x : Int32) : ws (f_X8_joined n α a m kI s x) (fun r => r = if l[k].2.2 then bt m x s else bt m s x) := by
  unfold f_X8_joined
  refine ws_b (k_isAhead n h hl k hk kI hkI) (fun r hr => ?_)
  subst hr
  cases l[k].2.2 with
  | true => exact ws_i (fun h => absurd h (by decide)) (fun _ => ws_b (k_two n m x s hm) (fun v hv => ws_s hv))
  | false => exact ws_i (fun _ => ws_b (k_two n m s x hm) (fun v hv => ws_s hv)) (fun h => absurd rfl h)
theorem k_rat (n : Nat) {α : hp_T} {a : Nat} {l : List Int32} (h : RWL α a l) (k : Nat) (hk : k < l.length) (kI : Int32) (hkI : kI.toInt = (k : Int)) : ws (f_X5_at n α a kI) (fun r => r = l.getD k 0) := by
  have L64 := t_64
  obtain ⟨h1, h2, h3⟩ := h
  unfold f_X5_at
  refine ws_lt (fun e => by rw [lt0] at e; omega) (fun _ => ws_l (ws_le (fun e => by omega) (fun _ => ws_l (ws_le (fun e => by omega) (fun _ => ws_l (ws_g (by omega) (by omega) (ws_s ?_)))))))
  rw [cl_n hkI, List.getD_eq_getElem?_getD, ← h3 k hk]
  rfl
/-! ===== the class: why a growth is wrong ===== -/
theorem FGw_c (m : Int32) {xs ys : Nat → Int32} : ∀ (l : List (Nat × Nat × Bool)) (k : Nat) (s : Int32 × Int32), (∀ j, k ≤ j → j < k + l.length → xs j = ys j) → FGw m xs l k s = FGw m ys l k s := by
  intro l
  induction l with
  | nil => intro k s _; rfl
  | cons a l ih =>
    intro k s h
    rw [List.length_cons] at h
    rw [FGw, FGw, h k (by omega) (by omega)]
    exact ih (k + 1) _ (fun j h1 h2 => h j (by omega) (by omega))
theorem GGw_c (m : Int32) {xs ys : Nat → Int32} (old : Int32) (l : List (Nat × Nat × Bool)) (s : Bool) (hs : s = true → l ≠ []) (h : ∀ j, j < l.length → xs j = ys j) : GGw m xs old l s = GGw m ys old l s := by
  unfold GGw
  cases s with
  | false => rw [if_neg (by decide), if_neg (by decide)]; exact FGw_c m l 0 _ (fun j _ hj => h j (by omega))
  | true =>
    rw [if_pos rfl, if_pos rfl]
    cases l with
    | nil => exact absurd rfl (hs rfl)
    | cons a l =>
      rw [List.length_cons] at h
      rw [h 0 (by omega)]
      exact FGw_c m l 1 _ (fun j _ hj => h j (by omega))
theorem wyH_st {i N : Nat} (h : stH i N = true) : (wyH i N).reverse ≠ [] := by
  unfold stH at h
  unfold wyH
  by_cases h0 : i = 0
  · rw [if_pos h0] at h; exact absurd h (by decide)
  · rw [if_neg h0] at h ⊢
    exact fun e => stG_ne _ _ 0 _ _ h (List.reverse_eq_nil_iff.mp e)
theorem stH_G {i N : Nat} (h : ¬ i = 0) : stH i N = stG 32 i N true := by unfold stH; rw [if_neg h]
theorem WHY_c (m : Int32) {xs ys : Nat → Int32} (c i : Nat) (old : Int32) (N : Nat) (new : Int32) (h : ∀ j, j < c → xs j = ys j) : WHY m xs c i old N new = WHY m ys c i old N new := by
  unfold WHY
  by_cases h1 : c < (wyH i N).length
  · rw [if_pos h1, if_pos h1]
  rw [if_neg h1, if_neg h1]
  by_cases h2 : (wyH i N).length < c
  · rw [if_pos h2, if_pos h2]
  rw [if_neg h2, if_neg h2]
  by_cases h3 : i = N
  · rw [if_pos h3, if_pos h3]
  rw [if_neg h3, if_neg h3]
  by_cases h4 : i = 0
  · rw [if_pos h4, if_pos h4]
  rw [if_neg h4, if_neg h4, GGw_c m old (wyH i N).reverse (stG 32 i N true) (fun hs => wyH_st (by rw [stH_G h4]; exact hs)) (fun j hj => h j (by rw [List.length_reverse] at hj; omega))]
theorem k_whyG_L (n : Nat) (β : hp_T) (a row : Nat) (l : List (Nat × Nat × Bool)) (hW : WC β a l) (hl : l.length ≤ 64) (xl : List Int32) (hR : RWL β row xl) (hx : xl.length = l.length) (m : Int32) (hm : 0 < m.toInt) (old new : Int32) : ∀ (d k : Nat) (kI t w : Int32), kI.toInt = (k : Int) → k ≤ l.length → l.length + 1 - k ≤ d → ws (f_X8_whyGrowth_L115 n a d β m row old new t w kI) (fun res => res.1 = (if (FGw m (fun k => xl.getD k 0) (l.drop k) k (t, w)).1 = old then (if (FGw m (fun k => xl.getD k 0) (l.drop k) k (t, w)).2 = new then 0 else 4) else 3) ∧ res.2 = β) := by
  intro d
  induction d with
  | zero => intro k kI t w h1 h2 h3; omega
  | succ d ih =>
    intro k kI t w h1 h2 h3
    rw [f_X8_whyGrowth_L115.eq_2]
    refine ws_l (ws_le (fun e => ?_) (fun e => ?_))
    · rw [hW.1] at e
      rw [List.drop_eq_nil_of_le (by omega)]
      refine ws_i (fun e1 => ws_i (fun e2 => ws_s ⟨?_, rfl⟩) (fun e2 => ws_s ⟨?_, rfl⟩)) (fun e1 => ws_s ⟨?_, rfl⟩)
      · rw [FGw, if_pos e1, if_pos e2]
      · rw [FGw, if_pos e1, if_neg e2]
      · rw [FGw, if_neg e1]
    · rw [hW.1] at e
      have hk : k < l.length := by omega
      rw [List.drop_eq_getElem_cons hk, FGw]
      have hk1 : (kI + 1).toInt = ((k + 1 : Nat) : Int) := by rw [ii_add (by rw [lt1]; omega) (by rw [lt1]; omega), h1, lt1]; omega
      unfold f_X8_whyGrowth_J170
      refine ws_b (k_rat n hR k (by omega) kI h1) (fun x hx1 => ws_b (k_joined n hW hl k hk kI h1 m hm w x) (fun v hv => ws_b (k_isAhead n hW hl k hk kI h1) (fun r hr => ?_)))
      subst hr
      subst hx1
      cases hb : l[k].2.2 with
      | false =>
        rw [hb] at hv
        refine ws_i (fun _ => ws_l ?_) (fun h => absurd rfl h)
        have := ih (k + 1) (kI + 1) t v hk1 (by omega) (by omega)
        rw [hv] at this ⊢
        exact this
      | true =>
        rw [hb] at hv
        refine ws_i (fun h => absurd h (by decide)) (fun _ => ws_b (k_rat n hR k (by omega) kI h1) (fun x2 hx2 => ws_b (k_joined n hW hl k hk kI h1 m hm t x2) (fun u hu => ws_l ?_)))
        rw [hb, hx2] at hu
        have := ih (k + 1) (kI + 1) u v hk1 (by omega) (by omega)
        rw [hv, hu] at this ⊢
        exact this
theorem RWL_wf {α β : hp_T} {a row : Nat} {xl : List Int32} (h : RWL α row xl) (f : wf a α β) : RWL β row xl := by
  obtain ⟨f1, -, -, -, f5, f6⟩ := f
  refine ⟨h.1, by rw [f5 301 row (fun q => by omega)]; exact h.2.1, fun k hk => ?_⟩
  rw [f1, f6 20 _ _ (by omega)]
  exact h.2.2 k hk
theorem k_whyGrowth (n : Nat) (hn : 70000 ≤ n) (α : hp_T) (a row : Nat) (xl : List Int32) (hR : RWL α row xl) (m : Int32) (hm : 0 < m.toInt) (i N : Nat) (iI NI old new : Int32) (hi : iI.toInt = (i : Int)) (hN : NI.toInt = (N : Int)) (hiN : i ≤ N) : ws (f_X8_whyGrowth n α a m row iI old NI new) (fun res => res.1 = WHY m (fun k => xl.getD k 0) xl.length i old N new ∧ wf a α res.2) := by
  unfold f_X8_whyGrowth WHY
  refine ws_b (k_toGrowth2 n hn α a i N iI NI hi hN hiN) (fun β hβ => ?_)
  obtain ⟨⟨hW, hf⟩, hS⟩ := hβ
  have hRβ := RWL_wf hR hf
  have hlw : (wyH i N).reverse.length = (wyH i N).length := List.length_reverse
  have hl32 := wyH_len i N
  have c1 := hRβ.2.1
  have c2 := hW.1
  rw [hlw] at c2
  refine ws_l (ws_l (ws_e (fun e => ?_) (fun e => ?_)))
  · have hc : xl.length = (wyH i N).length := by rw [e, c2] at c1; omega
    rw [if_neg (show ¬ xl.length < (wyH i N).length by omega), if_neg (show ¬ (wyH i N).length < xl.length by omega)]
    refine ws_e (fun e1 => ?_) (fun e1 => ?_)
    · have h3 : i = N := by rw [e1] at hi; omega
      rw [if_pos h3]
      refine ws_i (fun e2 => ws_e (fun e3 => ?_) (fun e3 => ?_)) (fun e2 => ws_s ⟨?_, hf⟩)
      · have h0 : i = 0 := by rw [e3, lt0] at hi; omega
        refine ws_i (fun e4 => ?_) (fun e4 => ws_s ⟨?_, hf⟩)
        · unfold f_X8_whyGrowth_J57
          exact ws_s ⟨by rw [if_pos ⟨e2, fun _ => e4⟩], hf⟩
        · rw [if_neg (fun h => e4 (h.2 h0))]
      · rw [hi, lt0] at e3
        unfold f_X8_whyGrowth_J57
        exact ws_s ⟨by rw [if_pos ⟨e2, fun h => by omega⟩], hf⟩
      · rw [if_neg (fun h => e2 h.1)]
    · rw [hi, hN] at e1
      rw [if_neg (show ¬ i = N by omega)]
      refine ws_e (fun e2 => ?_) (fun e2 => ?_)
      · have h0 : i = 0 := by rw [e2, lt0] at hi; omega
        rw [if_pos h0]
        refine ws_i (fun e3 => ws_s ⟨?_, hf⟩) (fun e3 => ws_s ⟨?_, hf⟩)
        · rw [if_pos e3]
        · rw [if_neg e3]
      · rw [hi, lt0] at e2
        have h0 : ¬ i = 0 := by omega
        rw [if_neg h0, ← stH_G h0]
        refine ws_l ?_
        rw [hS]
        unfold f_X8_whyGrowth_J95 f_X8_whyGrowth_J113
        cases hs : stH i N with
        | false =>
          rw [hs] at hS
          refine ws_i (fun _ => ws_l ?_) (fun h => absurd rfl h)
          rw [hS]
          refine ws_i (fun _ => ?_) (fun h => absurd rfl h)
          refine ws_m (k_whyG_L n β a row _ hW (by omega) xl hRβ (by omega) m hm old new n 0 0 old old rfl (Nat.zero_le _) (by omega)) (fun res hr => ⟨?_, by rw [hr.2]; exact hf⟩)
          rw [hr.1, List.drop_zero]; rfl
        | true =>
          rw [hs] at hS
          have hne := wyH_st hs
          have hpos : 0 < (wyH i N).reverse.length := List.length_pos_iff.mpr hne
          refine ws_i (fun h => absurd h (by decide)) (fun _ => ws_b (k_rat n hRβ 0 (by omega) 0 rfl) (fun x hx => ws_l ?_))
          rw [hS]
          refine ws_i (fun h => absurd h (by decide)) (fun _ => ?_)
          refine ws_m (k_whyG_L n β a row _ hW (by omega) xl hRβ (by omega) m hm old new n 1 1 x x rfl (by omega) (by omega)) (fun res hr => ⟨?_, by rw [hr.2]; exact hf⟩)
          rw [hr.1, hx, List.drop_one]; rfl
  · rw [c1, c2] at e
    refine ws_l (ws_l (ws_le (fun e1 => ws_s ⟨?_, hf⟩) (fun e1 => ws_s ⟨?_, hf⟩)))
    · rw [c1, c2] at e1
      rw [if_neg (show ¬ xl.length < (wyH i N).length by omega), if_pos (show (wyH i N).length < xl.length by omega)]
    · rw [c1, c2] at e1
      rw [if_pos (show xl.length < (wyH i N).length by omega)]
theorem RWL_st {α : hp_T} {a b : Nat} {v : Int32} {l : List Int32} (h : RWL α a l) : RWL (hp_sI α 600 b v) a l := ⟨h.1, by rw [hI_sI, if_neg (fun z => absurd z.1 (by decide))]; exact h.2.1, fun k hk => h.2.2 k hk⟩
/-! ===== growth by a record: both sides ===== -/
theorem wyG_in : ∀ (e i f m : Nat) (w : Bool), 1 ≤ i → i ≤ m → ∀ q ∈ wyG e i f m w, q.1 + q.2.1 ≤ f + m := by
  intro e
  induction e with
  | zero => intro i f m w h1 h2 q hq; rw [wyG] at hq; exact absurd hq List.not_mem_nil
  | succ e ih =>
    intro i f m w hi1 hi2 q hq
    rw [wyG] at hq
    by_cases h1 : i = m
    · rw [if_pos h1] at hq
      cases w with
      | true => exact absurd hq List.not_mem_nil
      | false => have := List.mem_singleton.mp hq; rw [this]; exact Nat.le_refl _
    · rw [if_neg h1] at hq
      have hp1 := p0_lt (show 2 ≤ m by omega)
      by_cases h2 : i ≤ p0 m
      · rw [if_pos h2] at hq
        rcases List.mem_cons.mp hq with h | h
        · rw [h]; show f + p0 m + (m - p0 m) ≤ _; omega
        · have := ih _ _ _ _ hi1 h2 q h; omega
      · rw [if_neg h2] at hq
        rcases List.mem_cons.mp hq with h | h
        · rw [h]; show f + p0 m ≤ _; omega
        · have := ih _ _ _ _ (by omega) (by omega) q h; omega
theorem wyH_in (i N : Nat) (h : i ≤ N) : ∀ q ∈ (wyH i N).reverse, q.1 + q.2.1 ≤ N := by
  intro q hq
  have hq := List.mem_reverse.mp hq
  unfold wyH at hq
  by_cases h0 : i = 0
  · rw [if_pos h0] at hq; exact absurd hq List.not_mem_nil
  · rw [if_neg h0] at hq
    have := wyG_in _ _ _ _ _ (by omega) h q hq
    omega
/-- why, by the record's own marks -/
def WBR (m : Int32) (L : List Int32) (i : Nat) (old : Int32) (N : Nat) (new : Int32) : Int32 := WHY m (fun k => (mkl m L (wyH i N).reverse).getD k 0) (wyH i N).length i old N new
theorem v_whyByRecord (n : Nat) (σ : ms_T) (hC : rC (ms_E σ 40)) (r : Nat) (hr : r < 4) (rI : Int32) (hrI : rI.toInt = (r : Int)) (i N : Nat) (iI NI old new : Int32) (hi : iI.toInt = (i : Int)) (hN : NI.toInt = (N : Int)) (hiN : i ≤ N) (hL : N ≤ (EL (ms_E σ 40) r).length) : pr (f_X12_whyByRecord n σ rI iI old NI new) (fun res => res.1 = WBR (ms_E σ 40 1) (EL (ms_E σ 40) r) i old N new ∧ fr [657, 658, 659, 660] [42, 43, 44] σ res.2) := by
  have hNb := ib_hi NI
  unfold f_X12_whyByRecord WBR
  refine pr_b (fun τ hτ => (⟨v_growth n σ iI NI (by omega) (by omega) τ hτ, v_growth_fr n σ iI NI τ hτ⟩ : WS τ _ ∧ fr [657] [42, 43] σ τ)) (fun τ hτ => ?_)
  rw [hi, hN, Int.toNat_natCast, Int.toNat_natCast] at hτ
  have e40 : ms_E τ 40 = ms_E σ 40 := funext (hτ.2.2 40 (by decide))
  refine pr_b (v_fetches n τ (by rw [e40]; exact hC) r hr rI hrI (wyH i N).reverse hτ.1 (fun q hq => by rw [e40]; exact Nat.le_trans (wyH_in i N hiN q hq) hL)) (fun υ hυ => ?_)
  obtain ⟨u1, u2, u3⟩ := hυ
  have f40 : ms_E υ 40 = ms_E σ 40 := (funext (u3.2 40 (by decide))).trans e40
  rw [e40] at u1
  have hlen := u2.1
  rw [List.length_reverse] at hlen
  refine pr_c (v_whyGrown n υ (wyH i N).length (ms_I υ 657) hlen i N iI NI old new hi hN hiN) (fun v ρ hρ => pr_s ⟨?_, fr_tr (fr_sb hτ.2 (by decide) (by decide)) (fr_tr (fr_sb u3 (by decide) (by decide)) (fr_sb hρ.2 (by decide) (by decide)))⟩)
  have h1 := hρ.1
  rw [f40] at h1
  refine h1.trans (WHY_c _ _ _ _ _ _ (fun j hj => ?_))
  have := u1 j (by rw [mkl_len, List.length_reverse]; exact hj)
  rw [List.getD_eq_getElem?_getD, ← this]
  rfl
theorem WC_qf {α β : hp_T} {w a wy : Nat} {l : List (Nat × Nat × Bool)} (h : WC α wy l) (f : qf w a α β) : WC β wy l := by
  obtain ⟨f1, -, -, -, f5, f6⟩ := f
  refine ⟨by rw [f5 453 wy (by omega)]; exact h.1, fun k q hq => ?_⟩
  rw [f1, f6 21 _ _ (by omega) (by omega), f6 22 _ _ (by omega) (by omega), f6 23 _ _ (by omega) (by omega)]
  exact h.2 k q hq
theorem k_marks_L (n : Nat) (hn : 70000 ≤ n) (w a wy : Nat) (α : hp_T) (m : Int32) (hm : 0 < m.toInt) (hmα : hp_I α 550 w = m) (lg : Nat) (L : List Int32) (hL : LM α lg L) (l : List (Nat × Nat × Bool)) (hW : WC α wy l) (hl : l.length ≤ 64) (hin : ∀ q ∈ l, q.1 + q.2.1 ≤ L.length) : ∀ (d k : Nat) (β : hp_T) (kI : Int32), kI.toInt = (k : Int) → k ≤ l.length → qf w a α β → RWL β a (mkl m L (l.take k)) → l.length + 1 - k ≤ d → ws (f_X10_marksAlongs_L8 n w d β wy lg a kI) (fun γ => RWL γ a (mkl m L l) ∧ qf w a α γ) := by
  intro d
  induction d with
  | zero => intro k β kI h1 h2 hf hR h3; omega
  | succ d ih =>
    intro k β kI h1 h2 hf hR h3
    have hWβ := WC_qf hW hf
    rw [f_X10_marksAlongs_L8.eq_2]
    refine ws_l (ws_le (fun e => ws_s ⟨?_, hf⟩) (fun e => ?_))
    · rw [hWβ.1] at e
      rw [List.take_of_length_le (by omega)] at hR
      exact hR
    · rw [hWβ.1] at e
      have hk : k < l.length := by omega
      have i550 : hp_I β 550 w = m := by rw [hf.2.2.2.2.1 550 w (by omega)]; exact hmα
      refine ws_b (k_firstAt n β wy l hWβ hl k kI h1 hk) (fun x hx => ws_b (k_manyAt n β wy l hWβ hl k kI h1 hk) (fun y hy => ws_hc (k_treeMark n hn w β m hm i550 lg L (LM_qf hL hf) l[k].1 l[k].2.1 (hin _ (List.getElem_mem hk)) x y hx hy) (fun v γ hv => ws_b (k_rput n (RWL_jf hR hv.2) (by rw [mkl_len, List.length_take]; omega) v) (fun δ hδ => ws_l ?_))))
      refine ih (k + 1) δ _ ?_ (by omega) (qf_tr hf (qf_tr (qf_j hv.2) (qf_e hδ.2))) ?_ (by omega)
      · rw [ii_add (by rw [lt1]; omega) (by rw [lt1]; omega), h1, lt1]; omega
      · have hv1 : v = TMK m L l[k].1 l[k].2.1 := hv.1
        have e2 : mkl m L (l.take (k + 1)) = mkl m L (l.take k) ++ [v] := by
          unfold mkl
          rw [List.take_succ_eq_append_getElem hk, List.map_append, hv1]
          rfl
        rw [e2]
        exact hδ.1
theorem k_marksAlong (n : Nat) (hn : 70000 ≤ n) (w a wy : Nat) (α : hp_T) (m : Int32) (hm : 0 < m.toInt) (hmα : hp_I α 550 w = m) (lg : Nat) (L : List Int32) (hL : LM α lg L) (l : List (Nat × Nat × Bool)) (hW : WC α wy l) (hl : l.length ≤ 64) (hin : ∀ q ∈ l, q.1 + q.2.1 ≤ L.length) (rl : List Int32) (hR : RWL α a rl) : ws (f_X10_marksAlong n α w wy (some lg) a) (fun γ => RWL γ a (mkl m L l) ∧ qf w a α γ) := by
  show ws (ms_b _ _) _
  refine ws_b (k_rshort n hR 0 (Nat.zero_le _) 0 rfl) (fun β hβ => ?_)
  rw [List.take_zero] at hβ
  exact k_marks_L n hn w a wy α m hm hmα lg L hL l hW hl hin n 0 β 0 rfl (Nat.zero_le _) (qf_e hβ.2) hβ.1 (by omega)
theorem RWL_m {α : hp_T} {a : Nat} {l : List Int32} (h : RWL α a l) : 0 ≤ (hp_I α 301 a).toInt ∧ (hp_I α 301 a).toInt ≤ 64 := by
  have := h.1
  rw [h.2.1]; omega
/-- what the class may change while it looks whether a record has grown -/
def gf (w : Nat) (α β : hp_T) : Prop := hp_R β = hp_R α ∧ hp_K β = hp_K α ∧ hp_Q β = hp_Q α ∧ hp_N β = hp_N α ∧ (∀ φ b, ¬ (b = w + 5 ∧ φ = 301) → ¬ (b = w + 7 ∧ (φ = 453 ∨ φ = 454)) → hp_I β φ b = hp_I α φ b) ∧ ∀ κ b j, ¬ (κ = 33 ∧ b = w + 4) → ¬ (κ = 20 ∧ b = w + 6) → ¬ ((κ = 21 ∧ b = w + 8) ∨ (κ = 22 ∧ b = w + 9) ∨ (κ = 23 ∧ b = w + 10)) → hp_E β κ b j = hp_E α κ b j
theorem gf_tr {w : Nat} {α β γ : hp_T} (h : gf w α β) (g : gf w β γ) : gf w α γ := by
  obtain ⟨h1, h2, h3, h4, h5, h6⟩ := h
  obtain ⟨g1, g2, g3, g4, g5, g6⟩ := g
  exact ⟨g1.trans h1, g2.trans h2, g3.trans h3, g4.trans h4, fun φ b q1 q2 => (g5 φ b q1 q2).trans (h5 φ b q1 q2), fun κ b j q1 q2 q3 => (g6 κ b j q1 q2 q3).trans (h6 κ b j q1 q2 q3)⟩
theorem gf_w {w : Nat} {α β : hp_T} (hS : SHW α w) (h : wf (w + 7) α β) : gf w α β := by
  obtain ⟨h1, h2, h3, h4, h5, h6⟩ := h
  have hs := hS.2.2.2.2.2.2.2.2.2.2.1
  rw [hs.1, hs.2.1, hs.2.2] at h6
  exact ⟨h1, h2, h3, h4, fun φ b _ q => h5 φ b q, fun κ b j _ _ q => h6 κ b j q⟩
theorem gf_q {w : Nat} {α β : hp_T} (hS : SHW α w) (h : qf w (w + 5) α β) : gf w α β := by
  obtain ⟨h1, h2, h3, h4, h5, h6⟩ := h
  rw [hS.2.2.2.1, hS.2.2.2.2.2.2.2.2.2.1] at h6
  exact ⟨h1, h2, h3, h4, fun φ b q _ => h5 φ b q, fun κ b j q1 q2 _ => h6 κ b j q1 q2⟩
theorem gf_j {w : Nat} {α β : hp_T} (hS : SHW α w) (h : jf w α β) : gf w α β := gf_q hS (qf_j h)
theorem WR_f2 {α β : hp_T} {w : Nat} {f : Nat → Int32} (h : WR α w f) (hC : rC f) (eR : hp_R β = hp_R α) (eQ : hp_Q β = hp_Q α) (eI : ∀ φ b, w ≤ b → b < w + 459 → (φ = 550 ∨ φ = 552 ∨ φ = 554 ∨ φ = 556 ∨ φ = 152 ∨ φ = 501 ∨ (100 ≤ φ ∧ φ ≤ 103) ∨ (φ = 301 ∧ w + 407 ≤ b) ∨ (400 ≤ φ ∧ φ ≤ 403)) → hp_I β φ b = hp_I α φ b) (eE : ∀ κ b j, w ≤ b → b < w + 459 → (κ = 27 ∨ κ = 29 ∨ (κ = 20 ∧ w + 407 ≤ b)) → hp_E β κ b j = hp_E α κ b j) : WR β w f := by
  have h4 := hC.1.2
  have h16 := hC.2.2.2.1.2
  obtain ⟨h1, h2, h3, hF, hW, hX⟩ := h
  refine ⟨SHW_e h1 eR eQ, ⟨?_, ?_, ?_, ?_⟩, fun r hr => ?_, fun i hi => ?_, fun i hi => ?_, fun i hi => by rw [eI 301 _ (by unfold fzA; omega) (by unfold fzA; omega) (by unfold fzA; omega)]; exact hX i hi⟩
  · rw [eI 550 w (by omega) (by omega) (by omega)]; exact h2.1
  · rw [eI 552 w (by omega) (by omega) (by omega)]; exact h2.2.1
  · rw [eI 554 w (by omega) (by omega) (by omega)]; exact h2.2.2.1
  · rw [eI 556 w (by omega) (by omega) (by omega)]; exact h2.2.2.2
  · obtain ⟨a1, a2⟩ := h3 r hr
    have hs := hC.2.2.2.2.1 r (by omega)
    refine ⟨by rw [eI 152 _ (by unfold lpA; omega) (by unfold lpA; omega) (by omega)]; exact a1, fun i hi => ?_⟩
    obtain ⟨⟨b1, b2, b3, b4⟩, b5⟩ := a2 i hi
    have hsh := (h1.2.2.2.2.2.2.2.2.2.2.2.1 r (by omega)).2.2 i (by omega)
    refine ⟨⟨b1, by rw [eI 501 _ (by unfold wdA; omega) (by unfold wdA; omega) (by omega)]; exact b2, fun k hk => ?_, b4⟩, ?_⟩
    · rw [eR, hsh.2, eE 27 _ k (by unfold wdA; omega) (by unfold wdA; omega) (Or.inl rfl), ← hsh.2]; exact b3 k hk
    · rw [eE 29 _ i (by unfold lpA; omega) (by unfold lpA; omega) (Or.inr (Or.inl rfl))]; exact b5
  · obtain ⟨b1, b2, b3, b4, b5, b6⟩ := hF i hi
    refine ⟨?_, ?_, ?_, ?_, ?_, fun k hk => ?_⟩
    · rw [eI 100 _ (by unfold fzA; omega) (by unfold fzA; omega) (by omega)]; exact b1
    · rw [eI 101 _ (by unfold fzA; omega) (by unfold fzA; omega) (by omega)]; exact b2
    · rw [eI 102 _ (by unfold fzA; omega) (by unfold fzA; omega) (by omega)]; exact b3
    · rw [eI 103 _ (by unfold fzA; omega) (by unfold fzA; omega) (by omega)]; exact b4
    · rw [eI 301 _ (by unfold fzA; omega) (by unfold fzA; omega) (by unfold fzA; omega)]; exact b5
    · rw [eE 20 _ k (by unfold fzA; omega) (by unfold fzA; omega) (Or.inr (Or.inr ⟨rfl, by unfold fzA; omega⟩))]; exact b6 k hk
  · obtain ⟨b1, b2, b3, b4⟩ := hW i hi
    refine ⟨?_, ?_, ?_, ?_⟩
    · rw [eI 400 _ (by unfold wtA; omega) (by unfold wtA; omega) (by omega)]; exact b1
    · rw [eI 401 _ (by unfold wtA; omega) (by unfold wtA; omega) (by omega)]; exact b2
    · rw [eI 403 _ (by unfold wtA; omega) (by unfold wtA; omega) (by omega)]; exact b3
    · rw [eI 402 _ (by unfold wtA; omega) (by unfold wtA; omega) (by omega)]; exact b4
theorem WR_gf {α β : hp_T} {w : Nat} {f : Nat → Int32} (h : WR α w f) (hC : rC f) (g : gf w α β) : WR β w f := by
  obtain ⟨g1, g2, g3, g4, g5, g6⟩ := g
  exact WR_f2 h hC g1 g3 (fun φ b _ _ q => g5 φ b (by omega) (by omega)) (fun κ b j _ _ q => g6 κ b j (by omega) (by omega) (by omega))
end JN9_11
section JN9_12
set_option maxRecDepth 100000
/-! ===== show: the reference ===== -/
theorem WHY_rng (m : Int32) (xs : Nat → Int32) (c i : Nat) (old : Int32) (N : Nat) (new : Int32) : 0 ≤ (WHY m xs c i old N new).toInt ∧ (WHY m xs c i old N new).toInt ≤ 4 := by
  unfold WHY
  repeat' split
  all_goals decide
def shW (f : Nat → Int32) (w r N : Nat) : Int32 := if (f (76 + 4 * w)).toInt ≤ (N : Int) then WBR (f 1) (EL f r) (f (76 + 4 * w)).toInt.toNat (f (77 + 4 * w)) N (TMK (f 1) (EL f r) 0 N) else if (f (76 + 4 * w)).toInt ≤ (f (72 + r)).toInt then WBR (f 1) (EL f r) N (TMK (f 1) (EL f r) 0 N) (f (76 + 4 * w)).toInt.toNat (f (77 + 4 * w)) else 5
theorem shW_rng (f : Nat → Int32) (w r N : Nat) : 0 ≤ (shW f w r N).toInt ∧ (shW f w r N).toInt ≤ 5 := by
  unfold shW WBR
  split
  · have := WHY_rng (f 1) (fun k => (mkl (f 1) (EL f r) (wyH (f (76 + 4 * w)).toInt.toNat N).reverse).getD k 0) (wyH (f (76 + 4 * w)).toInt.toNat N).length (f (76 + 4 * w)).toInt.toNat (f (77 + 4 * w)) N (TMK (f 1) (EL f r) 0 N)
    omega
  · split
    · have := WHY_rng (f 1) (fun k => (mkl (f 1) (EL f r) (wyH N (f (76 + 4 * w)).toInt.toNat).reverse).getD k 0) (wyH N (f (76 + 4 * w)).toInt.toNat).length N (TMK (f 1) (EL f r) 0 N) (f (76 + 4 * w)).toInt.toNat (f (77 + 4 * w))
      omega
    · decide
def shF (f : Nat → Int32) (w r N : Nat) (g : Nat → Int32) : Prop := (if shW f w r N = 0 ∧ (f (76 + 4 * w)).toInt < (N : Int) then (g (76 + 4 * w)).toInt = (N : Int) ∧ g (77 + 4 * w) = TMK (f 1) (EL f r) 0 N else g (76 + 4 * w) = f (76 + 4 * w) ∧ g (77 + 4 * w) = f (77 + 4 * w)) ∧ g (78 + 4 * w) = (if shW f w r N = 0 ∨ shW f w r N = 5 then f (78 + 4 * w) else 1) ∧ g (79 + 4 * w) = f (79 + 4 * w) + 1 ∧ g 4 = f 4 + 1 ∧ ∀ j, ¬ (76 + 4 * w ≤ j ∧ j < 80 + 4 * w) → j ≠ 4 → g j = f j
theorem wtI (w : Nat) (hw : w < 4) (wI : Int32) (hwI : wI.toInt = (w : Int)) : ((76 : Int32) + (4 : Int32) * wI).toInt = ((76 + 4 * w : Nat) : Int) := by
  have L76 : (76 : Int32).toInt = 76 := by decide
  have L4 := t_4
  have e1 : ((4 : Int32) * wI).toInt = ((4 * w : Nat) : Int) := by rw [ii_mul (by rw [L4]; omega) (by rw [L4]; omega), L4, hwI]; omega
  rw [ii_add (by omega) (by omega), L76, e1]; omega
theorem wtI2 (w : Nat) (hw : w < 4) (wI : Int32) (hwI : wI.toInt = (w : Int)) (k : Nat) (hk : k < 4) (kI : Int32) (hkI : kI.toInt = (k : Int)) : ((76 : Int32) + (4 : Int32) * wI + kI).toInt = ((76 + 4 * w + k : Nat) : Int) := by
  have := wtI w hw wI hwI
  rw [ii_add (by omega) (by omega), this, hkI]; omega
theorem v_sh117 (n : Nat) (σ : ms_T) (w : Nat) (hw : w < 4) (wI : Int32) (hwI : wI.toInt = (w : Int)) (y : Int32) : pr (f_X12_shows_J117 n σ wI y) (fun res => res.1 = y ∧ ms_E res.2 40 (79 + 4 * w) = ms_E σ 40 (79 + 4 * w) + 1 ∧ ms_E res.2 40 4 = ms_E σ 40 4 + 1 ∧ (∀ j, j ≠ 79 + 4 * w → j ≠ 4 → ms_E res.2 40 j = ms_E σ 40 j) ∧ fr [] [40] σ res.2) := by
  have e3 := wtI2 w hw wI hwI 3 (by decide) 3 rfl
  rw [show 76 + 4 * w + 3 = 79 + 4 * w by omega] at e3
  unfold f_X12_shows_J117
  rw [c4]
  refine pr_ln (fun x hx => ?_)
  rw [← hx] at e3
  rw [cl_n e3]
  refine pr_g (fun _ _ => pr_g (fun _ _ => pr_l (pr_g (fun _ _ => pr_g (fun _ _ => pr_l (pr_s ⟨rfl, ?_, ?_, fun j j1 j2 => ?_, fr_tr (fr_sE (by decide)) (fr_sE (by decide))⟩))))))
  · rw [mE_sE, if_neg (by omega), mE_sE, if_pos ⟨rfl, rfl⟩]
  · rw [mE_sE, if_pos ⟨rfl, rfl⟩, mE_sE, if_neg (by omega)]
  · rw [mE_sE, if_neg (by omega), mE_sE, if_neg (by omega)]
theorem v_sh92 (n : Nat) (σ : ms_T) (w : Nat) (hw : w < 4) (wI : Int32) (hwI : wI.toInt = (w : Int)) (y : Int32) (hy : 0 ≤ y.toInt ∧ y.toInt ≤ 5) : pr (f_X12_shows_J92 n σ wI y) (fun res => res.1 = y ∧ ms_E res.2 40 (78 + 4 * w) = (if y = 0 ∨ y = 5 then ms_E σ 40 (78 + 4 * w) else 1) ∧ ms_E res.2 40 (79 + 4 * w) = ms_E σ 40 (79 + 4 * w) + 1 ∧ ms_E res.2 40 4 = ms_E σ 40 4 + 1 ∧ (∀ j, j ≠ 78 + 4 * w → j ≠ 79 + 4 * w → j ≠ 4 → ms_E res.2 40 j = ms_E σ 40 j) ∧ fr [] [40] σ res.2) := by
  have L5 : (5 : Int32).toInt = 5 := by decide
  have e2 := wtI2 w hw wI hwI 2 (by decide) 2 rfl
  rw [show 76 + 4 * w + 2 = 78 + 4 * w by omega] at e2
  unfold f_X12_shows_J92
  refine pr_le (fun e => ?_) (fun e => pr_le (fun e1 => ?_) (fun e1 => ?_))
  · rw [lt0] at e
    have h0 : y = 0 := Int32.toInt_inj.mp (by rw [lt0]; omega)
    rw [if_pos (Or.inl h0)]
    exact pr_m (v_sh117 n σ w hw wI hwI y) (fun res h => ⟨h.1, h.2.2.2.1 _ (by omega) (by omega), h.2.1, h.2.2.1, fun j j1 j2 j3 => h.2.2.2.1 j j2 j3, h.2.2.2.2⟩)
  · have h0 : y = 5 := Int32.toInt_inj.mp (by rw [L5]; omega)
    rw [if_pos (Or.inr h0)]
    exact pr_m (v_sh117 n σ w hw wI hwI y) (fun res h => ⟨h.1, h.2.2.2.1 _ (by omega) (by omega), h.2.1, h.2.2.1, fun j j1 j2 j3 => h.2.2.2.1 j j2 j3, h.2.2.2.2⟩)
  · rw [lt0] at e
    rw [if_neg (fun h => by rcases h with h | h <;> rw [h] at e e1 <;> first | exact absurd e (by decide) | exact absurd e1 (by decide)), cl_n e2]
    refine pr_g (fun _ _ => pr_ln (fun τ hτ => ?_))
    have q : ∀ j, j ≠ 78 + 4 * w → ms_E τ 40 j = ms_E σ 40 j := fun j hj => by rw [hτ, mE_sE, if_neg (by omega)]
    refine pr_m (v_sh117 n τ w hw wI hwI y) (fun res h => ⟨h.1, ?_, ?_, ?_, fun j j1 j2 j3 => ?_, ?_⟩)
    · rw [h.2.2.2.1 _ (by omega) (by omega), hτ, mE_sE, if_pos ⟨rfl, rfl⟩]
    · rw [h.2.1, q _ (by omega)]
    · rw [h.2.2.1, q _ (by omega)]
    · rw [h.2.2.2.1 j j2 j3, q j j1]
    · exact fr_tr (by rw [hτ]; exact fr_sE (by decide)) h.2.2.2.2
theorem v_trust (n : Nat) (σ : ms_T) (w : Nat) (hw : w < 4) (wI : Int32) (hwI : wI.toInt = (w : Int)) (k : Nat) (hk : k < 4) (kI : Int32) (hkI : kI.toInt = (k : Int)) : pr (f_X12_trust n σ wI kI) (fun v => v = ms_E σ 40 (76 + 4 * w + k)) := by
  unfold f_X12_trust
  rw [cl_n (wtI2 w hw wI hwI k hk kI hkI)]
  exact pr_g (fun _ _ => pr_s rfl)
theorem v_trusts (n : Nat) (σ : ms_T) (w : Nat) (hw : w < 4) (wI : Int32) (hwI : wI.toInt = (w : Int)) (x y : Int32) : pr (f_X12_trusts n σ wI x y) (fun τ => ms_E τ 40 (76 + 4 * w) = x ∧ ms_E τ 40 (77 + 4 * w) = y ∧ (∀ j, j ≠ 76 + 4 * w → j ≠ 77 + 4 * w → ms_E τ 40 j = ms_E σ 40 j) ∧ fr [] [40] σ τ) := by
  have e1 := wtI2 w hw wI hwI 1 (by decide) 1 rfl
  rw [show 76 + 4 * w + 1 = 77 + 4 * w by omega] at e1
  unfold f_X12_trusts
  rw [cl_n (wtI w hw wI hwI), cl_n e1]
  refine pr_g (fun _ _ => pr_l (pr_g (fun _ _ => pr_l (pr_s ⟨?_, ?_, fun j j1 j2 => ?_, fr_tr (fr_sE (by decide)) (fr_sE (by decide))⟩))))
  · rw [mE_sE, if_neg (by omega), mE_sE, if_pos ⟨rfl, rfl⟩]
  · rw [mE_sE, if_pos ⟨rfl, rfl⟩]
  · rw [mE_sE, if_neg (by omega), mE_sE, if_neg (by omega)]
theorem v_sh71 (n : Nat) (σ τ : ms_T) (e40 : ms_E τ 40 = ms_E σ 40) (hf : fr [657, 658, 659, 660] [42, 43, 44] σ τ) (w r N : Nat) (hw : w < 4) (wI : Int32) (hwI : wI.toInt = (w : Int)) (NI : Int32) (hNI : NI.toInt = (N : Int)) (s H y : Int32) (hs : s = ms_E σ 40 (76 + 4 * w)) (hH : H = TMK (ms_E σ 40 1) (EL (ms_E σ 40) r) 0 N) (hy : y = shW (ms_E σ 40) w r N) : pr (f_X12_shows_J71 n τ wI NI s H y) (fun res => res.1 = shW (ms_E σ 40) w r N ∧ shF (ms_E σ 40) w r N (ms_E res.2 40) ∧ fr [657, 658, 659, 660] [40, 42, 43, 44] σ res.2) := by
  have hy5 : 0 ≤ y.toInt ∧ y.toInt ≤ 5 := by rw [hy]; exact shW_rng _ _ _ _
  have hf' : fr [657, 658, 659, 660] [40, 42, 43, 44] σ τ := fr_sb hf (by decide) (by decide)
  unfold f_X12_shows_J71 shF
  rw [← hy]
  have hJ : ¬ (y = 0 ∧ (ms_E σ 40 (76 + 4 * w)).toInt < (N : Int)) → pr (f_X12_shows_J92 n τ wI y) (fun res => res.1 = y ∧ ((if y = 0 ∧ (ms_E σ 40 (76 + 4 * w)).toInt < (N : Int) then (ms_E res.2 40 (76 + 4 * w)).toInt = (N : Int) ∧ ms_E res.2 40 (77 + 4 * w) = TMK (ms_E σ 40 1) (EL (ms_E σ 40) r) 0 N else ms_E res.2 40 (76 + 4 * w) = ms_E σ 40 (76 + 4 * w) ∧ ms_E res.2 40 (77 + 4 * w) = ms_E σ 40 (77 + 4 * w)) ∧ ms_E res.2 40 (78 + 4 * w) = (if y = 0 ∨ y = 5 then ms_E σ 40 (78 + 4 * w) else 1) ∧ ms_E res.2 40 (79 + 4 * w) = ms_E σ 40 (79 + 4 * w) + 1 ∧ ms_E res.2 40 4 = ms_E σ 40 4 + 1 ∧ ∀ j, ¬ (76 + 4 * w ≤ j ∧ j < 80 + 4 * w) → j ≠ 4 → ms_E res.2 40 j = ms_E σ 40 j) ∧ fr [657, 658, 659, 660] [40, 42, 43, 44] σ res.2) := by
    intro hn
    refine pr_m (v_sh92 n τ w hw wI hwI y hy5) (fun res h => ?_)
    rw [e40] at h
    exact ⟨h.1, ⟨by rw [if_neg hn]; exact ⟨h.2.2.2.2.1 _ (by omega) (by omega) (by omega), h.2.2.2.2.1 _ (by omega) (by omega) (by omega)⟩, h.2.1, h.2.2.1, h.2.2.2.1, fun j j1 j2 => h.2.2.2.2.1 j (by omega) (by omega) j2⟩, fr_tr hf' (fr_sb h.2.2.2.2.2 (by decide) (by decide))⟩
  refine pr_i (fun e => pr_le (fun e1 => ?_) (fun e1 => ?_)) (fun e => hJ (fun h => e h.1))
  · exact hJ (fun h => by rw [hs, hNI] at e1; omega)
  · rw [hs, hNI] at e1
    refine pr_b (v_trusts n τ w hw wI hwI NI H) (fun υ hυ => ?_)
    rw [e40] at hυ
    obtain ⟨u1, u2, u3, u4⟩ := hυ
    refine pr_m (v_sh92 n υ w hw wI hwI y hy5) (fun res h => ?_)
    obtain ⟨h1, h2, h3, h4, h5, h6⟩ := h
    refine ⟨h1, ⟨?_, ?_, ?_, ?_, fun j j1 j2 => ?_⟩, fr_tr hf' (fr_tr (fr_sb u4 (by decide) (by decide)) (fr_sb h6 (by decide) (by decide)))⟩
    · rw [if_pos ⟨e, e1⟩]
      exact ⟨by rw [h5 _ (by omega) (by omega) (by omega), u1]; exact hNI, by rw [h5 _ (by omega) (by omega) (by omega), u2]; exact hH⟩
    · rw [h2, u3 _ (by omega) (by omega)]
    · rw [h3, u3 _ (by omega) (by omega)]
    · rw [h4, u3 _ (by omega) (by omega)]
    · rw [h5 j (by omega) (by omega) j2, u3 j (by omega) (by omega)]
theorem v_shows (n : Nat) (σ : ms_T) (hC : rC (ms_E σ 40)) (w r N : Nat) (hw : w < 4) (hr : r < 4) (hN : (N : Int) ≤ (ms_E σ 40 (72 + r)).toInt) (wI rI NI : Int32) (hwI : wI.toInt = (w : Int)) (hrI : rI.toInt = (r : Int)) (hNI : NI.toInt = (N : Int)) : pr (f_X12_shows n σ wI rI NI) (fun res => res.1 = shW (ms_E σ 40) w r N ∧ shF (ms_E σ 40) w r N (ms_E res.2 40) ∧ fr [657, 658, 659, 660] [40, 42, 43, 44] σ res.2) := by
  have hsz := hC.2.2.2.2.1 r hr
  have hwt := hC.2.2.2.2.2.1 w hw
  unfold f_X12_shows
  refine pr_b (v_trust n σ w hw wI hwI 0 (by decide) 0 rfl) (fun s hs => pr_b (v_headOf n σ hC r hr rI hrI N NI hNI (by rw [EL_len]; omega)) (fun H hH => ?_))
  rw [Nat.add_zero] at hs
  refine pr_le (fun e => ?_) (fun e => ?_)
  · refine pr_b (v_trust n σ w hw wI hwI 1 (by decide) 1 rfl) (fun h hh => ?_)
    rw [show 76 + 4 * w + 1 = 77 + 4 * w by omega] at hh
    refine pr_c (v_whyByRecord n σ hC r hr rI hrI (ms_E σ 40 (76 + 4 * w)).toInt.toNat N s NI h H (by rw [hs]; omega) hNI (by rw [hs, hNI] at e; omega) (by rw [EL_len]; omega)) (fun y τ hy => ?_)
    have e40 : ms_E τ 40 = ms_E σ 40 := funext (hy.2.2 40 (by decide))
    refine v_sh71 n σ τ e40 hy.2 w r N hw wI hwI NI hNI s H y hs hH ?_
    rw [hs, hNI] at e
    unfold shW
    rw [if_pos e, ← hH, ← hh]
    exact hy.1
  · refine pr_b (v_sizeOf n σ r hr rI hrI) (fun z hz => pr_le (fun e1 => ?_) (fun e1 => ?_))
    · refine pr_b (v_trust n σ w hw wI hwI 1 (by decide) 1 rfl) (fun h hh => ?_)
      rw [show 76 + 4 * w + 1 = 77 + 4 * w by omega] at hh
      rw [hs, hNI] at e
      rw [hs, hz] at e1
      refine pr_c (v_whyByRecord n σ hC r hr rI hrI N (ms_E σ 40 (76 + 4 * w)).toInt.toNat NI s H h hNI (by rw [hs]; omega) (by omega) (by rw [EL_len]; omega)) (fun y τ hy => ?_)
      have e40 : ms_E τ 40 = ms_E σ 40 := funext (hy.2.2 40 (by decide))
      refine v_sh71 n σ τ e40 hy.2 w r N hw wI hwI NI hNI s H y hs hH ?_
      unfold shW
      rw [if_neg (by omega), if_pos e1, ← hH, ← hh]
      exact hy.1
    · rw [hs, hNI] at e
      rw [hs, hz] at e1
      refine v_sh71 n σ σ rfl fr_rf w r N hw wI hwI NI hNI s H 5 hs hH ?_
      unfold shW
      rw [if_neg (by omega), if_neg (by omega)]
/-! ===== show: the class ===== -/
def rG (α : hp_T) (w : Nat) : Prop := 0 ≤ (hp_I α 301 (w + 5)).toInt ∧ (hp_I α 301 (w + 5)).toInt ≤ 64
theorem LM_gf {α β : hp_T} {w lg : Nat} {L : List Int32} (h : LM α lg L) (f : gf w α β) : LM β lg L := by
  obtain ⟨f1, -, -, -, f5, f6⟩ := f
  refine ⟨h.1, by rw [f5 152 lg (by omega) (by omega)]; exact h.2.1, fun j hj => ?_⟩
  rw [f1, f6 29 _ _ (by omega) (by omega) (by omega)]
  exact h.2.2 j hj
theorem k_whyGrown (n : Nat) (hn : 70000 ≤ n) (α : hp_T) (w : Nat) (f : Nat → Int32) (h : WR α w f) (hC : rC f) (hG : rG α w) (r : Nat) (hr : r < (f 0).toInt.toNat) (i N : Nat) (iI NI old new : Int32) (hi : iI.toInt = (i : Int)) (hN : NI.toInt = (N : Int)) (hiN : i ≤ N) : ws (f_X10_whyGrown n α w (some (lpA w r)) iI old NI new) (fun res => res.1 = (if (N : Int) ≤ (f (72 + r)).toInt then WBR (f 1) (EL f r) i old N new else 5) ∧ gf w α res.2 ∧ rG res.2 w) := by
  have h4 := hC.1.2
  have hsz := hC.2.2.2.2.1 r (by omega)
  have hm : 0 < (f 1).toInt := by have := hC.2.1; omega
  have q152 : hp_I α 152 (lpA w r) = f (72 + r) := (h.2.2.1 r hr).1
  have gf_rf : gf w α α := ⟨rfl, rfl, rfl, rfl, fun _ _ _ _ => rfl, fun _ _ _ _ _ _ => rfl⟩
  unfold f_X10_whyGrown
  refine ws_hS (ws_l (ws_le (fun e => ?_) (fun e => ws_s ⟨?_, gf_rf, hG⟩)))
  · rw [q152, hN] at e
    rw [if_pos e]
    refine ws_l ?_
    rw [h.1.2.2.2.2.2.1]
    refine ws_b (k_toGrowth2 n hn α (w + 7) i N iI NI hi hN hiN) (fun β hβ => ws_l (ws_l ?_))
    obtain ⟨⟨hW, hf⟩, -⟩ := hβ
    have g1 := gf_w h.1 hf
    have hWβ := WR_gf h hC g1
    rw [hWβ.1.2.2.2.2.2.1, hWβ.1.2.2.2.2.1]
    have L0 := LM_gf (WR_LM h hC hr) g1
    have hl32 := wyH_len i N
    obtain ⟨rl, hrl⟩ := RWL_any (α := β) (a := w + 5) (by rw [hf.2.2.2.2.1 301 _ (by omega)]; exact hG.1) (by rw [hf.2.2.2.2.1 301 _ (by omega)]; exact hG.2)
    refine ws_b (k_marksAlong n hn w (w + 5) (w + 7) β (f 1) hm hWβ.2.1.1 (lpA w r) (EL f r) L0 (wyH i N).reverse hW (by rw [List.length_reverse]; omega) (fun q hq => Nat.le_trans (wyH_in i N hiN q hq) (by rw [EL_len]; omega)) rl hrl) (fun γ hγ => ws_l (ws_l (ws_l ?_)))
    have g2 := gf_q hWβ.1 hγ.2
    have hWγ := WR_gf hWβ hC g2
    rw [hWγ.1.2.2.2.2.2.1, hWγ.1.2.2.2.2.1, hWγ.2.1.1]
    refine ws_hc (k_whyGrowth n hn γ (w + 7) (w + 5) _ hγ.1 (f 1) hm i N iI NI old new hi hN hiN) (fun y δ hy => ws_s ⟨?_, gf_tr g1 (gf_tr g2 (gf_w hWγ.1 hy.2)), RWL_m (RWL_wf hγ.1 hy.2)⟩)
    have hy1 := hy.1
    rw [mkl_len, List.length_reverse] at hy1
    exact hy1
  · rw [q152, hN] at e
    rw [if_neg (by omega)]
theorem k_sh88 (n : Nat) (w : Nat) (γ : hp_T) (wt : Nat) (hwt : wt ≠ w) (y : Int32) : ws (f_X10_showTos_J88 n w γ wt y) (fun res => res.1 = y ∧ hp_I res.2 403 wt = (if hp_I γ 403 wt = 0 then (if y = 0 ∨ y = 5 then 0 else 1) else 1) ∧ hp_I res.2 402 wt = hp_I γ 402 wt + 1 ∧ hp_I res.2 556 w = hp_I γ 556 w + 1 ∧ (∀ φ b, ¬ (b = wt ∧ (φ = 402 ∨ φ = 403)) → ¬ (b = w ∧ φ = 556) → hp_I res.2 φ b = hp_I γ φ b) ∧ hp_R res.2 = hp_R γ ∧ hp_K res.2 = hp_K γ ∧ hp_Q res.2 = hp_Q γ ∧ hp_N res.2 = hp_N γ ∧ hp_E res.2 = hp_E γ) := by
  have hH : ws (f_X7_hearWhy n γ wt y) (fun δ => δ = hp_sI γ 403 wt (if hp_I γ 403 wt = 0 then (if y = 0 ∨ y = 5 then 0 else 1) else 1)) := by
    unfold f_X7_hearWhy f_X7_hearWhy_J21 f_X7_hearWhy_J17
    refine ws_l (ws_i (fun e => ws_i (fun e1 => ws_l (ws_s ?_)) (fun e1 => ws_i (fun e2 => ws_l (ws_s ?_)) (fun e2 => ws_l (ws_s ?_)))) (fun e => ws_l (ws_s ?_)))
    · rw [if_pos e, if_pos (Or.inl e1)]
    · rw [if_pos e, if_pos (Or.inr e2)]
    · rw [if_pos e, if_neg (fun h => h.elim e1 e2)]
    · rw [if_neg e]
  unfold f_X10_showTos_J88
  refine ws_b hH (fun δ hδ => ws_l (ws_l (ws_l (ws_l (ws_s ⟨rfl, ?_, ?_, ?_, fun φ b q1 q2 => ?_, ?_, ?_, ?_, ?_, ?_⟩)))))
  · rw [hI_sI, if_neg (by omega), hI_sI, if_neg (by omega), hδ, hI_sI, if_pos ⟨rfl, rfl⟩]
  · rw [hI_sI, if_neg (by omega), hI_sI, if_pos ⟨rfl, rfl⟩, hδ, hI_sI, if_neg (by omega)]
  · rw [hI_sI, if_pos ⟨rfl, rfl⟩, hI_sI, if_neg (by omega), hδ, hI_sI, if_neg (by omega)]
  · rw [hI_sI, if_neg (by omega), hI_sI, if_neg (by omega), hδ, hI_sI, if_neg (by omega)]
  all_goals rw [hδ]; rfl
/-- a world whose watcher v changed -/
theorem WR_wt {α β : hp_T} {w : Nat} {f g : Nat → Int32} {v : Nat} (hv : v < 4) (h : WR α w f) (hC : rC f) (eR : hp_R β = hp_R α) (eQ : hp_Q β = hp_Q α) (eI : ∀ φ b, ¬ (b = wtA w v ∧ 400 ≤ φ ∧ φ ≤ 403) → ¬ (b = w ∧ φ = 556) → ¬ (b = w + 5 ∧ φ = 301) → ¬ (b = w + 7 ∧ (φ = 453 ∨ φ = 454)) → hp_I β φ b = hp_I α φ b) (eE : ∀ κ b j, ¬ (κ = 33 ∧ b = w + 4) → ¬ (κ = 20 ∧ b = w + 6) → ¬ ((κ = 21 ∧ b = w + 8) ∨ (κ = 22 ∧ b = w + 9) ∨ (κ = 23 ∧ b = w + 10)) → hp_E β κ b j = hp_E α κ b j) (e4 : hp_I β 556 w = g 4) (hw : WTN β w g v) (hg : ∀ j, ¬ (76 + 4 * v ≤ j ∧ j < 80 + 4 * v) → j ≠ 4 → g j = f j) : WR β w g := by
  obtain ⟨h1, h2, h3, hF, hW, hX⟩ := h
  have b4 := hC.1
  have b16 := hC.2.2.2.1
  have c0 : g 0 = f 0 := hg 0 (by omega) (by decide)
  have c1 : g 1 = f 1 := hg 1 (by omega) (by decide)
  have c3 : g 3 = f 3 := hg 3 (by omega) (by decide)
  have c252 : ∀ j, 252 ≤ j → g j = f j := fun j hj => hg j (by omega) (by omega)
  refine ⟨SHW_e h1 eR eQ, ⟨?_, ?_, ?_, e4⟩, fun q hq => ?_, fun q hq => ?_, fun q hq => ?_, fun q hq => ?_⟩
  · rw [eI 550 w (by omega) (by omega) (by omega) (by omega), c1]; exact h2.1
  · rw [eI 552 w (by omega) (by omega) (by omega) (by omega), c0]; exact h2.2.1
  · rw [eI 554 w (by omega) (by omega) (by omega) (by omega), c3]; exact h2.2.2.1
  · rw [c0] at hq
    have c72 : g (72 + q) = f (72 + q) := hg _ (by omega) (by omega)
    have hsq := hC.2.2.2.2.1 q (by omega)
    rw [c72]
    refine ⟨by rw [eI 152 _ (by omega) (by omega) (by omega) (by omega)]; exact (h3 q hq).1, fun e he => ?_⟩
    obtain ⟨⟨d1, d2, d3, d4⟩, d5⟩ := (h3 q hq).2 e he
    unfold EN
    rw [ltr_k c252, EM_c1 c1 c252]
    refine ⟨⟨d1, by rw [eI 501 _ (by omega) (by omega) (by omega) (by omega)]; exact d2, fun k hk => ?_, d4⟩, ?_⟩
    · rw [eR, eE 27 _ k (by omega) (by omega) (by omega)]; exact d3 k hk
    · rw [eE 29 _ e (by omega) (by omega) (by omega)]; exact d5
  · rw [c3] at hq
    obtain ⟨d1, d2, d3, d4, d5, d6⟩ := hF q hq
    have e93 : g (93 + 10 * q) = f (93 + 10 * q) := hg _ (by omega) (by omega)
    refine ⟨?_, ?_, ?_, ?_, ?_, fun k hk hP => ?_⟩
    · rw [eI 100 _ (by omega) (by omega) (by omega) (by omega), d1]; exact (hg _ (by omega) (by omega)).symm
    · rw [eI 101 _ (by omega) (by omega) (by omega) (by omega), d2, e93]
    · rw [eI 102 _ (by omega) (by omega) (by omega) (by omega), d3]; exact (hg _ (by omega) (by omega)).symm
    · rw [eI 103 _ (by omega) (by omega) (by omega) (by omega), d4]; exact (hg _ (by omega) (by omega)).symm
    · rw [eI 301 _ (by omega) (by omega) (by unfold fzA; omega) (by omega), e93]; exact d5
    · rw [e93] at hk
      rw [eE 20 _ k (by omega) (by unfold fzA; omega) (by omega), d6 k hk hP]; exact (hg _ (by omega) (by omega)).symm
  · by_cases hqv : q = v
    · rw [hqv]; exact hw
    · obtain ⟨d1, d2, d3, d4⟩ := hW q hq
      have hI : ∀ φ, 400 ≤ φ → φ ≤ 403 → hp_I β φ (wtA w q) = hp_I α φ (wtA w q) := fun φ _ _ => eI φ _ (by unfold wtA; omega) (by omega) (by omega) (by omega)
      refine ⟨?_, ?_, ?_, ?_⟩
      · rw [hI 400 (by decide) (by decide), d1]; exact (hg _ (by omega) (by omega)).symm
      · rw [hI 401 (by decide) (by decide), d2]; exact (hg _ (by omega) (by omega)).symm
      · rw [hI 403 (by decide) (by decide), d3]; exact (hg _ (by omega) (by omega)).symm
      · rw [hI 402 (by decide) (by decide), d4]; exact (hg _ (by omega) (by omega)).symm
  · rw [eI 301 _ (by omega) (by omega) (by unfold fzA; omega) (by omega)]; exact hX q hq
/-- alarms are 0 or 1; of each FROZEN HEAD the RECORD is there, and not shorter than its size -/
def ALW (f : Nat → Int32) : Prop := ∀ v, v < 4 → f (78 + 4 * v) = 0 ∨ f (78 + 4 * v) = 1
def FRI (f : Nat → Int32) : Prop := ∀ i, i < (f 3).toInt.toNat → (f (92 + 10 * i)).toInt < (f 0).toInt ∧ (f (93 + 10 * i)).toInt ≤ (f (72 + (f (92 + 10 * i)).toInt.toNat)).toInt
def AL01 (f : Nat → Int32) : Prop := ALW f ∧ FRI f
theorem FRI_e {f g : Nat → Int32} (hC : rC f) (h : FRI f) (e0 : (f 0).toInt ≤ (g 0).toInt) (e3 : g 3 = f 3) (e7 : ∀ r, r < (f 0).toInt.toNat → (f (72 + r)).toInt ≤ (g (72 + r)).toInt) (e9 : ∀ i, i < 16 → g (92 + 10 * i) = f (92 + 10 * i) ∧ g (93 + 10 * i) = f (93 + 10 * i)) : FRI g := by
  intro i hi
  rw [e3] at hi
  have h16 := hC.2.2.2.1
  obtain ⟨a1, a2⟩ := e9 i (by omega)
  obtain ⟨b1, b2⟩ := h i hi
  have b0 := (hC.2.2.2.2.2.2.1 i (by omega)).1
  rw [a1, a2]
  have := e7 (f (92 + 10 * i)).toInt.toNat (by omega)
  exact ⟨by omega, by omega⟩
theorem k_shZ (n : Nat) (α : hp_T) (w : Nat) (f : Nat → Int32) (h : WR α w f) (hC : rC f) (hA : AL01 f) (v r N : Nat) (hv : v < 4) (γ : hp_T) (eR : hp_R γ = hp_R α) (eK : hp_K γ = hp_K α) (eQ : hp_Q γ = hp_Q α) (eN : hp_N γ = hp_N α) (eI : ∀ φ b, ¬ (b = wtA w v ∧ (φ = 400 ∨ φ = 401)) → ¬ (b = w + 5 ∧ φ = 301) → ¬ (b = w + 7 ∧ (φ = 453 ∨ φ = 454)) → hp_I γ φ b = hp_I α φ b) (eE : ∀ κ b j, ¬ (κ = 33 ∧ b = w + 4) → ¬ (κ = 20 ∧ b = w + 6) → ¬ ((κ = 21 ∧ b = w + 8) ∨ (κ = 22 ∧ b = w + 9) ∨ (κ = 23 ∧ b = w + 10)) → hp_E γ κ b j = hp_E α κ b j) (hG : rG γ w) (hx : ∀ g, shF f v r N g → hp_I γ 400 (wtA w v) = g (76 + 4 * v) ∧ hp_I γ 401 (wtA w v) = g (77 + 4 * v)) : ws (f_X10_showTos_J88 n w γ (wtA w v) (shW f v r N)) (fun res => res.1 = shW f v r N ∧ (∀ g, shF f v r N g → WR res.2 w g) ∧ wfr w α res.2 ∧ rG res.2 w) := by
  have hwt : wtA w v ≠ w := by unfold wtA; omega
  obtain ⟨d1, d2, d3, d4⟩ := h.2.2.2.2.1 v hv
  refine ws_m (k_sh88 n w γ (wtA w v) hwt (shW f v r N)) (fun res hr => ?_)
  obtain ⟨r1, r2, r3, r4, r5, r6, r7, r8, r9, r10⟩ := hr
  have fI : ∀ φ b, ¬ (b = wtA w v ∧ 400 ≤ φ ∧ φ ≤ 403) → ¬ (b = w ∧ φ = 556) → ¬ (b = w + 5 ∧ φ = 301) → ¬ (b = w + 7 ∧ (φ = 453 ∨ φ = 454)) → hp_I res.2 φ b = hp_I α φ b := fun φ b q1 q2 q3 q4 => by rw [r5 φ b (by omega) q2]; exact eI φ b (by omega) q3 q4
  have fE : ∀ κ b j, ¬ (κ = 33 ∧ b = w + 4) → ¬ (κ = 20 ∧ b = w + 6) → ¬ ((κ = 21 ∧ b = w + 8) ∨ (κ = 22 ∧ b = w + 9) ∨ (κ = 23 ∧ b = w + 10)) → hp_E res.2 κ b j = hp_E α κ b j := fun κ b j q1 q2 q3 => by rw [r10]; exact eE κ b j q1 q2 q3
  refine ⟨r1, fun g hg => ?_, ⟨r6.trans eR, r7.trans eK, r8.trans eQ, r9.trans eN, fun φ b q => fI φ b (by unfold wtA; omega) (by omega) (by omega) (by omega), fun κ b j q => fE κ b j (by omega) (by omega) (by omega)⟩, ?_⟩
  · obtain ⟨x0, x1⟩ := hx g hg
    obtain ⟨-, g2, g3, g4, g5⟩ := hg
    refine WR_wt hv h hC (r6.trans eR) (r8.trans eQ) fI fE ?_ ⟨?_, ?_, ?_, ?_⟩ g5
    · rw [r4, eI 556 w (by omega) (by omega) (by omega), h.2.1.2.2.2, g4]
    · rw [r5 400 _ (by omega) (by omega)]; exact x0
    · rw [r5 401 _ (by omega) (by omega)]; exact x1
    · have e3 : hp_I γ 403 (wtA w v) = f (78 + 4 * v) := by rw [eI 403 _ (by omega) (by omega) (by omega)]; exact d3
      rw [r2, e3, g2]
      rcases hA.1 v hv with h0 | h0
      · rw [h0, if_pos rfl]
      · rw [h0, if_neg (by decide)]
        split <;> rfl
    · rw [r3, eI 402 _ (by omega) (by omega) (by omega), d4, g3]
  · unfold rG
    rw [r5 301 _ (by omega) (by omega)]
    exact hG
theorem shW_eq {f : Nat → Int32} {v r N : Nat} (h : shW f v r N = 0) (e : (f (76 + 4 * v)).toInt = (N : Int)) : f (77 + 4 * v) = TMK (f 1) (EL f r) 0 N := by
  unfold shW WBR WHY at h
  have e1 : (f (76 + 4 * v)).toInt.toNat = N := by omega
  rw [if_pos (by omega), e1, if_neg (Nat.lt_irrefl _), if_neg (Nat.lt_irrefl _), if_pos rfl] at h
  by_cases hc : f (77 + 4 * v) = TMK (f 1) (EL f r) 0 N
  · exact hc
  · rw [if_neg (fun q => hc q.1)] at h
    exact absurd h (by decide)
theorem k_sh69 (n : Nat) (α : hp_T) (w : Nat) (f : Nat → Int32) (h : WR α w f) (hC : rC f) (hA : AL01 f) (v r N : Nat) (hv : v < 4) (γ : hp_T) (hg : gf w α γ) (hG : rG γ w) (NI H w0 y : Int32) (hNI : NI.toInt = (N : Int)) (hH : H = TMK (f 1) (EL f r) 0 N) (hw0 : w0 = if (f (76 + 4 * v)).toInt ≤ (N : Int) then 1 else 0) (hy : y = shW f v r N) : ws (f_X10_showTos_J69 n w γ (wtA w v) NI H w0 y) (fun res => res.1 = shW f v r N ∧ (∀ g, shF f v r N g → WR res.2 w g) ∧ wfr w α res.2 ∧ rG res.2 w) := by
  obtain ⟨p1, p2, p3, p4, p5, p6⟩ := hg
  obtain ⟨d1, d2, d3, d4⟩ := h.2.2.2.2.1 v hv
  have i400 : hp_I γ 400 (wtA w v) = f (76 + 4 * v) := by rw [p5 400 _ (by omega) (by omega)]; exact d1
  have i401 : hp_I γ 401 (wtA w v) = f (77 + 4 * v) := by rw [p5 401 _ (by omega) (by omega)]; exact d2
  subst hy
  have hold : ¬ (shW f v r N = 0 ∧ (f (76 + 4 * v)).toInt < (N : Int)) → ws (f_X10_showTos_J88 n w γ (wtA w v) (shW f v r N)) (fun res => res.1 = shW f v r N ∧ (∀ g, shF f v r N g → WR res.2 w g) ∧ wfr w α res.2 ∧ rG res.2 w) := by
    intro hn
    refine k_shZ n α w f h hC hA v r N hv γ p1 p2 p3 p4 (fun φ b _ q2 q3 => p5 φ b q2 q3) p6 hG (fun g hg => ?_)
    obtain ⟨g1, -⟩ := hg
    rw [if_neg hn] at g1
    rw [i400, i401]
    exact ⟨g1.1.symm, g1.2.symm⟩
  unfold f_X10_showTos_J69
  refine ws_i (fun e => ws_i (fun e1 => ?_) (fun e1 => ?_)) (fun e => hold (fun q => e q.1))
  · refine hold (fun q => ?_)
    rw [hw0, if_pos (by omega)] at e1
    exact absurd e1 (by decide)
  · have hle : (f (76 + 4 * v)).toInt ≤ (N : Int) := by
      by_cases hc : (f (76 + 4 * v)).toInt ≤ (N : Int)
      · exact hc
      · rw [hw0, if_neg hc] at e1; exact absurd rfl e1
    refine ws_b (S := fun δ => δ = hp_sI (hp_sI γ 400 (wtA w v) NI) 401 (wtA w v) H) ?_ (fun δ hδ => ?_)
    · unfold f_X7_trust
      exact ws_l (ws_l (ws_s rfl))
    · have j5 : ∀ φ b, ¬ (b = wtA w v ∧ (φ = 400 ∨ φ = 401)) → hp_I δ φ b = hp_I γ φ b := fun φ b q => by rw [hδ, hI_sI, if_neg (by omega), hI_sI, if_neg (by omega)]
      have hs : hp_R δ = hp_R γ ∧ hp_K δ = hp_K γ ∧ hp_Q δ = hp_Q γ ∧ hp_N δ = hp_N γ ∧ hp_E δ = hp_E γ := by rw [hδ]; exact ⟨rfl, rfl, rfl, rfl, rfl⟩
      refine k_shZ n α w f h hC hA v r N hv δ (hs.1.trans p1) (hs.2.1.trans p2) (hs.2.2.1.trans p3) (hs.2.2.2.1.trans p4) (fun φ b q1 q2 q3 => by rw [j5 φ b q1]; exact p5 φ b q2 q3) (fun κ b j q1 q2 q3 => by rw [hs.2.2.2.2]; exact p6 κ b j q1 q2 q3) (by unfold rG; rw [j5 301 _ (by omega)]; exact hG) (fun g hg => ?_)
      have k0 : hp_I δ 400 (wtA w v) = NI := by rw [hδ, hI_sI, if_neg (by omega), hI_sI, if_pos ⟨rfl, rfl⟩]
      have k1 : hp_I δ 401 (wtA w v) = H := by rw [hδ, hI_sI, if_pos ⟨rfl, rfl⟩]
      rw [k0, k1]
      obtain ⟨g1, -⟩ := hg
      by_cases hlt : (f (76 + 4 * v)).toInt < (N : Int)
      · rw [if_pos ⟨e, hlt⟩] at g1
        exact ⟨Int32.toInt_inj.mp (by rw [hNI, g1.1]), by rw [hH, g1.2]⟩
      · rw [if_neg (fun q => hlt q.2)] at g1
        have he : (f (76 + 4 * v)).toInt = (N : Int) := by omega
        exact ⟨Int32.toInt_inj.mp (by rw [hNI, g1.1, he]), by rw [hH, g1.2, shW_eq e he]⟩
theorem k_showTo (n : Nat) (hn : 70000 ≤ n) (α : hp_T) (w : Nat) (f : Nat → Int32) (h : WR α w f) (hC : rC f) (hA : AL01 f) (hG : rG α w) (v r N : Nat) (hv : v < 4) (hr : r < (f 0).toInt.toNat) (hN : (N : Int) ≤ (f (72 + r)).toInt) (NI : Int32) (hNI : NI.toInt = (N : Int)) : ws (f_X10_showTo n α w (some (wtA w v)) (lpA w r) NI) (fun res => res.1 = shW f v r N ∧ (∀ g, shF f v r N g → WR res.2 w g) ∧ wfr w α res.2 ∧ rG res.2 w) := by
  have h4 := hC.1.2
  have hsz := hC.2.2.2.2.1 r (by omega)
  have hwt := hC.2.2.2.2.2.1 v hv
  have hm : 0 < (f 1).toInt := by have := hC.2.1; omega
  unfold f_X10_showTo
  refine ws_hS (ws_hc (k_headOf n hn w α (f 1) hm h.2.1.1 (lpA w r) (EL f r) (WR_LM h hC hr) N (by rw [EL_len]; omega) NI hNI) (fun H β hH => ?_))
  have g1 : gf w α β := gf_j h.1 hH.2
  have hWβ := WR_gf h hC g1
  have hGβ : rG β w := by unfold rG; rw [hH.2.2.2.2.2.1]; exact hG
  obtain ⟨d1, d2, d3, d4⟩ := hWβ.2.2.2.2.1 v hv
  have hH1 : H = TMK (f 1) (EL f r) 0 N := hH.1
  unfold f_X10_showTos_J27
  refine ws_l (ws_lt (fun e => ?_) (fun e => ?_))
  · rw [d1, hNI] at e
    refine ws_i (fun _ => ws_l (ws_l ?_)) (fun h => absurd rfl h)
    rw [d1, d2]
    refine ws_hc (k_whyGrown n hn β w f hWβ hC hGβ r hr N (f (76 + 4 * v)).toInt.toNat NI (f (76 + 4 * v)) H (f (77 + 4 * v)) hNI (by omega) (by omega)) (fun y γ hy => ?_)
    refine k_sh69 n α w f h hC hA v r N hv γ (gf_tr g1 hy.2.1) hy.2.2 NI H 0 y hNI hH1 (by rw [if_neg (by omega)]) ?_
    have hy1 : y = _ := hy.1
    rw [hy1]
    unfold shW
    rw [if_neg (show ¬ (f (76 + 4 * v)).toInt ≤ (N : Int) by omega), hH1, Int.toNat_of_nonneg hwt.1]
  · rw [d1, hNI] at e
    refine ws_i (fun h => absurd h (by decide)) (fun _ => ws_l (ws_l ?_))
    rw [d1, d2]
    refine ws_hc (k_whyGrown n hn β w f hWβ hC hGβ r hr (f (76 + 4 * v)).toInt.toNat N (f (76 + 4 * v)) NI (f (77 + 4 * v)) H (by omega) hNI (by omega)) (fun y γ hy => ?_)
    refine k_sh69 n α w f h hC hA v r N hv γ (gf_tr g1 hy.2.1) hy.2.2 NI H 1 y hNI hH1 (by rw [if_pos e]) ?_
    have hy1 : y = _ := hy.1
    rw [hy1]
    unfold shW
    rw [if_pos hN, if_pos e, hH1]
/-! ===== meet, side by side ===== -/
def meW (f : Nat → Int32) (a b r : Nat) : Int32 := if (f (76 + 4 * b)).toInt ≤ (f (72 + r)).toInt then WBR (f 1) (EL f r) (f (76 + 4 * a)).toInt.toNat (f (77 + 4 * a)) (f (76 + 4 * b)).toInt.toNat (f (77 + 4 * b)) else 5
theorem meW_rng (f : Nat → Int32) (a b r : Nat) : 0 ≤ (meW f a b r).toInt ∧ (meW f a b r).toInt ≤ 5 := by
  unfold meW WBR
  split
  · have := WHY_rng (f 1) (fun k => (mkl (f 1) (EL f r) (wyH (f (76 + 4 * a)).toInt.toNat (f (76 + 4 * b)).toInt.toNat).reverse).getD k 0) (wyH (f (76 + 4 * a)).toInt.toNat (f (76 + 4 * b)).toInt.toNat).length (f (76 + 4 * a)).toInt.toNat (f (77 + 4 * a)) (f (76 + 4 * b)).toInt.toNat (f (77 + 4 * b))
    omega
  · decide
def meF (f : Nat → Int32) (a b r : Nat) (g : Nat → Int32) : Prop := g (76 + 4 * a) = (if meW f a b r = 0 then f (76 + 4 * b) else f (76 + 4 * a)) ∧ g (77 + 4 * a) = (if meW f a b r = 0 then f (77 + 4 * b) else f (77 + 4 * a)) ∧ g (78 + 4 * a) = (if meW f a b r = 0 ∨ meW f a b r = 5 then f (78 + 4 * a) else 1) ∧ g (78 + 4 * b) = (if meW f a b r = 0 ∨ meW f a b r = 5 then f (78 + 4 * b) else 1) ∧ g 4 = f 4 + 1 ∧ ∀ j, j ≠ 76 + 4 * a → j ≠ 77 + 4 * a → j ≠ 78 + 4 * a → j ≠ 78 + 4 * b → j ≠ 4 → g j = f j
theorem v_m196 (n : Nat) (σ : ms_T) (y : Int32) : pr (f_X12_meet_J196 n σ y) (fun res => res.1 = y ∧ ms_E res.2 40 4 = ms_E σ 40 4 + 1 ∧ (∀ j, j ≠ 4 → ms_E res.2 40 j = ms_E σ 40 j) ∧ fr [] [40] σ res.2) := by
  unfold f_X12_meet_J196
  rw [c4]
  refine pr_g (fun _ _ => pr_g (fun _ _ => pr_l (pr_s ⟨rfl, ?_, fun j hj => ?_, fr_sE (by decide)⟩)))
  · rw [mE_sE, if_pos ⟨rfl, rfl⟩]
  · rw [mE_sE, if_neg (by omega)]
theorem v_m155 (n : Nat) (σ : ms_T) (a b : Nat) (ha : a < 4) (hb : b < 4) (aI bI : Int32) (haI : aI.toInt = (a : Int)) (hbI : bI.toInt = (b : Int)) (y : Int32) (hy : 0 ≤ y.toInt ∧ y.toInt ≤ 5) : pr (f_X12_meet_J155 n σ aI bI y) (fun res => res.1 = y ∧ ms_E res.2 40 (78 + 4 * a) = (if y = 0 ∨ y = 5 then ms_E σ 40 (78 + 4 * a) else 1) ∧ ms_E res.2 40 (78 + 4 * b) = (if y = 0 ∨ y = 5 then ms_E σ 40 (78 + 4 * b) else 1) ∧ ms_E res.2 40 4 = ms_E σ 40 4 + 1 ∧ (∀ j, j ≠ 78 + 4 * a → j ≠ 78 + 4 * b → j ≠ 4 → ms_E res.2 40 j = ms_E σ 40 j) ∧ fr [] [40] σ res.2) := by
  have L5 : (5 : Int32).toInt = 5 := by decide
  have ea := wtI2 a ha aI haI 2 (by decide) 2 rfl
  have eb := wtI2 b hb bI hbI 2 (by decide) 2 rfl
  rw [show 76 + 4 * a + 2 = 78 + 4 * a by omega] at ea
  rw [show 76 + 4 * b + 2 = 78 + 4 * b by omega] at eb
  unfold f_X12_meet_J155
  have hold : (y = 0 ∨ y = 5) → pr (f_X12_meet_J196 n σ y) (fun res => res.1 = y ∧ ms_E res.2 40 (78 + 4 * a) = (if y = 0 ∨ y = 5 then ms_E σ 40 (78 + 4 * a) else 1) ∧ ms_E res.2 40 (78 + 4 * b) = (if y = 0 ∨ y = 5 then ms_E σ 40 (78 + 4 * b) else 1) ∧ ms_E res.2 40 4 = ms_E σ 40 4 + 1 ∧ (∀ j, j ≠ 78 + 4 * a → j ≠ 78 + 4 * b → j ≠ 4 → ms_E res.2 40 j = ms_E σ 40 j) ∧ fr [] [40] σ res.2) := by
    intro h0
    rw [if_pos h0, if_pos h0]
    exact pr_m (v_m196 n σ y) (fun res h => ⟨h.1, h.2.2.1 _ (by omega), h.2.2.1 _ (by omega), h.2.1, fun j _ _ j3 => h.2.2.1 j j3, h.2.2.2⟩)
  refine pr_le (fun e => ?_) (fun e => pr_le (fun e1 => ?_) (fun e1 => ?_))
  · rw [lt0] at e
    exact hold (Or.inl (Int32.toInt_inj.mp (by rw [lt0]; omega)))
  · exact hold (Or.inr (Int32.toInt_inj.mp (by rw [L5]; omega)))
  · rw [lt0] at e
    have hno : ¬ (y = 0 ∨ y = 5) := fun h => by rcases h with h | h <;> rw [h] at e e1 <;> first | exact absurd e (by decide) | exact absurd e1 (by decide)
    rw [if_neg hno, if_neg hno, cl_n ea, cl_n eb]
    refine pr_g (fun _ _ => pr_l (pr_g (fun _ _ => pr_ln (fun τ hτ => ?_))))
    have q : ∀ j, j ≠ 78 + 4 * a → j ≠ 78 + 4 * b → ms_E τ 40 j = ms_E σ 40 j := fun j hj hj2 => by rw [hτ, mE_sE, if_neg (by omega), mE_sE, if_neg (by omega)]
    refine pr_m (v_m196 n τ y) (fun res h => ⟨h.1, ?_, ?_, ?_, fun j j1 j2 j3 => ?_, ?_⟩)
    · rw [h.2.2.1 _ (by omega), hτ, mE_sE]
      by_cases hab : a = b
      · rw [if_pos ⟨rfl, by rw [hab]⟩]
      · rw [if_neg (by omega), mE_sE, if_pos ⟨rfl, rfl⟩]
    · rw [h.2.2.1 _ (by omega), hτ, mE_sE, if_pos ⟨rfl, rfl⟩]
    · rw [h.2.1, q _ (by omega) (by omega)]
    · rw [h.2.2.1 j j3, q j j1 j2]
    · exact fr_tr (by rw [hτ]; exact fr_tr (fr_sE (by decide)) (fr_sE (by decide))) h.2.2.2
theorem v_m133 (n : Nat) (σ τ : ms_T) (e40 : ms_E τ 40 = ms_E σ 40) (hf : fr [657, 658, 659, 660] [42, 43, 44] σ τ) (a b r : Nat) (ha : a < 4) (hb : b < 4) (aI bI : Int32) (haI : aI.toInt = (a : Int)) (hbI : bI.toInt = (b : Int)) (s y : Int32) (hs : s = ms_E σ 40 (76 + 4 * b)) (hy : y = meW (ms_E σ 40) a b r) : pr (f_X12_meet_J133 n τ aI bI s y) (fun res => res.1 = meW (ms_E σ 40) a b r ∧ meF (ms_E σ 40) a b r (ms_E res.2 40) ∧ fr [657, 658, 659, 660] [40, 42, 43, 44] σ res.2) := by
  have hy5 : 0 ≤ y.toInt ∧ y.toInt ≤ 5 := by rw [hy]; exact meW_rng _ _ _ _
  have hf' : fr [657, 658, 659, 660] [40, 42, 43, 44] σ τ := fr_sb hf (by decide) (by decide)
  unfold f_X12_meet_J133 meF
  rw [← hy]
  refine pr_i (fun e => ?_) (fun e => ?_)
  · refine pr_b (v_trust n τ b hb bI hbI 1 (by decide) 1 rfl) (fun h1 hh1 => pr_b (v_trusts n τ a ha aI haI s h1) (fun υ hυ => ?_))
    rw [show 76 + 4 * b + 1 = 77 + 4 * b by omega, e40] at hh1
    rw [e40] at hυ
    obtain ⟨u1, u2, u3, u4⟩ := hυ
    refine pr_m (v_m155 n υ a b ha hb aI bI haI hbI y hy5) (fun res h => ?_)
    obtain ⟨h1, h2, h3, h4, h5, h6⟩ := h
    refine ⟨h1, ⟨?_, ?_, ?_, ?_, ?_, fun j j1 j2 j3 j4 j5 => ?_⟩, fr_tr hf' (fr_tr (fr_sb u4 (by decide) (by decide)) (fr_sb h6 (by decide) (by decide)))⟩
    · rw [if_pos e, h5 _ (by omega) (by omega) (by omega), u1, hs]
    · rw [if_pos e, h5 _ (by omega) (by omega) (by omega), u2, hh1]
    · rw [h2, u3 _ (by omega) (by omega)]
    · rw [h3, u3 _ (by omega) (by omega)]
    · rw [h4, u3 _ (by omega) (by omega)]
    · rw [h5 j j3 j4 j5, u3 j j1 j2]
  · refine pr_m (v_m155 n τ a b ha hb aI bI haI hbI y hy5) (fun res h => ?_)
    rw [e40] at h
    obtain ⟨h1, h2, h3, h4, h5, h6⟩ := h
    refine ⟨h1, ⟨?_, ?_, h2, h3, h4, fun j j1 j2 j3 j4 j5 => h5 j j3 j4 j5⟩, fr_tr hf' (fr_sb h6 (by decide) (by decide))⟩
    · rw [if_neg e]; exact h5 _ (by omega) (by omega) (by omega)
    · rw [if_neg e]; exact h5 _ (by omega) (by omega) (by omega)
theorem v_m80 (n : Nat) (σ : ms_T) (hC : rC (ms_E σ 40)) (a b r : Nat) (ha : a < 4) (hb : b < 4) (hr : r < 4) (aI bI rI : Int32) (haI : aI.toInt = (a : Int)) (hbI : bI.toInt = (b : Int)) (hrI : rI.toInt = (r : Int)) (hab : (ms_E σ 40 (76 + 4 * a)).toInt ≤ (ms_E σ 40 (76 + 4 * b)).toInt) : pr (f_X12_meet_J80 n σ rI aI bI) (fun res => res.1 = meW (ms_E σ 40) a b r ∧ meF (ms_E σ 40) a b r (ms_E res.2 40) ∧ fr [657, 658, 659, 660] [40, 42, 43, 44] σ res.2) := by
  have hsz := hC.2.2.2.2.1 r hr
  have hwa := hC.2.2.2.2.2.1 a ha
  have hwb := hC.2.2.2.2.2.1 b hb
  unfold f_X12_meet_J80
  refine pr_b (v_trust n σ b hb bI hbI 0 (by decide) 0 rfl) (fun s hs => pr_b (v_sizeOf n σ r hr rI hrI) (fun z hz => ?_))
  rw [Nat.add_zero] at hs
  refine pr_le (fun e => ?_) (fun e => ?_)
  · refine pr_b (v_trust n σ a ha aI haI 0 (by decide) 0 rfl) (fun t ht => pr_b (v_trust n σ a ha aI haI 1 (by decide) 1 rfl) (fun x hx => pr_b (v_trust n σ b hb bI hbI 1 (by decide) 1 rfl) (fun u hu => ?_)))
    rw [Nat.add_zero] at ht
    rw [show 76 + 4 * a + 1 = 77 + 4 * a by omega] at hx
    rw [show 76 + 4 * b + 1 = 77 + 4 * b by omega] at hu
    rw [hs, hz] at e
    refine pr_c (v_whyByRecord n σ hC r hr rI hrI (ms_E σ 40 (76 + 4 * a)).toInt.toNat (ms_E σ 40 (76 + 4 * b)).toInt.toNat t s x u (by rw [ht]; omega) (by rw [hs]; omega) (by omega) (by rw [EL_len]; omega)) (fun y τ hy => ?_)
    have e40 : ms_E τ 40 = ms_E σ 40 := funext (hy.2.2 40 (by decide))
    refine v_m133 n σ τ e40 hy.2 a b r ha hb aI bI haI hbI s y hs ?_
    unfold meW
    rw [if_pos e, ← hx, ← hu]
    exact hy.1
  · rw [hs, hz] at e
    refine v_m133 n σ σ rfl fr_rf a b r ha hb aI bI haI hbI s 5 hs ?_
    unfold meW
    rw [if_neg (by omega)]
theorem WR_wts {α β : hp_T} {w : Nat} {f g : Nat → Int32} (h : WR α w f) (hC : rC f) (eR : hp_R β = hp_R α) (eQ : hp_Q β = hp_Q α) (eI : ∀ φ b, ¬ ((w + 455 ≤ b ∧ b < w + 459) ∧ 400 ≤ φ ∧ φ ≤ 403) → ¬ (b = w ∧ φ = 556) → ¬ (b = w + 5 ∧ φ = 301) → ¬ (b = w + 7 ∧ (φ = 453 ∨ φ = 454)) → hp_I β φ b = hp_I α φ b) (eE : ∀ κ b j, ¬ (κ = 33 ∧ b = w + 4) → ¬ (κ = 20 ∧ b = w + 6) → ¬ ((κ = 21 ∧ b = w + 8) ∨ (κ = 22 ∧ b = w + 9) ∨ (κ = 23 ∧ b = w + 10)) → hp_E β κ b j = hp_E α κ b j) (e4 : hp_I β 556 w = g 4) (hw : ∀ v, v < 4 → WTN β w g v) (hg : ∀ j, ¬ (76 ≤ j ∧ j < 92) → j ≠ 4 → g j = f j) : WR β w g := by
  obtain ⟨h1, h2, h3, hF, hW, hX⟩ := h
  have b4 := hC.1
  have b16 := hC.2.2.2.1
  have c0 : g 0 = f 0 := hg 0 (by omega) (by decide)
  have c1 : g 1 = f 1 := hg 1 (by omega) (by decide)
  have c3 : g 3 = f 3 := hg 3 (by omega) (by decide)
  have c252 : ∀ j, 252 ≤ j → g j = f j := fun j hj => hg j (by omega) (by omega)
  refine ⟨SHW_e h1 eR eQ, ⟨?_, ?_, ?_, e4⟩, fun q hq => ?_, fun q hq => ?_, fun q hq => ?_, fun q hq => ?_⟩
  · rw [eI 550 w (by omega) (by omega) (by omega) (by omega), c1]; exact h2.1
  · rw [eI 552 w (by omega) (by omega) (by omega) (by omega), c0]; exact h2.2.1
  · rw [eI 554 w (by omega) (by omega) (by omega) (by omega), c3]; exact h2.2.2.1
  · rw [c0] at hq
    have c72 : g (72 + q) = f (72 + q) := hg _ (by omega) (by omega)
    have hsq := hC.2.2.2.2.1 q (by omega)
    rw [c72]
    refine ⟨by rw [eI 152 _ (by omega) (by omega) (by omega) (by omega)]; exact (h3 q hq).1, fun e he => ?_⟩
    obtain ⟨⟨d1, d2, d3, d4⟩, d5⟩ := (h3 q hq).2 e he
    unfold EN
    rw [ltr_k c252, EM_c1 c1 c252]
    refine ⟨⟨d1, by rw [eI 501 _ (by omega) (by omega) (by omega) (by omega)]; exact d2, fun k hk => ?_, d4⟩, ?_⟩
    · rw [eR, eE 27 _ k (by omega) (by omega) (by omega)]; exact d3 k hk
    · rw [eE 29 _ e (by omega) (by omega) (by omega)]; exact d5
  · rw [c3] at hq
    obtain ⟨d1, d2, d3, d4, d5, d6⟩ := hF q hq
    have e93 : g (93 + 10 * q) = f (93 + 10 * q) := hg _ (by omega) (by omega)
    refine ⟨?_, ?_, ?_, ?_, ?_, fun k hk hP => ?_⟩
    · rw [eI 100 _ (by omega) (by omega) (by omega) (by omega), d1]; exact (hg _ (by omega) (by omega)).symm
    · rw [eI 101 _ (by omega) (by omega) (by omega) (by omega), d2, e93]
    · rw [eI 102 _ (by omega) (by omega) (by omega) (by omega), d3]; exact (hg _ (by omega) (by omega)).symm
    · rw [eI 103 _ (by omega) (by omega) (by omega) (by omega), d4]; exact (hg _ (by omega) (by omega)).symm
    · rw [eI 301 _ (by omega) (by omega) (by unfold fzA; omega) (by omega), e93]; exact d5
    · rw [e93] at hk
      rw [eE 20 _ k (by omega) (by unfold fzA; omega) (by omega), d6 k hk hP]; exact (hg _ (by omega) (by omega)).symm
  · exact hw q hq
  · rw [eI 301 _ (by omega) (by omega) (by unfold fzA; omega) (by omega)]; exact hX q hq
theorem k_hear2 (n : Nat) (γ : hp_T) (wt : Nat) (y : Int32) (h : hp_I γ 403 wt = 0 ∨ hp_I γ 403 wt = 1) : ws (f_X7_hearWhy n γ wt y) (fun δ => δ = hp_sI γ 403 wt (if y = 0 ∨ y = 5 then hp_I γ 403 wt else 1)) := by
  unfold f_X7_hearWhy f_X7_hearWhy_J21 f_X7_hearWhy_J17
  refine ws_l (ws_i (fun e => ws_i (fun e1 => ws_l (ws_s ?_)) (fun e1 => ws_i (fun e2 => ws_l (ws_s ?_)) (fun e2 => ws_l (ws_s ?_)))) (fun e => ws_l (ws_s ?_)))
  · rw [if_pos (Or.inl e1), e]
  · rw [if_pos (Or.inr e2), e]
  · rw [if_neg (fun h => h.elim e1 e2)]
  · have h1 : hp_I γ 403 wt = 1 := h.resolve_left e
    rw [h1]
    split <;> rfl
theorem k_mZ (n : Nat) (α : hp_T) (w : Nat) (f : Nat → Int32) (h : WR α w f) (hC : rC f) (hA : AL01 f) (a b r : Nat) (ha : a < 4) (hb : b < 4) (γ : hp_T) (eR : hp_R γ = hp_R α) (eK : hp_K γ = hp_K α) (eQ : hp_Q γ = hp_Q α) (eN : hp_N γ = hp_N α) (eI : ∀ φ x, ¬ (x = wtA w a ∧ (φ = 400 ∨ φ = 401)) → ¬ (x = w + 5 ∧ φ = 301) → ¬ (x = w + 7 ∧ (φ = 453 ∨ φ = 454)) → hp_I γ φ x = hp_I α φ x) (eE : ∀ κ x j, ¬ (κ = 33 ∧ x = w + 4) → ¬ (κ = 20 ∧ x = w + 6) → ¬ ((κ = 21 ∧ x = w + 8) ∨ (κ = 22 ∧ x = w + 9) ∨ (κ = 23 ∧ x = w + 10)) → hp_E γ κ x j = hp_E α κ x j) (hG : rG γ w) (hx : ∀ g, meF f a b r g → hp_I γ 400 (wtA w a) = g (76 + 4 * a) ∧ hp_I γ 401 (wtA w a) = g (77 + 4 * a)) : ws (f_X10_meetBy_J89 n w γ (wtA w a) (wtA w b) (meW f a b r)) (fun res => res.1 = meW f a b r ∧ (∀ g, meF f a b r g → WR res.2 w g) ∧ wfr w α res.2 ∧ rG res.2 w) := by
  have hW := h.2.2.2.2.1
  have i403 : ∀ v, v < 4 → hp_I γ 403 (wtA w v) = f (78 + 4 * v) := fun v hv => by rw [eI 403 _ (by omega) (by omega) (by omega)]; exact (hW v hv).2.2.1
  obtain ⟨y, hy⟩ : ∃ y, y = meW f a b r := ⟨_, rfl⟩
  rw [← hy]
  unfold f_X10_meetBy_J89
  refine ws_b (k_hear2 n γ (wtA w a) y (by rw [i403 a ha]; exact hA.1 a ha)) (fun δ hδ => ?_)
  have d403 : ∀ v, v < 4 → hp_I δ 403 (wtA w v) = if v = a then (if y = 0 ∨ y = 5 then f (78 + 4 * a) else 1) else f (78 + 4 * v) := by
    intro v hv
    rw [hδ, hI_sI]
    by_cases hva : v = a
    · subst hva; rw [if_pos ⟨rfl, rfl⟩, if_pos rfl, i403 v hv]
    · rw [if_neg (fun q => hva (by have := q.2; unfold wtA at this; omega)), if_neg hva, i403 v hv]
  have hb01 : hp_I δ 403 (wtA w b) = 0 ∨ hp_I δ 403 (wtA w b) = 1 := by
    rw [d403 b hb]
    by_cases hba : b = a
    · rw [if_pos hba]
      split
      · exact hA.1 a ha
      · exact Or.inr rfl
    · rw [if_neg hba]; exact hA.1 b hb
  refine ws_b (k_hear2 n δ (wtA w b) y hb01) (fun ε hε => ws_l (ws_l (ws_s ?_)))
  have r5 : ∀ φ x, ¬ ((w + 455 ≤ x ∧ x < w + 459) ∧ φ = 403) → hp_I ε φ x = hp_I γ φ x := fun φ x q => by rw [hε, hI_sI, if_neg (fun e => q ⟨by rw [e.2]; unfold wtA; omega, e.1⟩), hδ, hI_sI, if_neg (fun e => q ⟨by rw [e.2]; unfold wtA; omega, e.1⟩)]
  have rs : hp_R ε = hp_R γ ∧ hp_K ε = hp_K γ ∧ hp_Q ε = hp_Q γ ∧ hp_N ε = hp_N γ ∧ hp_E ε = hp_E γ := by rw [hε, hδ]; exact ⟨rfl, rfl, rfl, rfl, rfl⟩
  have fI : ∀ φ x, ¬ ((w + 455 ≤ x ∧ x < w + 459) ∧ 400 ≤ φ ∧ φ ≤ 403) → ¬ (x = w ∧ φ = 556) → ¬ (x = w + 5 ∧ φ = 301) → ¬ (x = w + 7 ∧ (φ = 453 ∨ φ = 454)) → hp_I (hp_sI ε 556 w (hp_I ε 556 w + 1)) φ x = hp_I α φ x := fun φ x q1 q2 q3 q4 => by rw [hI_sI, if_neg (fun e => q2 ⟨e.2, e.1⟩), r5 φ x (by omega)]; exact eI φ x (fun q => q1 ⟨by rw [q.1]; unfold wtA; omega, by omega⟩) q3 q4
  have fE : ∀ κ x j, ¬ (κ = 33 ∧ x = w + 4) → ¬ (κ = 20 ∧ x = w + 6) → ¬ ((κ = 21 ∧ x = w + 8) ∨ (κ = 22 ∧ x = w + 9) ∨ (κ = 23 ∧ x = w + 10)) → hp_E (hp_sI ε 556 w (hp_I ε 556 w + 1)) κ x j = hp_E α κ x j := fun κ x j q1 q2 q3 => by show hp_E ε κ x j = _; rw [rs.2.2.2.2]; exact eE κ x j q1 q2 q3
  refine ⟨rfl, fun g hg => ?_, ⟨rs.1.trans eR, rs.2.1.trans eK, rs.2.2.1.trans eQ, rs.2.2.2.1.trans eN, fun φ x q => fI φ x (by omega) (by omega) (by omega) (by omega), fun κ x j q => fE κ x j (by omega) (by omega) (by omega)⟩, ?_⟩
  · obtain ⟨x0, x1⟩ := hx g hg
    obtain ⟨-, -, g3, g4, g5, g6⟩ := hg
    rw [← hy] at g3 g4
    refine WR_wts h hC (rs.1.trans eR) (rs.2.2.1.trans eQ) fI fE ?_ (fun v hv => ?_) (fun j j1 j2 => g6 j (by omega) (by omega) (by omega) (by omega) j2)
    · rw [hI_sI, if_pos ⟨rfl, rfl⟩, r5 556 w (by omega), eI 556 w (by omega) (by omega) (by omega), h.2.1.2.2.2, g5]
    · obtain ⟨d1, d2, d3, d4⟩ := hW v hv
      have hs : ∀ φ, 400 ≤ φ → φ ≤ 402 → hp_I (hp_sI ε 556 w (hp_I ε 556 w + 1)) φ (wtA w v) = hp_I γ φ (wtA w v) := fun φ _ _ => by rw [hI_sI, if_neg (by omega), r5 φ _ (by omega)]
      have h403 : hp_I (hp_sI ε 556 w (hp_I ε 556 w + 1)) 403 (wtA w v) = g (78 + 4 * v) := by
        rw [hI_sI, if_neg (by omega), hε, hI_sI]
        by_cases hvb : v = b
        · subst hvb
          rw [if_pos ⟨rfl, rfl⟩, g4, d403 v hv]
          by_cases hva : v = a
          · subst hva; rw [if_pos rfl]; split <;> rfl
          · rw [if_neg hva]
        · rw [if_neg (fun q => hvb (by have := q.2; unfold wtA at this; omega)), d403 v hv]
          by_cases hva : v = a
          · subst hva; rw [if_pos rfl, g3]
          · rw [if_neg hva]; exact (g6 _ (by omega) (by omega) (by omega) (by omega) (by omega)).symm
      refine ⟨?_, ?_, h403, ?_⟩
      · rw [hs 400 (by decide) (by decide)]
        by_cases hva : v = a
        · subst hva; exact x0
        · rw [eI 400 _ (fun q => hva (by have := q.1; unfold wtA at this; omega)) (by omega) (by omega), d1]; exact (g6 _ (by omega) (by omega) (by omega) (by omega) (by omega)).symm
      · rw [hs 401 (by decide) (by decide)]
        by_cases hva : v = a
        · subst hva; exact x1
        · rw [eI 401 _ (fun q => hva (by have := q.1; unfold wtA at this; omega)) (by omega) (by omega), d2]; exact (g6 _ (by omega) (by omega) (by omega) (by omega) (by omega)).symm
      · rw [hs 402 (by decide) (by decide), eI 402 _ (by omega) (by omega) (by omega), d4]; exact (g6 _ (by omega) (by omega) (by omega) (by omega) (by omega)).symm
  · unfold rG
    rw [hI_sI, if_neg (by omega), r5 301 _ (by omega)]
    exact hG
theorem k_m40 (n : Nat) (hn : 70000 ≤ n) (α : hp_T) (w : Nat) (f : Nat → Int32) (h : WR α w f) (hC : rC f) (hA : AL01 f) (hG : rG α w) (a b r : Nat) (ha : a < 4) (hb : b < 4) (hr : r < (f 0).toInt.toNat) (hab : (f (76 + 4 * a)).toInt ≤ (f (76 + 4 * b)).toInt) : ws (f_X10_meetBy_J40 n w α (lpA w r) (wtA w a) (wtA w b)) (fun res => res.1 = meW f a b r ∧ (∀ g, meF f a b r g → WR res.2 w g) ∧ wfr w α res.2 ∧ rG res.2 w) := by
  have hwa := hC.2.2.2.2.2.1 a ha
  have hwb := hC.2.2.2.2.2.1 b hb
  obtain ⟨a1, a2, a3, a4⟩ := h.2.2.2.2.1 a ha
  obtain ⟨b1, b2, b3, b4⟩ := h.2.2.2.2.1 b hb
  unfold f_X10_meetBy_J40
  refine ws_l (ws_l (ws_l (ws_l ?_)))
  rw [a1, a2, b1, b2]
  refine ws_hc (k_whyGrown n hn α w f h hC hG r hr (f (76 + 4 * a)).toInt.toNat (f (76 + 4 * b)).toInt.toNat (f (76 + 4 * a)) (f (76 + 4 * b)) (f (77 + 4 * a)) (f (77 + 4 * b)) (by omega) (by omega) (by omega)) (fun y γ hy => ?_)
  obtain ⟨hy1, ⟨p1, p2, p3, p4, p5, p6⟩, hGγ⟩ := hy
  rw [Int.toNat_of_nonneg hwb.1] at hy1
  have hy2 : y = meW f a b r := hy1
  subst hy2
  have g400 : ∀ v, v < 4 → hp_I γ 400 (wtA w v) = f (76 + 4 * v) := fun v hv => by rw [p5 400 _ (by omega) (by omega)]; exact (h.2.2.2.2.1 v hv).1
  have g401 : ∀ v, v < 4 → hp_I γ 401 (wtA w v) = f (77 + 4 * v) := fun v hv => by rw [p5 401 _ (by omega) (by omega)]; exact (h.2.2.2.2.1 v hv).2.1
  refine ws_i (fun e => ws_l (ws_l ?_)) (fun e => ?_)
  · rw [g400 b hb, g401 b hb]
    refine ws_b (S := fun δ => δ = hp_sI (hp_sI γ 400 (wtA w a) (f (76 + 4 * b))) 401 (wtA w a) (f (77 + 4 * b))) ?_ (fun δ hδ => ?_)
    · unfold f_X7_trust
      exact ws_l (ws_l (ws_s rfl))
    · have j5 : ∀ φ x, ¬ (x = wtA w a ∧ (φ = 400 ∨ φ = 401)) → hp_I δ φ x = hp_I γ φ x := fun φ x q => by rw [hδ, hI_sI, if_neg (by omega), hI_sI, if_neg (by omega)]
      have hs : hp_R δ = hp_R γ ∧ hp_K δ = hp_K γ ∧ hp_Q δ = hp_Q γ ∧ hp_N δ = hp_N γ ∧ hp_E δ = hp_E γ := by rw [hδ]; exact ⟨rfl, rfl, rfl, rfl, rfl⟩
      refine k_mZ n α w f h hC hA a b r ha hb δ (hs.1.trans p1) (hs.2.1.trans p2) (hs.2.2.1.trans p3) (hs.2.2.2.1.trans p4) (fun φ x q1 q2 q3 => by rw [j5 φ x q1]; exact p5 φ x q2 q3) (fun κ x j q1 q2 q3 => by rw [hs.2.2.2.2]; exact p6 κ x j q1 q2 q3) (by unfold rG; rw [j5 301 _ (by omega)]; exact hGγ) (fun g hg => ?_)
      obtain ⟨q1, q2, -⟩ := hg
      rw [if_pos e] at q1 q2
      refine ⟨?_, ?_⟩
      · rw [hδ, hI_sI, if_neg (by omega), hI_sI, if_pos ⟨rfl, rfl⟩, q1]
      · rw [hδ, hI_sI, if_pos ⟨rfl, rfl⟩, q2]
  · refine k_mZ n α w f h hC hA a b r ha hb γ p1 p2 p3 p4 (fun φ x _ q2 q3 => p5 φ x q2 q3) p6 hGγ (fun g hg => ?_)
    obtain ⟨q1, q2, -⟩ := hg
    rw [if_neg e] at q1 q2
    exact ⟨by rw [g400 a ha, q1], by rw [g401 a ha, q2]⟩
end JN9_12
section JN9_13
set_option maxRecDepth 100000
/-! ===== the watchers in their order; spoil ===== -/
theorem k_meetBy (n : Nat) (hn : 70000 ≤ n) (α : hp_T) (w : Nat) (f : Nat → Int32) (h : WR α w f) (hC : rC f) (hA : AL01 f) (hG : rG α w) (p q r : Nat) (hp : p < 4) (hq : q < 4) (hr : r < (f 0).toInt.toNat) : ws (f_X10_meetBy n α w (wtA w p) (wtA w q) (lpA w r)) (fun res => ((f (76 + 4 * q)).toInt < (f (76 + 4 * p)).toInt → res.1 = meW f q p r ∧ (∀ g, meF f q p r g → WR res.2 w g)) ∧ ((f (76 + 4 * p)).toInt ≤ (f (76 + 4 * q)).toInt → res.1 = meW f p q r ∧ (∀ g, meF f p q r g → WR res.2 w g)) ∧ wfr w α res.2 ∧ rG res.2 w) := by
  have e1 := (h.2.2.2.2.1 p hp).1
  have e2 := (h.2.2.2.2.1 q hq).1
  unfold f_X10_meetBy f_X10_meetBy_J16 f_X10_meetBy_J28
  refine ws_l (ws_l (ws_lt (fun e => ?_) (fun e => ?_)))
  · rw [e1, e2] at e
    refine ws_i (fun _ => ws_i (fun _ => ?_) (fun h => absurd rfl h)) (fun h => absurd rfl h)
    exact ws_m (k_m40 n hn α w f h hC hA hG q p r hq hp hr (by omega)) (fun res hr => ⟨fun _ => ⟨hr.1, hr.2.1⟩, fun h => by omega, hr.2.2⟩)
  · rw [e1, e2] at e
    refine ws_i (fun h => absurd h (by decide)) (fun _ => ws_i (fun h => absurd h (by decide)) (fun _ => ?_))
    exact ws_m (k_m40 n hn α w f h hC hA hG p q r hp hq hr (by omega)) (fun res hr => ⟨fun h => by omega, fun _ => ⟨hr.1, hr.2.1⟩, hr.2.2⟩)
theorem v_m56 (n : Nat) (σ : ms_T) (hC : rC (ms_E σ 40)) (p q r : Nat) (hp : p < 4) (hq : q < 4) (hr : r < 4) (pI qI rI o : Int32) (hpI : pI.toInt = (p : Int)) (hqI : qI.toInt = (q : Int)) (hrI : rI.toInt = (r : Int)) (ho : o = if (ms_E σ 40 (76 + 4 * q)).toInt < (ms_E σ 40 (76 + 4 * p)).toInt then 0 else 1) : pr (f_X12_meet_J56 n σ pI qI rI o) (fun res => ((ms_E σ 40 (76 + 4 * q)).toInt < (ms_E σ 40 (76 + 4 * p)).toInt → res.1 = meW (ms_E σ 40) q p r ∧ meF (ms_E σ 40) q p r (ms_E res.2 40)) ∧ ((ms_E σ 40 (76 + 4 * p)).toInt ≤ (ms_E σ 40 (76 + 4 * q)).toInt → res.1 = meW (ms_E σ 40) p q r ∧ meF (ms_E σ 40) p q r (ms_E res.2 40)) ∧ fr [657, 658, 659, 660] [40, 42, 43, 44] σ res.2) := by
  unfold f_X12_meet_J56 f_X12_meet_J68
  by_cases hc : (ms_E σ 40 (76 + 4 * q)).toInt < (ms_E σ 40 (76 + 4 * p)).toInt
  · rw [if_pos hc] at ho
    subst ho
    refine pr_i (fun _ => pr_i (fun _ => ?_) (fun h => absurd rfl h)) (fun h => absurd rfl h)
    exact pr_m (v_m80 n σ hC q p r hq hp hr qI pI rI hqI hpI hrI (by omega)) (fun res hr => ⟨fun _ => ⟨hr.1, hr.2.1⟩, fun h => by omega, hr.2.2⟩)
  · rw [if_neg hc] at ho
    subst ho
    refine pr_i (fun h => absurd h (by decide)) (fun _ => pr_i (fun h => absurd h (by decide)) (fun _ => ?_))
    exact pr_m (v_m80 n σ hC p q r hp hq hr pI qI rI hpI hqI hrI (by omega)) (fun res hr => ⟨fun h => by omega, fun _ => ⟨hr.1, hr.2.1⟩, hr.2.2⟩)
theorem k_wchange (n : Nat) {α : hp_T} {a : Nat} {l : List Int32} (h : WD α a l) (k : Nat) (hk : k < l.length) (kI v : Int32) (hkI : kI.toInt = (k : Int)) (hv0 : 0 ≤ v.toInt) (hv1 : v.toInt ≤ 127) : ws (f_X9_change n α a kI v) (fun β => WD β a (l.set k v) ∧ df a α β) := by
  have L8 := t_8
  obtain ⟨h1, h2, h3, h4⟩ := h
  unfold f_X9_change
  refine ws_lt (fun e => by rw [lt0] at e; omega) (fun _ => ws_l (ws_le (fun e => by omega) (fun _ => ws_l (ws_le (fun e => by omega) (fun _ => ws_l (ws_g (by omega) (by omega) (ws_l (ws_s ⟨⟨?_, ?_, fun j hj => ?_, fun x hx => ?_⟩, df_sE⟩))))))))
  · rw [List.length_set]; exact h1
  · rw [hI_sE, List.length_set]; exact h2
  · rw [List.length_set] at hj
    rw [hR_sE, hE_sE, cl_n hkI, byte_id hv0 hv1, byte_id hv0 hv1, List.getElem?_set]
    by_cases hjk : j = k
    · rw [if_pos ⟨rfl, rfl, hjk⟩, if_pos hjk.symm, if_pos hk]
    · rw [if_neg (fun q => hjk q.2.2), if_neg (fun q => hjk q.symm)]; exact h3 j hj
  · rcases List.mem_or_eq_of_mem_set hx with hx | hx
    · exact h4 x hx
    · rw [hx]; exact ⟨hv0, hv1⟩
def spF (f : Nat → Int32) (r i k : Nat) (v : Int32) (g : Nat → Int32) : Prop := g (444 + 8 * (48 * r + i) + k) = v ∧ g 4 = f 4 + 1 ∧ ∀ j, j ≠ 444 + 8 * (48 * r + i) + k → j ≠ 4 → g j = f j
theorem ltr_set {f g : Nat → Int32} {r i k : Nat} {v : Int32} (h : spF f r i k v g) : ltr g r i = (ltr f r i).set k v := by
  refine List.ext_getElem? (fun j => ?_)
  have e252 : g (252 + (48 * r + i)) = f (252 + (48 * r + i)) := h.2.2 _ (by omega) (by omega)
  rw [List.getElem?_set]
  by_cases hj : j < (f (252 + (48 * r + i))).toInt.toNat
  · rw [ltr_get g r i j (by rw [e252]; exact hj)]
    by_cases hjk : k = j
    · subst hjk
      rw [if_pos rfl, if_pos (by rw [ltr_len]; exact hj), h.1]
    · rw [if_neg hjk, ltr_get f r i j hj, h.2.2 _ (by omega) (by omega)]
  · have n1 : (ltr g r i)[j]? = none := List.getElem?_eq_none (by rw [ltr_len, e252]; omega)
    have n2 : (ltr f r i)[j]? = none := List.getElem?_eq_none (by rw [ltr_len]; omega)
    rw [n1, n2]
    by_cases hjk : k = j
    · rw [if_pos hjk, if_neg (by rw [ltr_len, hjk]; omega)]
    · rw [if_neg hjk]
theorem k_spoilLetter (n : Nat) (hn : 70000 ≤ n) (α : hp_T) (w : Nat) (f : Nat → Int32) (h : WR α w f) (hC : rC f) (r i k : Nat) (hr : r < (f 0).toInt.toNat) (hi : (i : Int) < (f (72 + r)).toInt) (hk : (k : Int) < (f (252 + (48 * r + i))).toInt) (iI kI v : Int32) (hiI : iI.toInt = (i : Int)) (hkI : kI.toInt = (k : Int)) (hv0 : 0 ≤ v.toInt) (hv1 : v.toInt ≤ 127) : ws (f_X10_spoilLetter n α w (lpA w r) iI kI v) (fun β => (∀ g, spF f r i k v g → WR β w g) ∧ wfr w α β ∧ hp_I β 301 (w + 5) = hp_I α 301 (w + 5)) := by
  have L48 := t_48
  have b4 := hC.1
  have b16 := hC.2.2.2.1
  have hs := hC.2.2.2.2.1 r (by omega)
  have hm : 0 < (f 1).toInt := by have := hC.2.1; omega
  obtain ⟨g1, g2, g3⟩ := h.1.2.2.2.2.2.2.2.2.2.2.2.1 r (by omega)
  obtain ⟨g4, g5⟩ := g3 i (by omega)
  have q152 := (h.2.2.1 r hr).1
  obtain ⟨c1, c2⟩ := (h.2.2.1 r hr).2 i (by omega)
  unfold f_X10_spoilLetter f_X2_changeLetter
  refine ws_l (ws_b (S := fun β => ∃ γ m1, (WD γ (wdA w r i) ((ltr f r i).set k v) ∧ df (wdA w r i) α γ) ∧ m1 = eml (f 1) (fun j => ((ltr f r i).set k v).getD j 0) ((ltr f r i).set k v).length ∧ β = hp_sE γ 29 (lpA w r + 2) i m1) ?_ (fun β hβ => ?_))
  · refine ws_b (k_wordAt n h.1 (by omega) (s := (f (72 + r)).toInt.toNat) (by rw [q152]; omega) (by omega) i (by omega) iI hiI) (fun o ho => ?_)
    subst ho
    refine ws_hS (ws_l (ws_le (fun e => by omega) (fun _ => ws_b (k_wchange n c1 k (by rw [ltr_len]; omega) kI v hkI hv0 hv1) (fun γ hγ => ws_l ?_))))
    rw [h.2.1.1]
    refine ws_b (k_markBy n hn hγ.1 (f 1) hm) (fun m1 hm1 => ws_g (by omega) (by omega) (ws_l (ws_s ⟨γ, m1, hγ, hm1, ?_⟩)))
    rw [hγ.2.1, g2, cl_n hiI]
  · obtain ⟨γ, m1, ⟨hW, hd⟩, hm1, hβ⟩ := hβ
    obtain ⟨d1, d2, d3, d4, d5, d6⟩ := hd
    rw [g5] at d6
    refine ws_l (ws_l (ws_s ?_))
    have r6 : hp_R (hp_sI β 556 w (hp_I β 556 w + 1)) = hp_R α ∧ hp_K (hp_sI β 556 w (hp_I β 556 w + 1)) = hp_K α ∧ hp_Q (hp_sI β 556 w (hp_I β 556 w + 1)) = hp_Q α ∧ hp_N (hp_sI β 556 w (hp_I β 556 w + 1)) = hp_N α := by rw [hβ]; exact ⟨d1, d2, d3, d4⟩
    have eI : ∀ φ b, ¬ (b = w ∧ φ = 556) → ¬ (b = wdA w r i ∧ φ = 501) → hp_I (hp_sI β 556 w (hp_I β 556 w + 1)) φ b = hp_I α φ b := fun φ b q1 q2 => by rw [hI_sI, if_neg (fun e => q1 ⟨e.2, e.1⟩), hβ, hI_sE]; exact d5 φ b q2
    have eE : ∀ κ b j, ¬ (κ = 29 ∧ b = lpA w r + 2 ∧ j = i) → ¬ (κ = 27 ∧ b = wdA w r i + 1) → hp_E (hp_sI β 556 w (hp_I β 556 w + 1)) κ b j = hp_E α κ b j := fun κ b j q1 q2 => by rw [hE_sI, hβ, hE_sE, if_neg q1]; exact d6 κ b j q2
    refine ⟨fun g hg => ?_, ⟨r6.1, r6.2.1, r6.2.2.1, r6.2.2.2, fun φ b q => eI φ b (by omega) (by unfold wdA; omega), fun κ b j q => eE κ b j (by unfold lpA; omega) (by unfold wdA; omega)⟩, eI 301 _ (by omega) (by omega)⟩
    obtain ⟨h1, h2, h3, hF, hWt, hX⟩ := h
    have hgs := hg
    obtain ⟨k1, k2, k3⟩ := hg
    have e0 : g 0 = f 0 := k3 0 (by omega) (by decide)
    have e1 : g 1 = f 1 := k3 1 (by omega) (by decide)
    have e3 : g 3 = f 3 := k3 3 (by omega) (by decide)
    refine ⟨SHW_e h1 r6.1 r6.2.2.1, ⟨?_, ?_, ?_, ?_⟩, fun q hq => ?_, fun q hq => ?_, fun q hq => ?_, fun q hq => ?_⟩
    · rw [eI 550 w (by omega) (by omega), e1]; exact h2.1
    · rw [eI 552 w (by omega) (by omega), e0]; exact h2.2.1
    · rw [eI 554 w (by omega) (by omega), e3]; exact h2.2.2.1
    · rw [hI_sI, if_pos ⟨rfl, rfl⟩, hβ, hI_sE, d5 556 w (by omega), h2.2.2.2, k2]
    · rw [e0] at hq
      have c72 : g (72 + q) = f (72 + q) := k3 _ (by omega) (by omega)
      have hsq := hC.2.2.2.2.1 q (by omega)
      rw [c72]
      refine ⟨by rw [eI 152 _ (by omega) (by omega)]; exact (h3 q hq).1, fun e he => ?_⟩
      by_cases hqe : q = r ∧ e = i
      · obtain ⟨rfl, rfl⟩ := hqe
        refine ⟨?_, ?_⟩
        · rw [ltr_set hgs]
          refine ⟨hW.1, by rw [hI_sI, if_neg (by omega), hβ, hI_sE]; exact hW.2.1, fun j hj => ?_, hW.2.2.2⟩
          have := hW.2.2.1 j hj
          rw [d1] at this
          rw [r6.1, hE_sI, hβ, hE_sE, if_neg (by omega)]
          exact this
        · rw [hE_sI, hβ, hE_sE, if_pos ⟨rfl, rfl, rfl⟩, EM_l, ltr_set hgs, e1]
          exact hm1
      · obtain ⟨⟨x1, x2, x3, x4⟩, x5⟩ := (h3 q hq).2 e he
        have hsh := (h1.2.2.2.2.2.2.2.2.2.2.2.1 q (by omega)).2.2 e (by omega)
        have hlq := hC.2.2.2.2.2.2.2.2 (48 * q + e) (by omega)
        have hli := hC.2.2.2.2.2.2.2.2 (48 * r + i) (by omega)
        have l252 : g (252 + (48 * q + e)) = f (252 + (48 * q + e)) := k3 _ (by omega) (by omega)
        have l444 : ∀ j, j < (f (252 + (48 * q + e))).toInt.toNat → g (444 + 8 * (48 * q + e) + j) = f (444 + 8 * (48 * q + e) + j) := fun j hj => k3 _ (by omega) (by omega)
        unfold EN
        rw [ltr_c l252 l444, EM_c e1 l252 l444]
        refine ⟨⟨x1, by rw [eI 501 _ (by omega) (by unfold wdA; omega)]; exact x2, fun j hj => ?_, x4⟩, ?_⟩
        · rw [r6.1, hsh.2, eE 27 _ j (by omega) (by unfold wdA; omega), ← hsh.2]; exact x3 j hj
        · rw [eE 29 _ e (by unfold lpA; omega) (by omega)]; exact x5
    · rw [e3] at hq
      obtain ⟨x1, x2, x3, x4, x5, x6⟩ := hF q hq
      have e93 : g (93 + 10 * q) = f (93 + 10 * q) := k3 _ (by omega) (by omega)
      have hp : pkn (f (93 + 10 * q)).toInt.toNat ≤ 6 := by unfold pkn; omega
      refine ⟨?_, ?_, ?_, ?_, ?_, fun j hj hP => ?_⟩
      · rw [eI 100 _ (by omega) (by omega), x1]; exact (k3 _ (by omega) (by omega)).symm
      · rw [eI 101 _ (by omega) (by omega), x2, e93]
      · rw [eI 102 _ (by omega) (by omega), x3]; exact (k3 _ (by omega) (by omega)).symm
      · rw [eI 103 _ (by omega) (by omega), x4]; exact (k3 _ (by omega) (by omega)).symm
      · rw [eI 301 _ (by omega) (by omega), e93]; exact x5
      · rw [e93] at hj
        rw [eE 20 _ j (by omega) (by omega), x6 j hj hP]; exact (k3 _ (by omega) (by omega)).symm
    · obtain ⟨x1, x2, x3, x4⟩ := hWt q hq
      refine ⟨?_, ?_, ?_, ?_⟩
      · rw [eI 400 _ (by omega) (by omega), x1]; exact (k3 _ (by omega) (by omega)).symm
      · rw [eI 401 _ (by omega) (by omega), x2]; exact (k3 _ (by omega) (by omega)).symm
      · rw [eI 403 _ (by omega) (by omega), x3]; exact (k3 _ (by omega) (by omega)).symm
      · rw [eI 402 _ (by omega) (by omega), x4]; exact (k3 _ (by omega) (by omega)).symm
    · rw [eI 301 _ (by omega) (by omega)]; exact hX q hq
/-! ===== a new world ===== -/
def nwF (g : Nat → Int32) : Prop := g 0 = 1 ∧ g 1 = 65521 ∧ ∀ j, 2 ≤ j → j < 1980 → g j = 0
theorem k_watcherAt (n : Nat) {α : hp_T} {w : Nat} (h : SHW α w) (v : Nat) (hv : v < 4) (vI : Int32) (hvI : vI.toInt = (v : Int)) : ws (f_X10_watcherAt n α w vI) (fun o => o = some (wtA w v)) := by
  have L4 := t_4
  unfold f_X10_watcherAt
  refine ws_lt (fun e => by rw [lt0] at e; omega) (fun _ => ws_l (ws_le (fun e => by omega) (fun _ => ws_l (ws_g (by omega) (by omega) ?_))))
  rw [h.2.2.1, cl_n hvI, h.2.2.2.2.2.2.2.2.1 v hv]
  exact ws_s rfl
theorem k_wrenew (n : Nat) (α : hp_T) (a : Nat) : ws (f_X7_renew n α a) (fun β => (∀ φ, 400 ≤ φ → φ ≤ 403 → hp_I β φ a = 0) ∧ (∀ φ b, ¬ (b = a ∧ 400 ≤ φ ∧ φ ≤ 403) → hp_I β φ b = hp_I α φ b) ∧ hp_R β = hp_R α ∧ hp_K β = hp_K α ∧ hp_Q β = hp_Q α ∧ hp_N β = hp_N α ∧ hp_E β = hp_E α) := by
  unfold f_X7_renew f_X7_trust
  refine ws_b (S := fun δ => δ = hp_sI (hp_sI α 400 a 0) 401 a 0) (ws_l (ws_l (ws_s rfl))) (fun δ hδ => ws_l (ws_l (ws_s ⟨fun φ p1 p2 => ?_, fun φ b q => ?_, ?_, ?_, ?_, ?_, ?_⟩)))
  · rw [hδ]
    have : φ = 400 ∨ φ = 401 ∨ φ = 402 ∨ φ = 403 := by omega
    rcases this with e | e | e | e <;> subst e
    · rw [hI_sI, if_neg (by omega), hI_sI, if_neg (by omega), hI_sI, if_neg (by omega), hI_sI, if_pos ⟨rfl, rfl⟩]
    · rw [hI_sI, if_neg (by omega), hI_sI, if_neg (by omega), hI_sI, if_pos ⟨rfl, rfl⟩]
    · rw [hI_sI, if_neg (by omega), hI_sI, if_pos ⟨rfl, rfl⟩]
    · rw [hI_sI, if_pos ⟨rfl, rfl⟩]
  · rw [hδ, hI_sI, if_neg (by omega), hI_sI, if_neg (by omega), hI_sI, if_neg (by omega), hI_sI, if_neg (by omega)]
  all_goals rw [hδ]; rfl
theorem k_renew_L (n w : Nat) : ∀ (d k : Nat) (β : hp_T) (kI : Int32), SHW β w → kI.toInt = (k : Int) → k ≤ 4 → 5 - k ≤ d → ws (f_X10_renew_L38 n w d β kI) (fun γ => (∀ v, k ≤ v → v < 4 → ∀ φ, 400 ≤ φ → φ ≤ 403 → hp_I γ φ (wtA w v) = 0) ∧ (∀ φ b, ¬ ((w + 455 + k ≤ b ∧ b < w + 459) ∧ 400 ≤ φ ∧ φ ≤ 403) → hp_I γ φ b = hp_I β φ b) ∧ hp_R γ = hp_R β ∧ hp_K γ = hp_K β ∧ hp_Q γ = hp_Q β ∧ hp_N γ = hp_N β ∧ hp_E γ = hp_E β) := by
  intro d
  have L4 := t_4
  induction d with
  | zero => intro k β kI hS h1 h2 h3; omega
  | succ d ih =>
    intro k β kI hS h1 h2 h3
    rw [f_X10_renew_L38.eq_2]
    unfold f_X10_renew_J57
    refine ws_le (fun e => ws_s ⟨fun v v1 v2 => by omega, fun _ _ _ => rfl, rfl, rfl, rfl, rfl, rfl⟩) (fun e => ?_)
    refine ws_b (k_watcherAt n hS k (by omega) kI h1) (fun o ho => ?_)
    subst ho
    refine ws_hS (ws_b (k_wrenew n β (wtA w k)) (fun γ hγ => ws_l ?_))
    obtain ⟨z, q, s1, s2, s3, s4, s5⟩ := hγ
    refine ws_m (ih (k + 1) γ _ (SHW_e hS s1 s3) (by rw [ii_add (by rw [lt1]; omega) (by rw [lt1]; omega), h1, lt1]; omega) (by omega) (by omega)) (fun δ hδ => ?_)
    obtain ⟨y, p, t1, t2, t3, t4, t5⟩ := hδ
    refine ⟨fun v v1 v2 φ f1 f2 => ?_, fun φ b qq => ?_, t1.trans s1, t2.trans s2, t3.trans s3, t4.trans s4, t5.trans s5⟩
    · by_cases hvk : v = k
      · subst hvk
        rw [p φ _ (by unfold wtA; omega)]; exact z φ f1 f2
      · exact y v (by omega) v2 φ f1 f2
    · rw [p φ b (by omega)]
      exact q φ b (by unfold wtA; omega)
theorem k_renew (n : Nat) (hn : 70000 ≤ n) (α : hp_T) (w : Nat) (hS : SHW α w) (hX : ∀ i, i < 16 → 0 ≤ (hp_I α 301 (fzA w i + 1)).toInt ∧ (hp_I α 301 (fzA w i + 1)).toInt ≤ 64) : ws (f_X10_renew n α w) (fun β => (∀ g, nwF g → WR β w g) ∧ wfr w α β ∧ hp_I β 301 (w + 5) = hp_I α 301 (w + 5)) := by
  have L4 := t_4
  unfold f_X10_renew f_X10_renew_J26
  refine ws_ln (fun α1 h1 => ws_ln (fun α2 h2 => ?_))
  have sh : ∀ {β γ : hp_T}, hp_R γ = hp_R β → hp_Q γ = hp_Q β → SHW β w → SHW γ w := fun a b c => SHW_e c a b
  have hS2 : SHW α2 w := by rw [h2, h1]; exact SHW_e hS rfl rfl
  have hl : ws (f_X10_logAt n α2 w 0) (fun o => o = some (lpA w 0)) := by
    unfold f_X10_logAt
    refine ws_lt (fun e => absurd e (by decide)) (fun _ => ws_l (ws_le (fun e => ?_) (fun _ => ws_l (ws_le (fun e => absurd e (by decide)) (fun _ => ws_l (ws_g (by decide) (by decide) ?_))))))
    · rw [h2, hI_sI, if_pos ⟨rfl, rfl⟩] at e; exact absurd e (by decide)
    · rw [hS2.1, cl_n (k := 0) (by decide), hS2.2.2.2.2.2.2.1 0 (by decide)]
      exact ws_s rfl
  refine ws_b hl (fun o ho => ?_)
  subst ho
  refine ws_hS (ws_ln (fun α3 h3 => ws_ln (fun α4 h4 => ws_ln (fun α5 h5 => ?_))))
  have r5 : hp_R α5 = hp_R α ∧ hp_K α5 = hp_K α ∧ hp_Q α5 = hp_Q α ∧ hp_N α5 = hp_N α ∧ hp_E α5 = hp_E α := by rw [h5, h4, h3, h2, h1]; exact ⟨rfl, rfl, rfl, rfl, rfl⟩
  have i5 : ∀ φ b, ¬ (b = w ∧ (φ = 550 ∨ φ = 552 ∨ φ = 554 ∨ φ = 556)) → ¬ (b = lpA w 0 ∧ φ = 152) → hp_I α5 φ b = hp_I α φ b := fun φ b q1 q2 => by rw [h5, hI_sI, if_neg (by omega), h4, hI_sI, if_neg (by omega), h3, hI_sI, if_neg (by omega), h2, hI_sI, if_neg (by omega), h1, hI_sI, if_neg (by omega)]
  have v5 : hp_I α5 550 w = 65521 ∧ hp_I α5 552 w = 1 ∧ hp_I α5 554 w = 0 ∧ hp_I α5 556 w = 0 ∧ hp_I α5 152 (lpA w 0) = 0 := by
    refine ⟨?_, ?_, ?_, ?_, ?_⟩
    · rw [h5, hI_sI, if_neg (by omega), h4, hI_sI, if_neg (by omega), h3, hI_sI, if_neg (by omega), h2, hI_sI, if_neg (by omega), h1, hI_sI, if_pos ⟨rfl, rfl⟩]
    · rw [h5, hI_sI, if_neg (by omega), h4, hI_sI, if_neg (by omega), h3, hI_sI, if_neg (by omega), h2, hI_sI, if_pos ⟨rfl, rfl⟩]
    · rw [h5, hI_sI, if_neg (by omega), h4, hI_sI, if_pos ⟨rfl, rfl⟩]
    · rw [h5, hI_sI, if_pos ⟨rfl, rfl⟩]
    · rw [h5, hI_sI, if_neg (by omega), h4, hI_sI, if_neg (by omega), h3, hI_sI, if_pos ⟨rfl, rfl⟩]
  refine ws_m (k_renew_L n w n 0 α5 0 (SHW_e hS r5.1 r5.2.2.1) rfl (by decide) (by omega)) (fun β hβ => ?_)
  obtain ⟨y, p, t1, t2, t3, t4, t5⟩ := hβ
  have eI : ∀ φ b, ¬ (b = w ∧ (φ = 550 ∨ φ = 552 ∨ φ = 554 ∨ φ = 556)) → ¬ (b = lpA w 0 ∧ φ = 152) → ¬ ((w + 455 ≤ b ∧ b < w + 459) ∧ 400 ≤ φ ∧ φ ≤ 403) → hp_I β φ b = hp_I α φ b := fun φ b q1 q2 q3 => by rw [p φ b (by omega)]; exact i5 φ b q1 q2
  refine ⟨fun g hg => ?_, ⟨t1.trans r5.1, t2.trans r5.2.1, t3.trans r5.2.2.1, t4.trans r5.2.2.2.1, fun φ b q => eI φ b (by omega) (by unfold lpA; omega) (by omega), fun κ b j _ => by rw [t5, r5.2.2.2.2]⟩, eI 301 _ (by omega) (by omega) (by omega)⟩
  obtain ⟨g0, g1, gz⟩ := hg
  have z72 := gz 72 (by decide) (by decide)
  have z3 := gz 3 (by decide) (by decide)
  refine ⟨SHW_e hS (t1.trans r5.1) (t3.trans r5.2.2.1), ⟨?_, ?_, ?_, ?_⟩, fun r hr => ?_, fun i hi => ?_, fun v hv => ?_, fun i hi => ?_⟩
  · rw [p 550 w (by omega), v5.1, g1]
  · rw [p 552 w (by omega), v5.2.1, g0]
  · rw [p 554 w (by omega), v5.2.2.1, z3]
  · rw [p 556 w (by omega), v5.2.2.2.1, gz 4 (by decide) (by decide)]
  · rw [g0] at hr
    have hr0 : r = 0 := by have : ((1 : Int32).toInt.toNat) = 1 := by decide
                           omega
    subst hr0
    refine ⟨by rw [p 152 _ (by omega), v5.2.2.2.2]; exact z72.symm, fun i hi => ?_⟩
    rw [show 72 + 0 = 72 by omega, z72] at hi
    exact absurd hi (by rw [show ((0 : Int32).toInt.toNat) = 0 by decide]; omega)
  · rw [z3] at hi
    exact absurd hi (by rw [show ((0 : Int32).toInt.toNat) = 0 by decide]; omega)
  · have hz := y v (Nat.zero_le _) hv
    exact ⟨by rw [hz 400 (by decide) (by decide), gz _ (by omega) (by omega)], by rw [hz 401 (by decide) (by decide), gz _ (by omega) (by omega)], by rw [hz 403 (by decide) (by decide), gz _ (by omega) (by omega)], by rw [hz 402 (by decide) (by decide), gz _ (by omega) (by omega)]⟩
  · rw [eI 301 _ (by omega) (by omega) (by omega)]; exact hX i hi
/-! ===== the record's two worlds; the call freeze ===== -/
theorem ws_hN {R : Type} {P : R → Prop} {x : Option R} {k : Nat → Option R} (h : ws x P) : ws (hq_m none x k) P := h
def RWX (α : hp_T) (x : Nat) (f : Nat → Int32) : Prop := ∃ w u, hp_R α 601 x = w ∧ hp_R α 602 x = u ∧ ((w = x + 1 ∧ u = x + 460) ∨ (w = x + 460 ∧ u = x + 1)) ∧ WR α w f ∧ rG α w ∧ SHW α u ∧ rG α u ∧ ∀ i, i < 16 → 0 ≤ (hp_I α 301 (fzA u i + 1)).toInt ∧ (hp_I α 301 (fzA u i + 1)).toInt ≤ 64
theorem RWX_w {α β : hp_T} {x w u : Nat} {g : Nat → Int32} (hw : hp_R α 601 x = w) (hu : hp_R α 602 x = u) (hwu : (w = x + 1 ∧ u = x + 460) ∨ (w = x + 460 ∧ u = x + 1)) (hS : SHW α u) (hGu : rG α u) (hX : ∀ i, i < 16 → 0 ≤ (hp_I α 301 (fzA u i + 1)).toInt ∧ (hp_I α 301 (fzA u i + 1)).toInt ≤ 64) (h : WR β w g) (hG : rG β w) (hf : wfr w α β) : RWX β x g := by
  obtain ⟨f1, f2, f3, f4, f5, f6⟩ := hf
  refine ⟨w, u, by rw [f1]; exact hw, by rw [f1]; exact hu, hwu, h, hG, SHW_e hS f1 f3, ?_, fun i hi => ?_⟩
  · unfold rG
    rw [f5 301 _ (by omega)]
    exact hGu
  · rw [f5 301 _ (by unfold fzA; omega)]; exact hX i hi
theorem RWX_st {α : hp_T} {x : Nat} {f : Nat → Int32} (hC : rC f) (h : RWX α x f) (v : Int32) : RWX (hp_sI α 600 x v) x f := by
  obtain ⟨w, u, h1, h2, h3, h4, h5, h6, h7, h8⟩ := h
  have q : ∀ φ b, φ ≠ 600 → hp_I (hp_sI α 600 x v) φ b = hp_I α φ b := fun φ b e => by rw [hI_sI, if_neg (fun k => e k.1)]
  refine ⟨w, u, h1, h2, h3, WR_f2 h4 hC rfl rfl (fun φ b _ _ e => q φ b (by omega)) (fun _ _ _ _ _ _ => rfl), ?_, SHW_e h6 rfl rfl, ?_, fun i hi => ?_⟩
  · unfold rG; rw [q 301 _ (by decide)]; exact h5
  · unfold rG; rw [q 301 _ (by decide)]; exact h7
  · rw [q 301 _ (by decide)]; exact h8 i hi
/-- nothing outside the record's worlds changes, but for the status -/
def wfs (x : Nat) (α β : hp_T) : Prop := hp_R β = hp_R α ∧ hp_K β = hp_K α ∧ hp_Q β = hp_Q α ∧ hp_N β = hp_N α ∧ (∀ φ b, (b ≤ x ∨ x + 919 ≤ b) → ¬ (φ = 600 ∧ b = x) → hp_I β φ b = hp_I α φ b) ∧ ∀ κ b j, (b ≤ x ∨ x + 919 ≤ b) → hp_E β κ b j = hp_E α κ b j
theorem wfs_st {α : hp_T} {x : Nat} (v : Int32) : wfs x α (hp_sI α 600 x v) := ⟨rfl, rfl, rfl, rfl, fun φ b _ h => by rw [hI_sI, if_neg h], fun _ _ _ _ => rfl⟩
theorem wfs_w {α β : hp_T} {x w : Nat} (hw : w = x + 1 ∨ w = x + 460) (h : wfr w α β) (v : Int32) : wfs x α (hp_sI β 600 x v) := by
  obtain ⟨f1, f2, f3, f4, f5, f6⟩ := h
  exact ⟨f1, f2, f3, f4, fun φ b hb h => by rw [hI_sI, if_neg h]; exact f5 φ b (by omega), fun κ b j hb => f6 κ b j (by omega)⟩
/-- what freeze answers, and what it leaves -/
def fzA1 (f : Nat → Int32) (a : Int32) : Int32 := if (0 ≤ a.toInt ∧ a.toInt < (f 0).toInt) ∧ (f 3).toInt < 16 then f 3 else -1
def fzG (f : Nat → Int32) (a : Int32) (g : Nat → Int32) : Prop := if (0 ≤ a.toInt ∧ a.toInt < (f 0).toInt) ∧ (f 3).toInt < 16 then frF f a.toInt.toNat (f 3).toInt.toNat g else g = f
theorem v_freeze (n : Nat) (σ : ms_T) (hC : rC (ms_E σ 40)) (a : Int32) : pr (f_X12_freeze n σ a) (fun res => res.1 = fzA1 (ms_E σ 40) a ∧ fzG (ms_E σ 40) a (ms_E res.2 40)) := by
  have b16 := hC.2.2.2.1
  unfold f_X12_freeze f_X12_freeze_J14
  have his : ∀ (σ : ms_T) (v : Int32), pr (f_X12_is n σ v) (fun res => bo res.1 (v = 0) ∧ res.2 = ms_sI (ms_sI σ 653 0) 652 v) := by
    intro σ v
    unfold f_X12_is
    exact pr_l (pr_l (pr_i (fun e => pr_s ⟨Or.inl ⟨rfl, e⟩, rfl⟩) (fun e => pr_s ⟨Or.inr ⟨rfl, e⟩, rfl⟩)))
  refine pr_bo (pr_w (s_isRecord hC a)) (fun h0 => ?_) (fun h1 => ?_)
  · refine pr_c (his σ 2) (fun v τ hv => pr_i (fun _ => pr_s ⟨?_, ?_⟩) (fun e => ?_))
    · unfold fzA1; rw [if_neg (fun h => h0 h.1)]
    · unfold fzG; rw [if_neg (fun h => h0 h.1)]
      have e9 : τ = ms_sI (ms_sI σ 653 0) 652 2 := hv.2
      show ms_E τ 40 = _
      rw [e9]; rfl
    · rcases hv.1 with ⟨_, h⟩ | ⟨h, _⟩
      · exact absurd h (by decide)
      · exact absurd h e
  · refine pr_c (his σ 0) (fun v τ hv => pr_i (fun e => ?_) (fun _ => ?_))
    · rcases hv.1 with ⟨h, _⟩ | ⟨_, h⟩
      · exact absurd (h.symm.trans e) (by decide)
      · exact absurd rfl h
    · have hτ : ms_E τ 40 = ms_E σ 40 := by have e9 : τ = ms_sI (ms_sI σ 653 0) 652 0 := hv.2; rw [e9]; rfl
      refine pr_c (v_freezes n τ (by rw [hτ]; exact hC) a.toInt.toNat (by rw [hτ]; omega) a (by omega)) (fun y υ hy => pr_s ?_)
      rw [hτ] at hy
      unfold fzA1 fzG
      by_cases hc : (ms_E σ 40 3).toInt < 16
      · rw [if_pos ⟨h1, hc⟩, if_pos ⟨h1, hc⟩]
        exact ⟨(hy.2 hc).1, (hy.2 hc).2.1⟩
      · rw [if_neg (fun h => hc h.2), if_neg (fun h => hc h.2)]
        have h3 := hy.1 (by omega)
        refine ⟨h3.1, ?_⟩
        have := h3.2
        show ms_E υ 40 = _
        rw [show υ = ms_sI τ 652 3 from this]
        exact hτ
theorem k_freeze (n : Nat) (hn : 70000 ≤ n) (α : hp_T) (x : Nat) (f : Nat → Int32) (hC : rC f) (h : RWX α x f) (a : Int32) : ws (f_X11_freeze n α x a) (fun res => res.1 = fzA1 f a ∧ (∀ g, rC g → fzG f a g → RWX res.2 x g) ∧ wfs x α res.2) := by
  have b16 := hC.2.2.2.1
  have L16 := t_16
  obtain ⟨w, u, h1, h2, h3, h4, h5, h6, h7, h8⟩ := id h
  unfold f_X11_freeze
  refine ws_l ?_
  rw [h1]
  refine ws_b (k_logAt n h4 hC a) (fun o ho => ?_)
  by_cases hr : 0 ≤ a.toInt ∧ a.toInt < (f 0).toInt
  · rw [if_pos hr] at ho
    subst ho
    refine ws_hS (ws_l (ws_l ?_))
    rw [h4.2.1.2.2.1]
    unfold fzA1 fzG
    refine ws_lt (fun e => ws_l ?_) (fun e => ?_)
    · rw [L16] at e
      rw [if_pos ⟨hr, e⟩]
      refine ws_hc (k_freezeHead n hn α w f h4 hC a.toInt.toNat (by omega) e a (by omega)) (fun y β hy => ws_hc (k_answer n β x y) (fun z γ hz => ws_s ⟨?_, fun g hCg hg => ?_, by rw [show γ = hp_sI β 600 x 0 from hz.2]; exact wfs_w (by omega) hy.2.2.1 0⟩))
      · exact hz.1.trans hy.1
      · rw [if_pos ⟨hr, e⟩] at hg
        have hγ : γ = hp_sI β 600 x 0 := hz.2
        rw [hγ]
        exact RWX_st hCg (RWX_w h1 h2 h3 h6 h7 h8 (hy.2.1 g hg) (by unfold rG; rw [hy.2.2.2]; exact h5) hy.2.2.1) 0
    · rw [L16] at e
      rw [if_neg (fun q => by omega)]
      refine ws_hc (k_refuse n α x 3) (fun z γ hz => ws_s ⟨hz.1, fun g hCg hg => ?_, by rw [show γ = hp_sI α 600 x 3 from hz.2]; exact wfs_st 3⟩)
      rw [if_neg (fun q => by omega)] at hg
      have hγ : γ = hp_sI α 600 x 3 := hz.2
      rw [hγ, hg]
      exact RWX_st hC h 3
  · rw [if_neg hr] at ho
    subst ho
    unfold fzA1 fzG
    rw [if_neg (fun q => hr q.1)]
    refine ws_hN ?_
    refine ws_hc (k_refuse n α x 2) (fun z γ hz => ws_s ⟨hz.1, fun g hCg hg => ?_, by rw [show γ = hp_sI α 600 x 2 from hz.2]; exact wfs_st 2⟩)
    rw [if_neg (fun q => hr q.1)] at hg
    have hγ : γ = hp_sI α 600 x 2 := hz.2
    rw [hγ, hg]
    exact RWX_st hC h 2
/-! ===== the call show ===== -/
theorem v_is2 (n : Nat) (σ : ms_T) (v : Int32) : pr (f_X12_is n σ v) (fun res => bo res.1 (v = 0) ∧ res.2 = ms_sI (ms_sI σ 653 0) 652 v) := by
  unfold f_X12_is
  exact pr_l (pr_l (pr_i (fun e => pr_s ⟨Or.inl ⟨rfl, e⟩, rfl⟩) (fun e => pr_s ⟨Or.inr ⟨rfl, e⟩, rfl⟩)))
theorem v_is0 {R : Type} {P : R → Prop} (n : Nat) (σ : ms_T) {k : ms_T → Option R} {l : ms_T → Option R} (h : pr (l (ms_sI (ms_sI σ 653 0) 652 0)) P) : pr (ms_c (f_X12_is n σ 0) fun r τ => if r = 0 then k τ else l τ) P := by
  refine pr_c (v_is2 n σ 0) (fun v τ hv => pr_i (fun e => ?_) (fun _ => ?_))
  · rcases hv.1 with ⟨h, _⟩ | ⟨_, h⟩
    · exact absurd (h.symm.trans e) (by decide)
    · exact absurd rfl h
  · have e9 : τ = ms_sI (ms_sI σ 653 0) 652 0 := hv.2
    rw [e9]; exact h
theorem v_is1 {R : Type} {P : R → Prop} (n : Nat) (σ : ms_T) (v : Int32) (hv0 : ¬ v = 0) {k : ms_T → Option R} {l : ms_T → Option R} (h : pr (k (ms_sI (ms_sI σ 653 0) 652 v)) P) : pr (ms_c (f_X12_is n σ v) fun r τ => if r = 0 then k τ else l τ) P := by
  refine pr_c (v_is2 n σ v) (fun y τ hv => pr_i (fun _ => ?_) (fun e => ?_))
  · have e9 : τ = ms_sI (ms_sI σ 653 0) 652 v := hv.2
    rw [e9]; exact h
  · rcases hv.1 with ⟨_, h⟩ | ⟨h, _⟩
    · exact absurd h hv0
    · exact absurd h e
abbrev shOK (f : Nat → Int32) (a b c : Int32) : Prop := 0 ≤ c.toInt ∧ (0 ≤ a.toInt ∧ a.toInt ≤ 3) ∧ (0 ≤ b.toInt ∧ b.toInt < (f 0).toInt) ∧ c.toInt ≤ (f (72 + b.toInt.toNat)).toInt
def shA (f : Nat → Int32) (a b c : Int32) : Int32 := if shOK f a b c then shW f a.toInt.toNat b.toInt.toNat c.toInt.toNat else -1
def shG (f : Nat → Int32) (a b c : Int32) (g : Nat → Int32) : Prop := if shOK f a b c then shF f a.toInt.toNat b.toInt.toNat c.toInt.toNat g else g = f
theorem v_show (n : Nat) (σ : ms_T) (hC : rC (ms_E σ 40)) (a b c : Int32) : pr (f_X12_show n σ a b c) (fun res => res.1 = shA (ms_E σ 40) a b c ∧ shG (ms_E σ 40) a b c (ms_E res.2 40)) := by
  have h4 := hC.1
  have bad : ∀ v : Int32, ¬ v = 0 → ¬ shOK (ms_E σ 40) a b c → pr (f_X12_show_J42 n σ a b c v) (fun res => res.1 = shA (ms_E σ 40) a b c ∧ shG (ms_E σ 40) a b c (ms_E res.2 40)) := by
    intro v hv hn
    unfold f_X12_show_J42 shA shG
    rw [if_neg hn]
    refine v_is1 n σ v hv (pr_s ⟨rfl, ?_⟩)
    rw [if_neg hn]; rfl
  unfold f_X12_show f_X12_show_J24
  refine pr_le (fun h0 => ?_) (fun h0 => bad 1 (by decide) (fun q => by rw [lt0] at h0; have := q.1; omega))
  rw [lt0] at h0
  refine pr_bo (pr_w (s_isWatcher n a)) (fun h1 => bad 2 (by decide) (fun q => h1 q.2.1)) (fun h1 => pr_bo (pr_w (s_isRecord hC b)) (fun h2 => bad 2 (by decide) (fun q => h2 q.2.2.1)) (fun h2 => ?_))
  refine pr_b (v_sizeOf n σ b.toInt.toNat (by omega) b (by omega)) (fun s hs => pr_le (fun h3 => ?_) (fun h3 => bad 5 (by decide) (fun q => by rw [hs] at h3; have := q.2.2.2; omega)))
  rw [hs] at h3
  have ok : shOK (ms_E σ 40) a b c := ⟨h0, h1, h2, h3⟩
  unfold f_X12_show_J42 shA shG
  rw [if_pos ok]
  refine v_is0 n σ ?_
  have hE : ms_E (ms_sI (ms_sI σ 653 0) 652 0) = ms_E σ := rfl
  refine pr_c (v_shows n (ms_sI (ms_sI σ 653 0) 652 0) (by rw [hE]; exact hC) a.toInt.toNat b.toInt.toNat c.toInt.toNat (by omega) (by omega) (by rw [hE]; omega) a b c (by omega) (by omega) (by omega)) (fun y τ hy => pr_s ?_)
  rw [hE] at hy
  rw [if_pos ok]
  exact ⟨hy.1, hy.2.1⟩
theorem k_watcherAt2 (n : Nat) {α : hp_T} {w : Nat} (h : SHW α w) (a : Int32) : ws (f_X10_watcherAt n α w a) (fun o => o = if 0 ≤ a.toInt ∧ a.toInt ≤ 3 then some (wtA w a.toInt.toNat) else none) := by
  have L4 := t_4
  by_cases hc : 0 ≤ a.toInt ∧ a.toInt ≤ 3
  · rw [if_pos hc]
    exact k_watcherAt n h a.toInt.toNat (by omega) a (by omega)
  · rw [if_neg hc]
    unfold f_X10_watcherAt
    refine ws_lt (fun _ => ws_s rfl) (fun e => ws_l (ws_le (fun _ => ws_s rfl) (fun e2 => ?_)))
    rw [lt0] at e
    omega
theorem k_show (n : Nat) (hn : 70000 ≤ n) (α : hp_T) (x : Nat) (f : Nat → Int32) (hC : rC f) (hA : AL01 f) (h : RWX α x f) (a b c : Int32) : ws (f_X11_show n α x a b c) (fun res => res.1 = shA f a b c ∧ (∀ g, rC g → shG f a b c g → RWX res.2 x g) ∧ wfs x α res.2) := by
  have b4 := hC.1
  obtain ⟨w, u, h1, h2, h3, h4, h5, h6, h7, h8⟩ := id h
  have bad : ∀ v : Int32, ¬ shOK f a b c → ws (hq_c (f_X11_refuse n α x v) fun r β => some (r, β)) (fun res => res.1 = shA f a b c ∧ (∀ g, rC g → shG f a b c g → RWX res.2 x g) ∧ wfs x α res.2) := by
    intro v hno
    unfold shA shG
    rw [if_neg hno]
    refine ws_hc (k_refuse n α x v) (fun z γ hz => ws_s ⟨hz.1, fun g hCg hg => ?_, by rw [show γ = hp_sI α 600 x v from hz.2]; exact wfs_st v⟩)
    rw [if_neg hno] at hg
    have hγ : γ = hp_sI α 600 x v := hz.2
    rw [hγ, hg]
    exact RWX_st hC h v
  unfold f_X11_show f_X11_show_J40
  refine ws_le (fun h0 => ws_l ?_) (fun h0 => bad 1 (fun q => by rw [lt0] at h0; have := q.1; omega))
  rw [lt0] at h0
  rw [h1]
  refine ws_b (k_watcherAt2 n h4.1 a) (fun o ho => ?_)
  by_cases hw : 0 ≤ a.toInt ∧ a.toInt ≤ 3
  · rw [if_pos hw] at ho
    subst ho
    refine ws_hS (ws_l (ws_b (k_logAt n h4 hC b) (fun o ho => ?_)))
    by_cases hr : 0 ≤ b.toInt ∧ b.toInt < (f 0).toInt
    · rw [if_pos hr] at ho
      subst ho
      refine ws_hS (ws_l ?_)
      rw [(h4.2.2.1 b.toInt.toNat (by omega)).1]
      refine ws_le (fun e => ws_l ?_) (fun e => bad 5 (fun q => by have := q.2.2.2; omega))
      have ok : shOK f a b c := ⟨h0, hw, hr, e⟩
      refine ws_hc (k_showTo n hn α w f h4 hC hA h5 a.toInt.toNat b.toInt.toNat c.toInt.toNat (by omega) (by omega) (by omega) c (by omega)) (fun y β hy => ws_hc (k_answer n β x y) (fun z γ hz => ws_s ⟨?_, fun g hCg hg => ?_, by rw [show γ = hp_sI β 600 x 0 from hz.2]; exact wfs_w (by omega) hy.2.2.1 0⟩))
      · unfold shA
        rw [if_pos ok]
        exact hz.1.trans hy.1
      · unfold shG at hg
        rw [if_pos ok] at hg
        have hγ : γ = hp_sI β 600 x 0 := hz.2
        rw [hγ]
        exact RWX_st hCg (RWX_w h1 h2 h3 h6 h7 h8 (hy.2.1 g hg) hy.2.2.2 hy.2.2.1) 0
    · rw [if_neg hr] at ho
      subst ho
      exact ws_hN (bad 2 (fun q => hr q.2.2.1))
  · rw [if_neg hw] at ho
    subst ho
    refine ws_hN (ws_l (ws_b (k_logAt n h4 hC b) (fun o ho => ?_)))
    cases o with
    | none => exact ws_hN (bad 2 (fun q => hw q.2.1))
    | some l => exact ws_hS (bad 2 (fun q => hw q.2.1))
theorem AL_sh {f g : Nat → Int32} {a b c : Int32} (hC : rC f) (h : AL01 f) (hg : shG f a b c g) : AL01 g := by
  unfold shG at hg
  by_cases ok : shOK f a b c
  · rw [if_pos ok] at hg
    obtain ⟨-, g2, -, -, g5⟩ := hg
    have h4 := hC.1
    have ha3 := ok.2.1
    refine ⟨?_, FRI_e hC h.2 (by rw [g5 0 (by omega) (by omega)]; omega) (g5 3 (by omega) (by omega)) (fun r hr => by rw [g5 (72 + r) (by omega) (by omega)]; omega) (fun i hi => ⟨g5 _ (by omega) (by omega), g5 _ (by omega) (by omega)⟩)⟩
    intro v hv
    by_cases hva : v = a.toInt.toNat
    · rw [hva, g2]
      split
      · have := ok.2.1
        exact h.1 a.toInt.toNat (by omega)
      · exact Or.inr rfl
    · rw [g5 _ (by omega) (by omega)]; exact h.1 v hv
  · rw [if_neg ok] at hg
    rw [hg]; exact h
/-! ===== the call meet ===== -/
abbrev meOK (f : Nat → Int32) (a b c : Int32) : Prop := (0 ≤ a.toInt ∧ a.toInt ≤ 3) ∧ (0 ≤ b.toInt ∧ b.toInt ≤ 3) ∧ (0 ≤ c.toInt ∧ c.toInt < (f 0).toInt)
def meA (f : Nat → Int32) (a b c : Int32) : Int32 := if meOK f a b c then (if (f (76 + 4 * b.toInt.toNat)).toInt < (f (76 + 4 * a.toInt.toNat)).toInt then meW f b.toInt.toNat a.toInt.toNat c.toInt.toNat else meW f a.toInt.toNat b.toInt.toNat c.toInt.toNat) else -1
def meG (f : Nat → Int32) (a b c : Int32) (g : Nat → Int32) : Prop := if meOK f a b c then (if (f (76 + 4 * b.toInt.toNat)).toInt < (f (76 + 4 * a.toInt.toNat)).toInt then meF f b.toInt.toNat a.toInt.toNat c.toInt.toNat g else meF f a.toInt.toNat b.toInt.toNat c.toInt.toNat g) else g = f
theorem v_meet (n : Nat) (σ : ms_T) (hC : rC (ms_E σ 40)) (a b c : Int32) : pr (f_X12_meet n σ a b c) (fun res => res.1 = meA (ms_E σ 40) a b c ∧ meG (ms_E σ 40) a b c (ms_E res.2 40)) := by
  have h4 := hC.1
  have bad : ∀ v : Int32, ¬ v = 0 → ¬ meOK (ms_E σ 40) a b c → pr (f_X12_meet_J28 n σ a b c v) (fun res => res.1 = meA (ms_E σ 40) a b c ∧ meG (ms_E σ 40) a b c (ms_E res.2 40)) := by
    intro v hv hn
    unfold f_X12_meet_J28 meA meG
    rw [if_neg hn]
    refine v_is1 n σ v hv (pr_s ⟨rfl, ?_⟩)
    rw [if_neg hn]; rfl
  unfold f_X12_meet f_X12_meet_J27
  refine pr_bo (pr_w (s_isWatcher n a)) (fun h1 => bad 2 (by decide) (fun q => h1 q.1)) (fun h1 => pr_bo (pr_w (s_isWatcher n b)) (fun h2 => bad 2 (by decide) (fun q => h2 q.2.1)) (fun h2 => pr_bo (pr_w (s_isRecord hC c)) (fun h3 => bad 2 (by decide) (fun q => h3 q.2.2)) (fun h3 => ?_)))
  have ok : meOK (ms_E σ 40) a b c := ⟨h1, h2, h3⟩
  unfold f_X12_meet_J28 meA meG
  rw [if_pos ok]
  refine v_is0 n σ ?_
  have hE : ms_E (ms_sI (ms_sI σ 653 0) 652 0) = ms_E σ := rfl
  refine pr_b (v_trust n _ a.toInt.toNat (by omega) a (by omega) 0 (by decide) 0 rfl) (fun s hs => pr_b (v_trust n _ b.toInt.toNat (by omega) b (by omega) 0 (by decide) 0 rfl) (fun t ht => ?_))
  rw [hE, Nat.add_zero] at hs ht
  refine pr_lt (fun e => ?_) (fun e => ?_)
  · rw [hs, ht] at e
    rw [if_pos e]
    refine pr_m (v_m56 n (ms_sI (ms_sI σ 653 0) 652 0) (by rw [hE]; exact hC) a.toInt.toNat b.toInt.toNat c.toInt.toNat (by omega) (by omega) (by omega) a b c 0 (by omega) (by omega) (by omega) (by rw [hE, if_pos e])) (fun res hr => ?_)
    rw [hE] at hr
    rw [if_pos ok, if_pos e]
    exact hr.1 e
  · rw [hs, ht] at e
    rw [if_neg (show ¬ (ms_E σ 40 (76 + 4 * b.toInt.toNat)).toInt < (ms_E σ 40 (76 + 4 * a.toInt.toNat)).toInt by omega)]
    refine pr_m (v_m56 n (ms_sI (ms_sI σ 653 0) 652 0) (by rw [hE]; exact hC) a.toInt.toNat b.toInt.toNat c.toInt.toNat (by omega) (by omega) (by omega) a b c 1 (by omega) (by omega) (by omega) (by rw [hE, if_neg (by omega)])) (fun res hr => ?_)
    rw [hE] at hr
    rw [if_pos ok, if_neg (show ¬ (ms_E σ 40 (76 + 4 * b.toInt.toNat)).toInt < (ms_E σ 40 (76 + 4 * a.toInt.toNat)).toInt by omega)]
    exact hr.2.1 e
theorem k_meet (n : Nat) (hn : 70000 ≤ n) (α : hp_T) (x : Nat) (f : Nat → Int32) (hC : rC f) (hA : AL01 f) (h : RWX α x f) (a b c : Int32) : ws (f_X11_meet n α x a b c) (fun res => res.1 = meA f a b c ∧ (∀ g, rC g → meG f a b c g → RWX res.2 x g) ∧ wfs x α res.2) := by
  have b4 := hC.1
  obtain ⟨w, u, h1, h2, h3, h4, h5, h6, h7, h8⟩ := id h
  have bad : ¬ meOK f a b c → ws (f_X11_meet_J45 n x α) (fun res => res.1 = meA f a b c ∧ (∀ g, rC g → meG f a b c g → RWX res.2 x g) ∧ wfs x α res.2) := by
    intro hno
    unfold meA meG f_X11_meet_J45
    rw [if_neg hno]
    refine ws_hc (k_refuse n α x 2) (fun z γ hz => ws_s ⟨hz.1, fun g hCg hg => ?_, by rw [show γ = hp_sI α 600 x 2 from hz.2]; exact wfs_st 2⟩)
    rw [if_neg hno] at hg
    have hγ : γ = hp_sI α 600 x 2 := hz.2
    rw [hγ, hg]
    exact RWX_st hC h 2
  have bad2 : ¬ meOK f a b c → ∀ {k : Nat → Option (Int32 × hp_T)}, (∀ l, k l = f_X11_meet_J45 n x α) → ws (ms_b (f_X10_logAt n α w c) fun o => hq_m o (f_X11_meet_J45 n x α) k) (fun res => res.1 = meA f a b c ∧ (∀ g, rC g → meG f a b c g → RWX res.2 x g) ∧ wfs x α res.2) := by
    intro hno k hk
    refine ws_b (k_logAt n h4 hC c) (fun o _ => ?_)
    cases o with
    | none => exact ws_hN (bad hno)
    | some l => exact ws_hS (by rw [hk]; exact bad hno)
  unfold f_X11_meet
  refine ws_l ?_
  rw [h1]
  refine ws_b (k_watcherAt2 n h4.1 a) (fun o ho => ?_)
  by_cases ha : 0 ≤ a.toInt ∧ a.toInt ≤ 3
  · rw [if_pos ha] at ho
    subst ho
    refine ws_hS (ws_l (ws_b (k_watcherAt2 n h4.1 b) (fun o ho => ?_)))
    by_cases hb : 0 ≤ b.toInt ∧ b.toInt ≤ 3
    · rw [if_pos hb] at ho
      subst ho
      refine ws_hS (ws_l (ws_b (k_logAt n h4 hC c) (fun o ho => ?_)))
      by_cases hc : 0 ≤ c.toInt ∧ c.toInt < (f 0).toInt
      · rw [if_pos hc] at ho
        subst ho
        have ok : meOK f a b c := ⟨ha, hb, hc⟩
        refine ws_hS (ws_l (ws_hc (k_meetBy n hn α w f h4 hC hA h5 a.toInt.toNat b.toInt.toNat c.toInt.toNat (by omega) (by omega) (by omega)) (fun y β hy => ws_hc (k_answer n β x y) (fun z γ hz => ws_s ⟨?_, fun g hCg hg => ?_, by rw [show γ = hp_sI β 600 x 0 from hz.2]; exact wfs_w (by omega) hy.2.2.1 0⟩))))
        · unfold meA
          rw [if_pos ok]
          by_cases e : (f (76 + 4 * b.toInt.toNat)).toInt < (f (76 + 4 * a.toInt.toNat)).toInt
          · rw [if_pos e]; exact hz.1.trans (hy.1 e).1
          · rw [if_neg e]; exact hz.1.trans (hy.2.1 (by omega)).1
        · unfold meG at hg
          rw [if_pos ok] at hg
          have hγ : γ = hp_sI β 600 x 0 := hz.2
          rw [hγ]
          refine RWX_st hCg (RWX_w h1 h2 h3 h6 h7 h8 ?_ hy.2.2.2 hy.2.2.1) 0
          by_cases e : (f (76 + 4 * b.toInt.toNat)).toInt < (f (76 + 4 * a.toInt.toNat)).toInt
          · rw [if_pos e] at hg; exact (hy.1 e).2 g hg
          · rw [if_neg e] at hg; exact (hy.2.1 (by omega)).2 g hg
      · rw [if_neg hc] at ho
        subst ho
        exact ws_hN (bad (fun q => hc q.2.2))
    · rw [if_neg hb] at ho
      subst ho
      exact ws_hN (ws_l (bad2 (fun q => hb q.2.1) (fun _ => rfl)))
  · rw [if_neg ha] at ho
    subst ho
    refine ws_hN (ws_l (ws_b (k_watcherAt2 n h4.1 b) (fun o _ => ?_)))
    cases o with
    | none => exact ws_hN (ws_l (bad2 (fun q => ha q.1) (fun _ => rfl)))
    | some l => exact ws_hS (ws_l (bad2 (fun q => ha q.1) (fun _ => rfl)))
end JN9_13
section JN9_14
set_option maxRecDepth 100000
/-! ===== the call spoil ===== -/
def spC (a b c : Int32) : Nat := 444 + 8 * (48 * a.toInt.toNat + b.toInt.toNat) + c.toInt.toNat
abbrev spO1 (f : Nat → Int32) (a b c d : Int32) : Prop := 0 ≤ b.toInt ∧ 0 ≤ c.toInt ∧ (1 ≤ d.toInt ∧ d.toInt ≤ 26) ∧ (0 ≤ a.toInt ∧ a.toInt < (f 0).toInt) ∧ b.toInt < (f (72 + a.toInt.toNat)).toInt ∧ c.toInt < (f (252 + (48 * a.toInt.toNat + b.toInt.toNat))).toInt
abbrev spOK (f : Nat → Int32) (a b c d : Int32) : Prop := spO1 f a b c d ∧ ¬ f (spC a b c) = d
def spA1 (f : Nat → Int32) (a b c d : Int32) : Int32 := if spOK f a b c d then f (spC a b c) else -1
def spG (f : Nat → Int32) (a b c d : Int32) (g : Nat → Int32) : Prop := if spOK f a b c d then spF f a.toInt.toNat b.toInt.toNat c.toInt.toNat d g else g = f
theorem v_spoil (n : Nat) (σ : ms_T) (hC : rC (ms_E σ 40)) (a b c d : Int32) : pr (f_X12_spoil n σ a b c d) (fun res => res.1 = spA1 (ms_E σ 40) a b c d ∧ spG (ms_E σ 40) a b c d (ms_E res.2 40)) := by
  have h4 := hC.1
  have L48 := t_48
  have L8 := t_8
  have L1 := lt1
  have L26 : (26 : Int32).toInt = 26 := by decide
  have L252 : (252 : Int32).toInt = 252 := by decide
  have L444 : (444 : Int32).toInt = 444 := by decide
  have bad : ∀ v : Int32, ¬ v = 0 → ¬ spOK (ms_E σ 40) a b c d → pr (f_X12_spoil_J69 n σ a b c d v) (fun res => res.1 = spA1 (ms_E σ 40) a b c d ∧ spG (ms_E σ 40) a b c d (ms_E res.2 40)) := by
    intro v hv hn
    unfold f_X12_spoil_J69 spA1 spG
    rw [if_neg hn]
    refine v_is1 n σ v hv (pr_s ⟨rfl, ?_⟩)
    rw [if_neg hn]; rfl
  unfold f_X12_spoil f_X12_spoil_J20 f_X12_spoil_J64
  refine pr_lt (fun h0 => bad 1 (by decide) (fun q => by rw [lt0] at h0; have := q.1.1; omega)) (fun h0 => pr_lt (fun h1 => bad 1 (by decide) (fun q => by rw [lt0] at h1; have := q.1.2.1; omega)) (fun h1 => ?_))
  rw [lt0] at h0 h1
  refine pr_bo (v_isIn n d 1 26) (fun h2 => bad 1 (by decide) (fun q => h2 (by rw [L1, L26]; exact q.1.2.2.1))) (fun h2 => pr_bo (pr_w (s_isRecord hC a)) (fun h3 => bad 2 (by decide) (fun q => h3 q.1.2.2.2.1)) (fun h3 => ?_))
  rw [L1, L26] at h2
  refine pr_b (v_sizeOf n σ a.toInt.toNat (by omega) a (by omega)) (fun s hs => pr_le (fun h5 => bad 5 (by decide) (fun q => by rw [hs] at h5; have := q.1.2.2.2.2.1; omega)) (fun h5 => ?_))
  rw [hs] at h5
  have hsz := hC.2.2.2.2.1 a.toInt.toNat (by omega)
  have e48 : ((48 : Int32) * a).toInt = 48 * a.toInt := by rw [ii_mul (by rw [L48]; omega) (by rw [L48]; omega), L48]
  have e1 : ((252 : Int32) + (48 : Int32) * a).toInt = 252 + 48 * a.toInt := by rw [ii_add (by omega) (by omega), L252, e48]
  have e2 : ((252 : Int32) + (48 : Int32) * a + b).toInt = ((252 + (48 * a.toInt.toNat + b.toInt.toNat) : Nat) : Int) := by rw [ii_add (by omega) (by omega), e1]; omega
  rw [cl_n e2]
  have hle := hC.2.2.2.2.2.2.2.2 (48 * a.toInt.toNat + b.toInt.toNat) (by omega)
  refine pr_g (fun _ _ => pr_lt (fun h6 => ?_) (fun h6 => bad 5 (by decide) (fun q => by have := q.1.2.2.2.2.2; omega)))
  have o1 : spO1 (ms_E σ 40) a b c d := ⟨h0, h1, h2, h3, h5, h6⟩
  have e3 : ((48 : Int32) * a + b).toInt = 48 * a.toInt + b.toInt := by rw [ii_add (by omega) (by omega), e48]
  have e4 : ((8 : Int32) * ((48 : Int32) * a + b)).toInt = 8 * (48 * a.toInt + b.toInt) := by rw [ii_mul (by rw [L8]; omega) (by rw [L8]; omega), L8, e3]
  have e5 : ((444 : Int32) + (8 : Int32) * ((48 : Int32) * a + b)).toInt = 444 + 8 * (48 * a.toInt + b.toInt) := by rw [ii_add (by omega) (by omega), L444, e4]
  have e6 : ((444 : Int32) + (8 : Int32) * ((48 : Int32) * a + b) + c).toInt = ((spC a b c : Nat) : Int) := by unfold spC; rw [ii_add (by omega) (by omega), e5]; omega
  unfold f_X12_spoil_J69
  refine v_is0 n σ ?_
  have hE : ms_E (ms_sI (ms_sI σ 653 0) 652 0) = ms_E σ := rfl
  refine pr_l ?_
  rw [cl_n e6, c4]
  refine pr_g (fun _ _ => pr_l ?_)
  rw [hE]
  refine pr_i (fun e => ?_) (fun e => pr_g (fun _ _ => pr_l (pr_g (fun _ _ => pr_g (fun _ _ => pr_l (pr_s ?_))))))
  · have hno : ¬ spOK (ms_E σ 40) a b c d := fun q => q.2 e
    unfold f_X12_refuse spA1 spG
    rw [if_neg hno]
    refine pr_c (T := fun res => res.1 = -1 ∧ ms_E res.2 40 = ms_E σ 40) (pr_l (pr_s ⟨rfl, rfl⟩)) (fun y τ hy => pr_s ⟨hy.1, ?_⟩)
    rw [if_neg hno]; exact hy.2
  · have ok : spOK (ms_E σ 40) a b c d := ⟨o1, e⟩
    have hc : 444 ≤ spC a b c := by unfold spC; omega
    unfold spA1 spG
    rw [if_pos ok, if_pos ok]
    refine ⟨rfl, ?_, ?_, fun j j1 j2 => ?_⟩
    · rw [mE_sE, if_neg (by omega), mE_sE, if_pos ⟨rfl, rfl⟩]
    · rw [mE_sE, if_pos ⟨rfl, rfl⟩, mE_sE, if_neg (by omega)]; rfl
    · rw [mE_sE, if_neg (by omega), mE_sE, if_neg (fun q => j1 q.2)]; rfl
theorem k_wordAt2 (n : Nat) {α : hp_T} {w r s : Nat} (hS : SHW α w) (hr : r < 4) (hl : (hp_I α 152 (lpA w r)).toInt = (s : Int)) (hs : s ≤ 48) (a : Int32) (h0 : 0 ≤ a.toInt) : ws (f_X2_wordAt n α (lpA w r) a) (fun o => o = if a.toInt < (s : Int) then some (wdA w r a.toInt.toNat) else none) := by
  by_cases hc : a.toInt < (s : Int)
  · rw [if_pos hc]
    exact k_wordAt n hS hr hl hs a.toInt.toNat (by omega) a (by omega)
  · rw [if_neg hc]
    unfold f_X2_wordAt
    exact ws_lt (fun _ => ws_s rfl) (fun _ => ws_l (ws_le (fun _ => ws_s rfl) (fun e => by rw [hl] at e; omega)))
theorem k_spoil (n : Nat) (hn : 70000 ≤ n) (α : hp_T) (x : Nat) (f : Nat → Int32) (hC : rC f) (h : RWX α x f) (a b c d : Int32) : ws (f_X11_spoil n α x a b c d) (fun res => res.1 = spA1 f a b c d ∧ (∀ g, rC g → spG f a b c d g → RWX res.2 x g) ∧ wfs x α res.2) := by
  have b4 := hC.1
  have L26 : (26 : Int32).toInt = 26 := by decide
  have L1 := lt1
  obtain ⟨w, u, h1, h2, h3, h4, h5, h6, h7, h8⟩ := id h
  have bad : ∀ v : Int32, ¬ spOK f a b c d → ws (hq_c (f_X11_refuse n α x v) fun r β => some (r, β)) (fun res => res.1 = spA1 f a b c d ∧ (∀ g, rC g → spG f a b c d g → RWX res.2 x g) ∧ wfs x α res.2) := by
    intro v hno
    unfold spA1 spG
    rw [if_neg hno]
    refine ws_hc (k_refuse n α x v) (fun z γ hz => ws_s ⟨hz.1, fun g hCg hg => ?_, by rw [show γ = hp_sI α 600 x v from hz.2]; exact wfs_st v⟩)
    rw [if_neg hno] at hg
    have hγ : γ = hp_sI α 600 x v := hz.2
    rw [hγ, hg]
    exact RWX_st hC h v
  unfold f_X11_spoil f_X11_spoil_J21 f_X11_spoil_J81
  refine ws_lt (fun e => bad 1 (fun q => by have := q.1.2.2.1; omega)) (fun d1 => ws_lt (fun e => bad 1 (fun q => by have := q.1.2.2.1; omega)) (fun d2 => ws_lt (fun e => bad 1 (fun q => by rw [lt0] at e; have := q.1.1; omega)) (fun d3 => ws_le (fun d4 => ws_l ?_) (fun e => bad 1 (fun q => by rw [lt0] at e; have := q.1.2.1; omega)))))
  rw [lt0] at d3 d4
  rw [h1]
  refine ws_b (k_logAt n h4 hC a) (fun o ho => ?_)
  by_cases hr : 0 ≤ a.toInt ∧ a.toInt < (f 0).toInt
  · rw [if_pos hr] at ho
    subst ho
    have hsz := hC.2.2.2.2.1 a.toInt.toNat (by omega)
    have q152 := (h4.2.2.1 a.toInt.toNat (by omega)).1
    refine ws_hS (ws_b (k_wordAt2 n h4.1 (by omega) (s := (f (72 + a.toInt.toNat)).toInt.toNat) (by rw [q152]; omega) (by omega) b d3) (fun o ho => ?_))
    by_cases hb : b.toInt < (((f (72 + a.toInt.toNat)).toInt.toNat : Nat) : Int)
    · rw [if_pos hb] at ho
      subst ho
      obtain ⟨hW, -⟩ := (h4.2.2.1 a.toInt.toNat (by omega)).2 b.toInt.toNat (by omega)
      have hll := ltr_len f a.toInt.toNat b.toInt.toNat
      have hle := hC.2.2.2.2.2.2.2.2 (48 * a.toInt.toNat + b.toInt.toNat) (by omega)
      have h501 := hW.2.1
      rw [hll] at h501
      refine ws_hS (ws_l (ws_le (fun e => bad 5 (fun q => by rw [h501] at e; have := q.1.2.2.2.2.2; omega)) (fun e => ?_)))
      rw [h501] at e
      have hk : c.toInt.toNat < (ltr f a.toInt.toNat b.toInt.toNat).length := by rw [hll]; omega
      have hget : (ltr f a.toInt.toNat b.toInt.toNat)[c.toInt.toNat] = f (spC a b c) := by
        have := ltr_get f a.toInt.toNat b.toInt.toNat c.toInt.toNat (by omega)
        rw [List.getElem?_eq_getElem hk] at this
        exact Option.some.inj this
      refine ws_b (k_letterAt n hW c.toInt.toNat c (by omega) hk) (fun y hy => ?_)
      rw [hget] at hy
      subst hy
      refine ws_i (fun e2 => bad 5 (fun q => q.2 e2)) (fun e2 => ws_b (k_letterAt n hW c.toInt.toNat c (by omega) hk) (fun y hy => ws_l ?_))
      rw [hget] at hy
      have ok : spOK f a b c d := ⟨⟨d3, d4, ⟨by omega, by omega⟩, hr, by omega, by omega⟩, e2⟩
      refine ws_b (k_spoilLetter n hn α w f h4 hC a.toInt.toNat b.toInt.toNat c.toInt.toNat (by omega) (by omega) (by omega) b c d (by omega) (by omega) (by omega) (by omega)) (fun β hβ => ws_hc (k_answer n β x y) (fun z γ hz => ws_s ⟨?_, fun g hCg hg => ?_, by rw [show γ = hp_sI β 600 x 0 from hz.2]; exact wfs_w (by omega) hβ.2.1 0⟩))
      · unfold spA1
        rw [if_pos ok]
        exact hz.1.trans hy
      · unfold spG at hg
        rw [if_pos ok] at hg
        have hγ : γ = hp_sI β 600 x 0 := hz.2
        rw [hγ]
        exact RWX_st hCg (RWX_w h1 h2 h3 h6 h7 h8 (hβ.1 g hg) (by unfold rG; rw [hβ.2.2]; exact h5) hβ.2.1) 0
    · rw [if_neg hb] at ho
      subst ho
      exact ws_hN (bad 5 (fun q => hb (by have := q.1.2.2.2.2.1; omega)))
  · rw [if_neg hr] at ho
    subst ho
    exact ws_hN (bad 2 (fun q => hr q.1.2.2.2.1))
/-! ===== the call fork ===== -/
abbrev foOK (f : Nat → Int32) (a b : Int32) : Prop := 0 ≤ b.toInt ∧ (0 ≤ a.toInt ∧ a.toInt < (f 0).toInt) ∧ b.toInt ≤ (f (72 + a.toInt.toNat)).toInt ∧ (f 0).toInt < 4
def foA (f : Nat → Int32) (a b : Int32) : Int32 := if foOK f a b then f 0 else -1
def foG (f : Nat → Int32) (a b : Int32) (g : Nat → Int32) : Prop := if foOK f a b then foF f a.toInt.toNat (f 0).toInt.toNat b.toInt.toNat g else g = f
theorem v_fork (n : Nat) (σ : ms_T) (hC : rC (ms_E σ 40)) (a b : Int32) : pr (f_X12_fork n σ a b) (fun res => res.1 = foA (ms_E σ 40) a b ∧ foG (ms_E σ 40) a b (ms_E res.2 40)) := by
  have h4 := hC.1
  have bad : ∀ v : Int32, ¬ v = 0 → ¬ foOK (ms_E σ 40) a b → pr (f_X12_fork_J22 n σ a b v) (fun res => res.1 = foA (ms_E σ 40) a b ∧ foG (ms_E σ 40) a b (ms_E res.2 40)) := by
    intro v hv hn
    unfold f_X12_fork_J22 foA foG
    rw [if_neg hn]
    refine v_is1 n σ v hv (pr_s ⟨rfl, ?_⟩)
    rw [if_neg hn]; rfl
  unfold f_X12_fork
  refine pr_le (fun h0 => ?_) (fun h0 => bad 1 (by decide) (fun q => by rw [lt0] at h0; have := q.1; omega))
  rw [lt0] at h0
  refine pr_bo (pr_w (s_isRecord hC a)) (fun h2 => bad 2 (by decide) (fun q => h2 q.2.1)) (fun h2 => ?_)
  unfold f_X12_fork_J22
  refine v_is0 n σ ?_
  have hE : ms_E (ms_sI (ms_sI σ 653 0) 652 0) = ms_E σ := rfl
  refine pr_c (v_forks n (ms_sI (ms_sI σ 653 0) 652 0) (by rw [hE]; exact hC) a.toInt.toNat (by rw [hE]; omega) a b (by omega) h0) (fun y τ hy => pr_s ?_)
  rw [hE] at hy
  obtain ⟨y1, y2, y3⟩ := hy
  have hno : ∀ v, ¬ foOK (ms_E σ 40) a b → y = -1 → τ = ms_sI (ms_sI (ms_sI σ 653 0) 652 0) 652 v → (y, τ).1 = foA (ms_E σ 40) a b ∧ foG (ms_E σ 40) a b (ms_E (y, τ).2 40) := by
    intro v hn e1 e2
    unfold foA foG
    rw [if_neg hn, if_neg hn]
    refine ⟨e1, ?_⟩
    show ms_E τ 40 = _
    rw [e2]; rfl
  by_cases hs : b.toInt ≤ (ms_E σ 40 (72 + a.toInt.toNat)).toInt
  · by_cases h3 : (ms_E σ 40 0).toInt < 4
    · have ok : foOK (ms_E σ 40) a b := ⟨h0, h2, hs, h3⟩
      unfold foA foG
      rw [if_pos ok, if_pos ok]
      exact ⟨(y3 hs h3).1, (y3 hs h3).2.1⟩
    · have := y2 hs (by omega)
      exact hno 3 (fun q => h3 q.2.2.2) this.1 this.2
  · have := y1 (by omega)
    exact hno 5 (fun q => hs q.2.2.1) this.1 this.2
theorem k_fork (n : Nat) (hn : 70000 ≤ n) (α : hp_T) (x : Nat) (f : Nat → Int32) (hC : rC f) (h : RWX α x f) (a b : Int32) : ws (f_X11_fork n α x a b) (fun res => res.1 = foA f a b ∧ (∀ g, rC g → foG f a b g → RWX res.2 x g) ∧ wfs x α res.2) := by
  have b4 := hC.1
  have L4 := t_4
  obtain ⟨w, u, h1, h2, h3, h4, h5, h6, h7, h8⟩ := id h
  have bad : ∀ v : Int32, ¬ foOK f a b → ws (hq_c (f_X11_refuse n α x v) fun r β => some (r, β)) (fun res => res.1 = foA f a b ∧ (∀ g, rC g → foG f a b g → RWX res.2 x g) ∧ wfs x α res.2) := by
    intro v hno
    unfold foA foG
    rw [if_neg hno]
    refine ws_hc (k_refuse n α x v) (fun z γ hz => ws_s ⟨hz.1, fun g hCg hg => ?_, by rw [show γ = hp_sI α 600 x v from hz.2]; exact wfs_st v⟩)
    rw [if_neg hno] at hg
    have hγ : γ = hp_sI α 600 x v := hz.2
    rw [hγ, hg]
    exact RWX_st hC h v
  unfold f_X11_fork
  refine ws_le (fun h0 => ws_l ?_) (fun h0 => bad 1 (fun q => by rw [lt0] at h0; have := q.1; omega))
  rw [lt0] at h0
  rw [h1]
  refine ws_b (k_logAt n h4 hC a) (fun o ho => ?_)
  by_cases hr : 0 ≤ a.toInt ∧ a.toInt < (f 0).toInt
  · rw [if_pos hr] at ho
    subst ho
    refine ws_hS (ws_l (ws_l ?_))
    rw [h4.2.1.2.1]
    refine ws_lt (fun e => ws_l ?_) (fun e => bad 3 (fun q => by have := q.2.2.2; omega))
    rw [(h4.2.2.1 a.toInt.toNat (by omega)).1]
    refine ws_le (fun e2 => ws_l ?_) (fun e2 => bad 5 (fun q => by have := q.2.2.1; omega))
    have ok : foOK f a b := ⟨h0, hr, e2, by omega⟩
    refine ws_hc (k_forkLog n hn α w f h4 hC a.toInt.toNat b.toInt.toNat (by omega) (by omega) (by omega) b (by omega)) (fun y β hy => ws_hc (k_answer n β x y) (fun z γ hz => ws_s ⟨?_, fun g hCg hg => ?_, by rw [show γ = hp_sI β 600 x 0 from hz.2]; exact wfs_w (by omega) hy.2.2.2 0⟩))
    · unfold foA
      rw [if_pos ok]
      exact hz.1.trans hy.1
    · unfold foG at hg
      rw [if_pos ok] at hg
      have hγ : γ = hp_sI β 600 x 0 := hz.2
      rw [hγ]
      exact RWX_st hCg (RWX_w h1 h2 h3 h6 h7 h8 (hy.2.1 g hg) (by unfold rG; rw [hy.2.2.1]; exact h5) hy.2.2.2) 0
  · rw [if_neg hr] at ho
    subst ho
    exact ws_hN (bad 2 (fun q => hr q.2.1))
/-! ===== the call add ===== -/
abbrev adOK (f : Nat → Int32) (a : Int32) : Prop := (0 ≤ a.toInt ∧ a.toInt < (f 0).toInt) ∧ (f (72 + a.toInt.toNat)).toInt < 48
def adA (f : Nat → Int32) (a : Int32) : Int32 := if adOK f a then f (72 + a.toInt.toNat) else -1
def adG (f : Nat → Int32) (l : List Int32) (a : Int32) (g : Nat → Int32) : Prop := if adOK f a then adF f a.toInt.toNat (f (72 + a.toInt.toNat)).toInt.toNat l g else g = f
/-- the word typed: on both sides -/
def TYS (σ : ms_T) (l : List Int32) : Prop := l.length ≤ 8 ∧ (ms_I σ 664).toInt = (l.length : Int) ∧ ∀ k, k < l.length → some (ms_E σ 45 k) = l[k]?
def TYC (α : hp_T) (x : Nat) (l : List Int32) : Prop := ((hp_R α 606 x = x + 922 ∧ hp_R α 607 x = x + 924) ∨ (hp_R α 606 x = x + 924 ∧ hp_R α 607 x = x + 922)) ∧ hp_R α 500 (x + 922) = x + 923 ∧ hp_R α 500 (x + 924) = x + 925 ∧ WD α (hp_R α 606 x) l
theorem TYC_t {α : hp_T} {x : Nat} {l : List Int32} (h : TYC α x l) : ∃ ta, (ta = x + 922 ∨ ta = x + 924) ∧ hp_R α 606 x = ta ∧ hp_R α 500 ta = ta + 1 ∧ WD α ta l := by
  obtain ⟨h1 | h1, h2, h3, h4⟩ := h
  · rw [h1.1] at h4; exact ⟨x + 922, Or.inl rfl, h1.1, h2, h4⟩
  · rw [h1.1] at h4; exact ⟨x + 924, Or.inr rfl, h1.1, h3, h4⟩
theorem v_add (n : Nat) (σ : ms_T) (hC : rC (ms_E σ 40)) (l : List Int32) (hT : TYS σ l) (a : Int32) : pr (f_X12_add n σ a) (fun res => res.1 = adA (ms_E σ 40) a ∧ adG (ms_E σ 40) l a (ms_E res.2 40)) := by
  have h4 := hC.1
  unfold f_X12_add f_X12_add_J14 adA adG
  refine pr_bo (pr_w (s_isRecord hC a)) (fun h2 => v_is1 n σ 2 (by decide) (pr_s ⟨?_, ?_⟩)) (fun h2 => v_is0 n σ ?_)
  · rw [if_neg (fun q => h2 q.1)]
  · rw [if_neg (fun q => h2 q.1)]; rfl
  · have hsz := hC.2.2.2.2.1 a.toInt.toNat (by omega)
    refine pr_b (v_hand n (ms_sI (ms_sI σ 653 0) 652 0) l hT.1 hT.2.1 hT.2.2) (fun τ hτ => ?_)
    have e40 : ms_E τ 40 = ms_E σ 40 := funext (hτ.2.2 40 (by decide))
    refine pr_c (v_adds n τ (by rw [e40]; exact hC) a.toInt.toNat (ms_E σ 40 (72 + a.toInt.toNat)).toInt.toNat (by omega) (by omega) (by rw [e40]; omega) l hτ.1 a (by omega)) (fun y υ hy => pr_s ?_)
    rw [e40] at hy
    by_cases hs : (ms_E σ 40 (72 + a.toInt.toNat)).toInt < 48
    · rw [if_pos ⟨h2, hs⟩, if_pos ⟨h2, hs⟩]
      have h9 := hy.2.1 (by omega)
      exact ⟨Int32.toInt_inj.mp (by rw [h9.1]; omega), h9.2⟩
    · rw [if_neg (fun q => hs q.2), if_neg (fun q => hs q.2)]
      have h9 := hy.1 (by omega)
      exact ⟨h9.1, h9.2.1⟩
theorem k_add (n : Nat) (hn : 70000 ≤ n) (α : hp_T) (x : Nat) (f : Nat → Int32) (hC : rC f) (h : RWX α x f) (l : List Int32) (hT : TYC α x l) (a : Int32) : ws (f_X11_add n α x a) (fun res => res.1 = adA f a ∧ (∀ g, rC g → adG f l a g → RWX res.2 x g) ∧ wfs x α res.2) := by
  have b4 := hC.1
  have L48 := t_48
  obtain ⟨w, u, h1, h2, h3, h4, h5, h6, h7, h8⟩ := id h
  have bad : ∀ v : Int32, ¬ adOK f a → ws (hq_c (f_X11_refuse n α x v) fun r β => some (r, β)) (fun res => res.1 = adA f a ∧ (∀ g, rC g → adG f l a g → RWX res.2 x g) ∧ wfs x α res.2) := by
    intro v hno
    unfold adA adG
    rw [if_neg hno]
    refine ws_hc (k_refuse n α x v) (fun z γ hz => ws_s ⟨hz.1, fun g hCg hg => ?_, by rw [show γ = hp_sI α 600 x v from hz.2]; exact wfs_st v⟩)
    rw [if_neg hno] at hg
    have hγ : γ = hp_sI α 600 x v := hz.2
    rw [hγ, hg]
    exact RWX_st hC h v
  unfold f_X11_add
  refine ws_l ?_
  rw [h1]
  refine ws_b (k_logAt n h4 hC a) (fun o ho => ?_)
  by_cases hr : 0 ≤ a.toInt ∧ a.toInt < (f 0).toInt
  · rw [if_pos hr] at ho
    subst ho
    have hsz := hC.2.2.2.2.1 a.toInt.toNat (by omega)
    refine ws_hS (ws_l ?_)
    rw [(h4.2.2.1 a.toInt.toNat (by omega)).1]
    refine ws_lt (fun e => ws_l (ws_l ?_)) (fun e => bad 3 (fun q => by have := q.2; omega))
    have ok : adOK f a := ⟨hr, by omega⟩
    obtain ⟨ta, t1, t2, t3, t4⟩ := TYC_t hT
    rw [t2]
    refine ws_b (k_addWord n hn α w f h4 hC a.toInt.toNat (f (72 + a.toInt.toNat)).toInt.toNat (by omega) (by omega) (by omega) ta l t4 (by omega) (by rw [t3]; omega)) (fun β hβ => ws_l ?_)
    obtain ⟨c1, c2, c3, c4, c5, c6, c7, c8, c9⟩ := hβ
    rw [c7]
    have e1 : (f (72 + a.toInt.toNat) + 1 - 1 : Int32) = f (72 + a.toInt.toNat) := by
      refine Int32.toInt_inj.mp ?_
      have e1 : (f (72 + a.toInt.toNat) + 1).toInt = (f (72 + a.toInt.toNat)).toInt + 1 := by rw [ii_add (by rw [lt1]; omega) (by rw [lt1]; omega), lt1]
      rw [ii_sub (by rw [lt1]; omega) (by rw [lt1]; omega), e1, lt1]; omega
    rw [e1]
    refine ws_hc (k_answer n β x _) (fun z γ hz => ws_s ⟨?_, fun g hCg hg => ?_, by rw [show γ = hp_sI β 600 x 0 from hz.2]; exact wfs_w (by omega) ⟨c3, c4, c5, c6, c8, c9⟩ 0⟩)
    · unfold adA
      rw [if_pos ok]
      exact hz.1
    · unfold adG at hg
      rw [if_pos ok] at hg
      have hγ : γ = hp_sI β 600 x 0 := hz.2
      rw [hγ]
      exact RWX_st hCg (RWX_w h1 h2 h3 h6 h7 h8 (c1 g hg) (by unfold rG; rw [c2]; exact h5) ⟨c3, c4, c5, c6, c8, c9⟩) 0
  · rw [if_neg hr] at ho
    subst ho
    exact ws_hN (bad 2 (fun q => hr q.1))
/-! ===== the letters read last stay ===== -/
theorem pr_t {R : Type} {o : Option R} : pr o (fun _ => True) := fun _ _ => trivial
theorem mJ_sE {σ : ms_T} {κ j : Nat} {v : Int32} : ms_J (ms_sE σ κ j v) = ms_J σ := rfl
theorem mJ_sI {σ : ms_T} {φ : Nat} {v : Int32} : ms_J (ms_sI σ φ v) = ms_J σ := rfl
theorem j_asks (n : Nat) {j : Int64} {σ : ms_T} (h : ms_J σ = j) (a b : Int32) : pr (f_X12_asks n σ a b) (fun τ => ms_J τ = j) := by
  unfold f_X12_asks
  repeat' (first
      | exact pr_s (by (first | assumption | (simp only [mJ_sE, mJ_sI]; assumption)))
      | exact pr_0
      | with_reducible refine pr_l ?_
      | with_reducible refine pr_g (fun _ _ => ?_)
      | with_reducible refine pr_n (fun _ => ?_)
      | with_reducible refine pr_i (fun _ => ?_) (fun _ => ?_)
      | with_reducible refine pr_b (T := fun (_ : Int32) => True) pr_t (fun _ _ => ?_))
theorem j_growsIn (n : Nat) {j : Int64} : ∀ (d : Nat) (σ : ms_T) (h : ms_J σ = j) (a b c d1 : Int32), pr (f_X12_growsIn n d σ a b c d1) (fun τ => ms_J τ = j) := by
  intro d
  induction d with
  | zero => intros; exact pr_0
  | succ d ih =>
    intro σ h a b c d1
    unfold f_X12_growsIn
    repeat' (first
        | exact pr_s (by (first | assumption | (simp only [mJ_sE, mJ_sI]; assumption)))
        | exact pr_0
        | with_reducible refine pr_l ?_
        | with_reducible refine pr_g (fun _ _ => ?_)
        | with_reducible refine pr_n (fun _ => ?_)
        | with_reducible refine pr_i (fun _ => ?_) (fun _ => ?_)
        | with_reducible refine pr_b (T := fun (τ : ms_T) => ms_J τ = j) (j_asks n (by (first | assumption | (simp only [mJ_sE, mJ_sI]; assumption))) _ _) (fun _ _ => ?_)
        | with_reducible refine pr_b (T := fun (τ : ms_T) => ms_J τ = j) (ih _ (by (first | assumption | (simp only [mJ_sE, mJ_sI]; assumption))) _ _ _ _) (fun _ _ => ?_)
        | with_reducible refine pr_b (T := fun (_ : Int32) => True) pr_t (fun _ _ => ?_))
theorem j_growth (n : Nat) {j : Int64} {σ : ms_T} (h : ms_J σ = j) (a b : Int32) : pr (f_X12_growth n σ a b) (fun τ => ms_J τ = j) := by
  unfold f_X12_growth
  repeat' (first
      | exact pr_s (by (first | assumption | (simp only [mJ_sE, mJ_sI]; assumption)))
      | exact pr_0
      | with_reducible refine pr_l ?_
      | with_reducible refine pr_g (fun _ _ => ?_)
      | with_reducible refine pr_n (fun _ => ?_)
      | with_reducible refine pr_i (fun _ => ?_) (fun _ => ?_)
      | with_reducible refine pr_b (T := fun (τ : ms_T) => ms_J τ = j) (j_growsIn n 40 _ (by (first | assumption | (simp only [mJ_sE, mJ_sI]; assumption))) _ _ _ _) (fun _ _ => ?_)
      | with_reducible refine pr_b (T := fun (_ : Int32) => True) pr_t (fun _ _ => ?_))
theorem j_fetches_L2 (n : Nat) {j : Int64} : ∀ (d : Nat) (σ : ms_T) (h : ms_J σ = j) (a b : Int32), pr (f_X12_fetches_L2 n d σ a b) (fun τ => ms_J τ = j) := by
  intro d
  induction d with
  | zero => intros; exact pr_0
  | succ d ih =>
    intro σ h a b
    unfold f_X12_fetches_L2
    repeat' (first
        | exact pr_s (by (first | assumption | (simp only [mJ_sE, mJ_sI]; assumption)))
        | exact pr_0
        | with_reducible refine pr_l ?_
        | with_reducible refine pr_g (fun _ _ => ?_)
        | with_reducible refine pr_n (fun _ => ?_)
        | with_reducible refine pr_i (fun _ => ?_) (fun _ => ?_)
        | with_reducible exact ih _ (by (first | assumption | (simp only [mJ_sE, mJ_sI]; assumption))) _ _
        | with_reducible refine pr_b (T := fun (_ : Int32) => True) pr_t (fun _ _ => ?_))
theorem j_fetches (n : Nat) {j : Int64} {σ : ms_T} (h : ms_J σ = j) (a : Int32) : pr (f_X12_fetches n σ a) (fun τ => ms_J τ = j) := by
  unfold f_X12_fetches
  repeat' (first
      | exact pr_s (by (first | assumption | (simp only [mJ_sE, mJ_sI]; assumption)))
      | exact pr_0
      | with_reducible refine pr_l ?_
      | with_reducible refine pr_g (fun _ _ => ?_)
      | with_reducible refine pr_n (fun _ => ?_)
      | with_reducible refine pr_i (fun _ => ?_) (fun _ => ?_)
      | with_reducible exact j_fetches_L2 n n _ (by (first | assumption | (simp only [mJ_sE, mJ_sI]; assumption))) _ _
      | with_reducible refine pr_b (T := fun (_ : Int32) => True) pr_t (fun _ _ => ?_))
theorem j_peaksOf_L10 (n : Nat) {j : Int64} : ∀ (d : Nat) (σ : ms_T) (h : ms_J σ = j) (a b c : Int32), pr (f_X12_peaksOf_L10 n d σ a b c) (fun τ => ms_J τ = j) := by
  intro d
  induction d with
  | zero => intros; exact pr_0
  | succ d ih =>
    intro σ h a b c
    unfold f_X12_peaksOf_L10 f_X12_peaksOf_J35
    repeat' (first
        | exact pr_s (by (first | assumption | (simp only [mJ_sE, mJ_sI]; assumption)))
        | exact pr_0
        | with_reducible refine pr_l ?_
        | with_reducible refine pr_g (fun _ _ => ?_)
        | with_reducible refine pr_n (fun _ => ?_)
        | with_reducible refine pr_i (fun _ => ?_) (fun _ => ?_)
        | with_reducible refine pr_b (T := fun (τ : ms_T) => ms_J τ = j) (j_asks n (by (first | assumption | (simp only [mJ_sE, mJ_sI]; assumption))) _ _) (fun _ _ => ?_)
        | with_reducible exact ih _ (by (first | assumption | (simp only [mJ_sE, mJ_sI]; assumption))) _ _ _
        | with_reducible refine pr_b (T := fun (_ : Int32) => True) pr_t (fun _ _ => ?_))
theorem j_peaksOf (n : Nat) {j : Int64} {σ : ms_T} (h : ms_J σ = j) (a : Int32) : pr (f_X12_peaksOf n σ a) (fun τ => ms_J τ = j) := by
  unfold f_X12_peaksOf
  repeat' (first
      | exact pr_s (by (first | assumption | (simp only [mJ_sE, mJ_sI]; assumption)))
      | exact pr_0
      | with_reducible refine pr_l ?_
      | with_reducible refine pr_g (fun _ _ => ?_)
      | with_reducible refine pr_n (fun _ => ?_)
      | with_reducible refine pr_i (fun _ => ?_) (fun _ => ?_)
      | with_reducible exact j_peaksOf_L10 n n _ (by (first | assumption | (simp only [mJ_sE, mJ_sI]; assumption))) _ _ _
      | with_reducible refine pr_b (T := fun (_ : Int32) => True) pr_t (fun _ _ => ?_))
theorem j_foldsGrowth (n : Nat) {j : Int64} : ∀ (d : Nat) (σ : ms_T) (h : ms_J σ = j) (a b c d1 : Int32), pr (f_X12_foldsGrowth n d σ a b c d1) (fun τ => ms_J τ = j) := by
  intro d
  induction d with
  | zero => intros; exact pr_0
  | succ d ih =>
    intro σ h a b c d1
    unfold f_X12_foldsGrowth f_X12_foldsGrowth_J24 f_X12_foldsGrowth_J50 f_X12_foldsGrowth_J157
    repeat' (first
        | exact pr_s (by (first | assumption | (simp only [mJ_sE, mJ_sI]; assumption)))
        | exact pr_0
        | with_reducible refine pr_l ?_
        | with_reducible refine pr_g (fun _ _ => ?_)
        | with_reducible refine pr_n (fun _ => ?_)
        | with_reducible refine pr_i (fun _ => ?_) (fun _ => ?_)
        | with_reducible refine pr_b (T := fun (τ : ms_T) => ms_J τ = j) (ih _ (by (first | assumption | (simp only [mJ_sE, mJ_sI]; assumption))) _ _ _ _) (fun _ _ => ?_)
        | with_reducible refine pr_b (T := fun (_ : Int32) => True) pr_t (fun _ _ => ?_))
theorem j_whyGrown (n : Nat) {j : Int64} {σ : ms_T} (h : ms_J σ = j) (a b c d e : Int32) : pr (f_X12_whyGrown n σ a b c d e) (fun τ => ms_J τ.2 = j) := by
  unfold f_X12_whyGrown f_X12_whyGrown_J39
  repeat' (first
      | exact pr_s (by (first | assumption | (simp only [mJ_sE, mJ_sI]; assumption)))
      | exact pr_0
      | with_reducible refine pr_l ?_
      | with_reducible refine pr_g (fun _ _ => ?_)
      | with_reducible refine pr_n (fun _ => ?_)
      | with_reducible refine pr_i (fun _ => ?_) (fun _ => ?_)
      | with_reducible refine pr_b (T := fun (τ : ms_T) => ms_J τ = j) (j_growth n (by (first | assumption | (simp only [mJ_sE, mJ_sI]; assumption))) _ _) (fun _ _ => ?_)
      | with_reducible refine pr_b (T := fun (τ : ms_T) => ms_J τ = j) (j_foldsGrowth n 40 _ (by (first | assumption | (simp only [mJ_sE, mJ_sI]; assumption))) _ _ _ _) (fun _ _ => ?_)
      | with_reducible refine pr_b (T := fun (_ : Int32) => True) pr_t (fun _ _ => ?_))
theorem j_whyByRecord (n : Nat) {j : Int64} {σ : ms_T} (h : ms_J σ = j) (a b c d e : Int32) : pr (f_X12_whyByRecord n σ a b c d e) (fun τ => ms_J τ.2 = j) := by
  unfold f_X12_whyByRecord
  repeat' (first
      | exact pr_s (by (first | assumption | (simp only [mJ_sE, mJ_sI]; assumption)))
      | exact pr_0
      | with_reducible refine pr_l ?_
      | with_reducible refine pr_g (fun _ _ => ?_)
      | with_reducible refine pr_n (fun _ => ?_)
      | with_reducible refine pr_i (fun _ => ?_) (fun _ => ?_)
      | with_reducible refine pr_b (T := fun (τ : ms_T) => ms_J τ = j) (j_growth n (by (first | assumption | (simp only [mJ_sE, mJ_sI]; assumption))) _ _) (fun _ _ => ?_)
      | with_reducible refine pr_b (T := fun (τ : ms_T) => ms_J τ = j) (j_fetches n (by (first | assumption | (simp only [mJ_sE, mJ_sI]; assumption))) _) (fun _ _ => ?_)
      | with_reducible refine pr_c (T := fun (τ : Int32 × ms_T) => ms_J τ.2 = j) (j_whyGrown n (by (first | assumption | (simp only [mJ_sE, mJ_sI]; assumption))) _ _ _ _ _) (fun _ _ _ => ?_)
      | with_reducible refine pr_b (T := fun (_ : Int32) => True) pr_t (fun _ _ => ?_))
theorem j_refuse (n : Nat) {j : Int64} {σ : ms_T} (h : ms_J σ = j) (a : Int32) : pr (f_X12_refuse n σ a) (fun τ => ms_J τ.2 = j) := by
  unfold f_X12_refuse
  repeat' (first
      | exact pr_s (by (first | assumption | (simp only [mJ_sE, mJ_sI]; assumption)))
      | exact pr_0
      | with_reducible refine pr_l ?_
      | with_reducible refine pr_g (fun _ _ => ?_)
      | with_reducible refine pr_n (fun _ => ?_)
      | with_reducible refine pr_i (fun _ => ?_) (fun _ => ?_)
      | with_reducible refine pr_b (T := fun (_ : Int32) => True) pr_t (fun _ _ => ?_))
theorem j_trusts (n : Nat) {j : Int64} {σ : ms_T} (h : ms_J σ = j) (a b c : Int32) : pr (f_X12_trusts n σ a b c) (fun τ => ms_J τ = j) := by
  unfold f_X12_trusts
  repeat' (first
      | exact pr_s (by (first | assumption | (simp only [mJ_sE, mJ_sI]; assumption)))
      | exact pr_0
      | with_reducible refine pr_l ?_
      | with_reducible refine pr_g (fun _ _ => ?_)
      | with_reducible refine pr_n (fun _ => ?_)
      | with_reducible refine pr_i (fun _ => ?_) (fun _ => ?_)
      | with_reducible refine pr_b (T := fun (_ : Int32) => True) pr_t (fun _ _ => ?_))
theorem j_shows_J92 (n : Nat) {j : Int64} {σ : ms_T} (h : ms_J σ = j) (a b : Int32) : pr (f_X12_shows_J92 n σ a b) (fun τ => ms_J τ.2 = j) := by
  unfold f_X12_shows_J92 f_X12_shows_J117
  repeat' (first
      | exact pr_s (by (first | assumption | (simp only [mJ_sE, mJ_sI]; assumption)))
      | exact pr_0
      | with_reducible refine pr_l ?_
      | with_reducible refine pr_g (fun _ _ => ?_)
      | with_reducible refine pr_n (fun _ => ?_)
      | with_reducible refine pr_i (fun _ => ?_) (fun _ => ?_)
      | with_reducible refine pr_b (T := fun (_ : Int32) => True) pr_t (fun _ _ => ?_))
theorem j_shows_J71 (n : Nat) {j : Int64} {σ : ms_T} (h : ms_J σ = j) (a b c d e : Int32) : pr (f_X12_shows_J71 n σ a b c d e) (fun τ => ms_J τ.2 = j) := by
  unfold f_X12_shows_J71
  repeat' (first
      | exact pr_s (by (first | assumption | (simp only [mJ_sE, mJ_sI]; assumption)))
      | exact pr_0
      | with_reducible refine pr_l ?_
      | with_reducible refine pr_g (fun _ _ => ?_)
      | with_reducible refine pr_n (fun _ => ?_)
      | with_reducible refine pr_i (fun _ => ?_) (fun _ => ?_)
      | with_reducible refine pr_b (T := fun (τ : ms_T) => ms_J τ = j) (j_trusts n (by (first | assumption | (simp only [mJ_sE, mJ_sI]; assumption))) _ _ _) (fun _ _ => ?_)
      | with_reducible exact j_shows_J92 n (by (first | assumption | (simp only [mJ_sE, mJ_sI]; assumption))) _ _
      | with_reducible refine pr_b (T := fun (_ : Int32) => True) pr_t (fun _ _ => ?_))
theorem j_shows (n : Nat) {j : Int64} {σ : ms_T} (h : ms_J σ = j) (a b c : Int32) : pr (f_X12_shows n σ a b c) (fun τ => ms_J τ.2 = j) := by
  unfold f_X12_shows
  repeat' (first
      | exact pr_s (by (first | assumption | (simp only [mJ_sE, mJ_sI]; assumption)))
      | exact pr_0
      | with_reducible refine pr_l ?_
      | with_reducible refine pr_g (fun _ _ => ?_)
      | with_reducible refine pr_n (fun _ => ?_)
      | with_reducible refine pr_i (fun _ => ?_) (fun _ => ?_)
      | with_reducible refine pr_c (T := fun (τ : Int32 × ms_T) => ms_J τ.2 = j) (j_whyByRecord n (by (first | assumption | (simp only [mJ_sE, mJ_sI]; assumption))) _ _ _ _ _) (fun _ _ _ => ?_)
      | with_reducible exact j_shows_J71 n (by (first | assumption | (simp only [mJ_sE, mJ_sI]; assumption))) _ _ _ _ _
      | with_reducible refine pr_b (T := fun (_ : Int32) => True) pr_t (fun _ _ => ?_))
theorem j_freezes_L98 (n : Nat) {j : Int64} : ∀ (d : Nat) (σ : ms_T) (h : ms_J σ = j) (a b : Int32), pr (f_X12_freezes_L98 n d σ a b) (fun τ => ms_J τ.2 = j) := by
  intro d
  induction d with
  | zero => intros; exact pr_0
  | succ d ih =>
    intro σ h a b
    unfold f_X12_freezes_L98
    repeat' (first
        | exact pr_s (by (first | assumption | (simp only [mJ_sE, mJ_sI]; assumption)))
        | exact pr_0
        | with_reducible refine pr_l ?_
        | with_reducible refine pr_g (fun _ _ => ?_)
        | with_reducible refine pr_n (fun _ => ?_)
        | with_reducible refine pr_i (fun _ => ?_) (fun _ => ?_)
        | with_reducible exact ih _ (by (first | assumption | (simp only [mJ_sE, mJ_sI]; assumption))) _ _
        | with_reducible refine pr_b (T := fun (_ : Int32) => True) pr_t (fun _ _ => ?_))
theorem j_freezes (n : Nat) {j : Int64} {σ : ms_T} (h : ms_J σ = j) (a : Int32) : pr (f_X12_freezes n σ a) (fun τ => ms_J τ.2 = j) := by
  unfold f_X12_freezes
  repeat' (first
      | exact pr_s (by (first | assumption | (simp only [mJ_sE, mJ_sI]; assumption)))
      | exact pr_0
      | with_reducible refine pr_l ?_
      | with_reducible refine pr_g (fun _ _ => ?_)
      | with_reducible refine pr_n (fun _ => ?_)
      | with_reducible refine pr_i (fun _ => ?_) (fun _ => ?_)
      | with_reducible refine pr_c (T := fun (τ : Int32 × ms_T) => ms_J τ.2 = j) (j_refuse n (by (first | assumption | (simp only [mJ_sE, mJ_sI]; assumption))) _) (fun _ _ _ => ?_)
      | with_reducible refine pr_b (T := fun (τ : ms_T) => ms_J τ = j) (j_peaksOf n (by (first | assumption | (simp only [mJ_sE, mJ_sI]; assumption))) _) (fun _ _ => ?_)
      | with_reducible refine pr_b (T := fun (τ : ms_T) => ms_J τ = j) (j_fetches n (by (first | assumption | (simp only [mJ_sE, mJ_sI]; assumption))) _) (fun _ _ => ?_)
      | with_reducible exact j_freezes_L98 n n _ (by (first | assumption | (simp only [mJ_sE, mJ_sI]; assumption))) _ _
      | with_reducible refine pr_b (T := fun (_ : Int32) => True) pr_t (fun _ _ => ?_))
theorem j_adds_L43 (n : Nat) {j : Int64} : ∀ (d : Nat) (σ : ms_T) (h : ms_J σ = j) (a b c : Int32), pr (f_X12_adds_L43 n d σ a b c) (fun τ => ms_J τ.2 = j) := by
  intro d
  induction d with
  | zero => intros; exact pr_0
  | succ d ih =>
    intro σ h a b c
    unfold f_X12_adds_L43
    repeat' (first
        | exact pr_s (by (first | assumption | (simp only [mJ_sE, mJ_sI]; assumption)))
        | exact pr_0
        | with_reducible refine pr_l ?_
        | with_reducible refine pr_g (fun _ _ => ?_)
        | with_reducible refine pr_n (fun _ => ?_)
        | with_reducible refine pr_i (fun _ => ?_) (fun _ => ?_)
        | with_reducible exact ih _ (by (first | assumption | (simp only [mJ_sE, mJ_sI]; assumption))) _ _ _
        | with_reducible refine pr_b (T := fun (_ : Int32) => True) pr_t (fun _ _ => ?_))
theorem j_adds (n : Nat) {j : Int64} {σ : ms_T} (h : ms_J σ = j) (a : Int32) : pr (f_X12_adds n σ a) (fun τ => ms_J τ.2 = j) := by
  unfold f_X12_adds
  repeat' (first
      | exact pr_s (by (first | assumption | (simp only [mJ_sE, mJ_sI]; assumption)))
      | exact pr_0
      | with_reducible refine pr_l ?_
      | with_reducible refine pr_g (fun _ _ => ?_)
      | with_reducible refine pr_n (fun _ => ?_)
      | with_reducible refine pr_i (fun _ => ?_) (fun _ => ?_)
      | with_reducible refine pr_c (T := fun (τ : Int32 × ms_T) => ms_J τ.2 = j) (j_refuse n (by (first | assumption | (simp only [mJ_sE, mJ_sI]; assumption))) _) (fun _ _ _ => ?_)
      | with_reducible exact j_adds_L43 n n _ (by (first | assumption | (simp only [mJ_sE, mJ_sI]; assumption))) _ _ _
      | with_reducible refine pr_b (T := fun (_ : Int32) => True) pr_t (fun _ _ => ?_))
theorem j_forks_L82 (n : Nat) {j : Int64} (rec : ms_T → Int32 → Int32 → Int32 → Int32 → Option (Int32 × ms_T)) (hr : ∀ τ, ms_J τ = j → ∀ a b c d, pr (rec τ a b c d) (fun τ => ms_J τ.2 = j)) : ∀ (d : Nat) (σ : ms_T) (h : ms_J σ = j) (a b c d1 e : Int32), pr (f_X12_forks_L82 n rec d σ a b c d1 e) (fun τ => ms_J τ.2 = j) := by
  intro d
  induction d with
  | zero => intros; exact pr_0
  | succ d ih =>
    intro σ h a b c d1 e
    unfold f_X12_forks_L82
    repeat' (first
        | exact pr_s (by (first | assumption | (simp only [mJ_sE, mJ_sI]; assumption)))
        | exact pr_0
        | with_reducible refine pr_l ?_
        | with_reducible refine pr_g (fun _ _ => ?_)
        | with_reducible refine pr_n (fun _ => ?_)
        | with_reducible refine pr_i (fun _ => ?_) (fun _ => ?_)
        | with_reducible exact ih _ (by (first | assumption | (simp only [mJ_sE, mJ_sI]; assumption))) _ _ _ _ _
        | with_reducible exact hr _ (by (first | assumption | (simp only [mJ_sE, mJ_sI]; assumption))) _ _ _ _
        | with_reducible refine pr_b (T := fun (_ : Int32) => True) pr_t (fun _ _ => ?_))
theorem j_forks_L41 (n : Nat) {j : Int64} : ∀ (d : Nat) (σ : ms_T) (h : ms_J σ = j) (a b c d1 : Int32), pr (f_X12_forks_L41 n d σ a b c d1) (fun τ => ms_J τ.2 = j) := by
  intro d
  induction d with
  | zero => intros; exact pr_0
  | succ d ih =>
    intro σ h a b c d1
    unfold f_X12_forks_L41
    repeat' (first
        | exact pr_s (by (first | assumption | (simp only [mJ_sE, mJ_sI]; assumption)))
        | exact pr_0
        | with_reducible refine pr_l ?_
        | with_reducible refine pr_g (fun _ _ => ?_)
        | with_reducible refine pr_n (fun _ => ?_)
        | with_reducible refine pr_i (fun _ => ?_) (fun _ => ?_)
        | with_reducible exact j_forks_L82 n _ (fun τ hτ a b c d => ih τ hτ a b c d) n _ (by (first | assumption | (simp only [mJ_sE, mJ_sI]; assumption))) _ _ _ _ _
        | with_reducible refine pr_b (T := fun (_ : Int32) => True) pr_t (fun _ _ => ?_))
theorem j_forks (n : Nat) {j : Int64} {σ : ms_T} (h : ms_J σ = j) (a b : Int32) : pr (f_X12_forks n σ a b) (fun τ => ms_J τ.2 = j) := by
  unfold f_X12_forks
  repeat' (first
      | exact pr_s (by (first | assumption | (simp only [mJ_sE, mJ_sI]; assumption)))
      | exact pr_0
      | with_reducible refine pr_l ?_
      | with_reducible refine pr_g (fun _ _ => ?_)
      | with_reducible refine pr_n (fun _ => ?_)
      | with_reducible refine pr_i (fun _ => ?_) (fun _ => ?_)
      | with_reducible refine pr_c (T := fun (τ : Int32 × ms_T) => ms_J τ.2 = j) (j_refuse n (by (first | assumption | (simp only [mJ_sE, mJ_sI]; assumption))) _) (fun _ _ _ => ?_)
      | with_reducible exact j_forks_L41 n n _ (by (first | assumption | (simp only [mJ_sE, mJ_sI]; assumption))) _ _ _ _
      | with_reducible refine pr_b (T := fun (_ : Int32) => True) pr_t (fun _ _ => ?_))
end JN9_14
section JN9_15
set_option maxRecDepth 100000
/-! ===== lines of a text, side by side ===== -/
/-- only a reader's own cells change -/
def rfr (rd : Nat) (α β : hp_T) : Prop := hp_R β = hp_R α ∧ hp_K β = hp_K α ∧ hp_Q β = hp_Q α ∧ hp_N β = hp_N α ∧ (∀ φ b, b < rd ∨ rd + 11 ≤ b → hp_I β φ b = hp_I α φ b) ∧ ∀ κ b j, b < rd ∨ rd + 11 ≤ b → hp_E β κ b j = hp_E α κ b j
def RS (α : hp_T) (rd : Nat) : Prop := hp_R α 200 rd = rd + 1 ∧ hp_R α 207 rd = rd + 9 ∧ hp_R α 500 (rd + 9) = rd + 10
theorem rfr_tr {rd : Nat} {α β γ : hp_T} (h : rfr rd α β) (g : rfr rd β γ) : rfr rd α γ := by
  obtain ⟨h1, h2, h3, h4, h5, h6⟩ := h
  obtain ⟨g1, g2, g3, g4, g5, g6⟩ := g
  exact ⟨g1.trans h1, g2.trans h2, g3.trans h3, g4.trans h4, fun φ b q => (g5 φ b q).trans (h5 φ b q), fun κ b j q => (g6 κ b j q).trans (h6 κ b j q)⟩
theorem rfr_rdf {rd : Nat} {α β : hp_T} (h : rdf rd (rd + 1) α β) : rfr rd α β := by
  obtain ⟨h1, h2, h3, h4, h5, h6⟩ := h
  exact ⟨h1, h2, h3, h4, fun φ b q => h6 φ b (by omega) (by omega), fun κ b j _ => by rw [h5]⟩
theorem rfr_df {rd : Nat} {α β : hp_T} (hS : RS α rd) (h : df (rd + 9) α β) : rfr rd α β := by
  obtain ⟨h1, h2, h3, h4, h5, h6⟩ := h
  exact ⟨h1, h2, h3, h4, fun φ b q => h5 φ b (by omega), fun κ b j q => h6 κ b j (by rw [hS.2.2]; omega)⟩
theorem rfr_sI {rd φ : Nat} {α : hp_T} {v : Int32} : rfr rd α (hp_sI α φ rd v) :=
  ⟨rfl, rfl, rfl, rfl, fun ψ b q => by rw [hI_sI, if_neg (fun (e : ψ = φ ∧ b = rd) => by omega)], fun _ _ _ _ => rfl⟩
theorem RS_R {rd : Nat} {α β : hp_T} (h : RS α rd) (e : hp_R β = hp_R α) : RS β rd := by unfold RS; rw [e]; exact h
theorem WR_rfr {α β : hp_T} {w rd : Nat} {f : Nat → Int32} (h : WR α w f) (hC : rC f) (hw : w + 459 ≤ rd) (g : rfr rd α β) : WR β w f :=
  WR_f h hC g.1 g.2.2.1 (fun φ b _ q _ => g.2.2.2.2.1 φ b (by omega)) (fun κ b j _ q _ => g.2.2.2.2.2 κ b j (by omega))
theorem SB_df {α β : hp_T} {sc wd N : Nat} {t : Nat → Int32} (h : SB α sc t N) (g : df wd α β) : SB β sc t N := by
  obtain ⟨h1, h2, h3, h4⟩ := h
  obtain ⟨g1, g2, g3, g4, g5, g6⟩ := g
  exact ⟨h1, by rw [g5 351 sc (fun e => absurd e.2 (by decide))]; exact h2, by rw [g1, g2]; exact h3, fun j hj => by rw [g1, g6 24 _ j (fun e => absurd e.1 (by decide))]; exact h4 j hj⟩
theorem SCT_df {α β : hp_T} {sc wd N q : Nat} {t : Nat → Int32} (h : SCT α sc t N q) (g : df wd α β) : SCT β sc t N q := by
  obtain ⟨h1, h2, h3, h4, h5⟩ := h
  obtain ⟨-, -, -, -, g5, -⟩ := g
  have e : ∀ φ, φ ≠ 501 → hp_I β φ sc = hp_I α φ sc := fun φ hφ => g5 φ sc (fun e => hφ e.2)
  exact ⟨by rw [e 354 (by decide)]; exact h1, by rw [e 353 (by decide)]; exact h2, by rw [e 352 (by decide)]; exact h3, by rw [e 355 (by decide)]; exact h4, fun q => by rw [e 356 (by decide)]; exact h5 q⟩
theorem TOK_df {α β : hp_T} {rd wd N q : Nat} {σ : ms_T} {t : Nat → Int32} (h : TOK α rd σ t N q) (g : df wd α β) : TOK β rd σ t N q := by
  obtain ⟨h1, h2, h3, h4⟩ := h
  have e : hp_R β = hp_R α := g.1
  exact ⟨h1, by rw [e]; exact SB_df h2 g, by rw [e]; exact SCT_df h3 g, h4⟩
theorem PRE_df {α β : hp_T} {rd wd N p : Nat} {σ : ms_T} {t : Nat → Int32} (h : PRE α rd σ t N p) (g : df wd α β) : PRE β rd σ t N p := by
  obtain ⟨h1, h2, h3, h4⟩ := h
  have e : hp_R β = hp_R α := g.1
  exact ⟨h1, by rw [e]; exact SB_df h2 g, by rw [e, g.2.2.2.2.1 352 _ (fun e => absurd e.2 (by decide))]; exact h3, h4⟩
/-- setting a reader's own field leaves the token -/
theorem TOK_sI {α : hp_T} {rd φ N q : Nat} {σ : ms_T} {t : Nat → Int32} {v : Int32} (hφ : φ < 350) (h : TOK α rd σ t N q) : TOK (hp_sI α φ rd v) rd σ t N q := by
  obtain ⟨h1, h2, h3, h4⟩ := h
  have e : ∀ ψ b, 350 ≤ ψ → hp_I (hp_sI α φ rd v) ψ b = hp_I α ψ b := fun ψ b hψ => by rw [hI_sI, if_neg (fun (e : ψ = φ ∧ b = rd) => by omega)]
  refine ⟨h1, ⟨h2.1, by rw [e 351 _ (by decide)]; exact h2.2.1, h2.2.2⟩, ?_, h4⟩
  obtain ⟨k1, k2, k3, k4, k5⟩ := h3
  exact ⟨by rw [e 354 _ (by decide)]; exact k1, by rw [e 353 _ (by decide)]; exact k2, by rw [e 352 _ (by decide)]; exact k3, by rw [e 355 _ (by decide)]; exact k4, fun q => by rw [e 356 _ (by decide)]; exact k5 q⟩
theorem PRE_sI {α : hp_T} {rd φ N p : Nat} {σ : ms_T} {t : Nat → Int32} {v : Int32} (hφ : φ < 350) (h : PRE α rd σ t N p) : PRE (hp_sI α φ rd v) rd σ t N p := by
  obtain ⟨h1, h2, h3, h4⟩ := h
  have e : ∀ ψ b, 350 ≤ ψ → hp_I (hp_sI α φ rd v) ψ b = hp_I α ψ b := fun ψ b hψ => by rw [hI_sI, if_neg (fun (e : ψ = φ ∧ b = rd) => by omega)]
  exact ⟨h1, ⟨h2.1, by rw [e 351 _ (by decide)]; exact h2.2.1, h2.2.2⟩, by rw [e 352 _ (by decide)]; exact h3, h4⟩
/-- another world of the reference with the same text and token -/
theorem PRE_m {α : hp_T} {rd N p : Nat} {σ τ : ms_T} {t : Nat → Int32} (h : PRE α rd σ t N p) (hI : ∀ φ, 670 ≤ φ → φ ≤ 676 → ms_I τ φ = ms_I σ φ) (h47 : ∀ j, ms_E τ 47 j = ms_E σ 47 j) (hJ : ms_J τ = ms_J σ) : PRE α rd τ t N p := by
  obtain ⟨h1, h2, h3, h4, h5, h6⟩ := h
  refine ⟨h1, h2, h3, ⟨h4.1, by rw [hI 676 (by decide) (by decide)]; exact h4.2.1, fun j hj => by rw [h47]; exact h4.2.2 j hj⟩, ?_, by rw [hI 670 (by decide) (by decide)]; exact h6⟩
  obtain ⟨k1, k2, k3, k4, k5⟩ := h5
  exact ⟨by rw [hI 672 (by decide) (by decide)]; exact k1, by rw [hI 674 (by decide) (by decide)]; exact k2, by rw [hI 673 (by decide) (by decide)]; exact k3, fun q => by rw [hI 675 (by decide) (by decide)]; exact k4 q, fun q => by rw [hJ]; exact k5 q⟩
theorem PRE_fr {α : hp_T} {rd N p : Nat} {σ τ : ms_T} {t : Nat → Int32} {wI wE : List Nat} (h : PRE α rd σ t N p) (hf : fr wI wE σ τ) (h1 : ∀ φ ∈ wI, ¬ (670 ≤ φ ∧ φ ≤ 676)) (h2 : 47 ∉ wE) (hJ : ms_J τ = ms_J σ) : PRE α rd τ t N p :=
  PRE_m h (fun φ a b => hf.1 φ (fun q => h1 φ q ⟨a, b⟩)) (fun j => hf.2 47 h2 j) hJ
/-- a word's letters, off the text -/
def lw (t : Nat → Int32) (q m : Nat) : List Int32 := (List.range m).map (fun k => t (q + k) - 96)
theorem lw_len (t : Nat → Int32) (q m : Nat) : (lw t q m).length = m := by unfold lw; simp
theorem lw_s (t : Nat → Int32) (q m : Nat) : lw t q (m + 1) = lw t q m ++ [t (q + m) - 96] := by
  unfold lw; rw [List.range_succ, List.map_append]; rfl
theorem lw_get (t : Nat → Int32) (q m k : Nat) (h : k < m) : (lw t q m)[k]? = some (t (q + k) - 96) := by
  unfold lw; simp [h]
theorem k_copyWord_L (n : Nat) {sc wd N q m : Nat} {t : Nat → Int32} (hm : m ≤ 8) (hqm : q + m ≤ N) (hL : ∀ j, j < m → isL (t (q + j)) = true) (α : hp_T) : ∀ (d k : Nat) (kI : Int32) (β : hp_T), SB β sc t N → (hp_I β 354 sc).toInt = (q : Int) → (hp_I β 355 sc).toInt = (m : Int) → df wd α β → WD β wd (lw t q k) → kI.toInt = (k : Int) → k ≤ m → 9 - k ≤ d → ws (f_X6_copyWord_L6 n sc d β wd kI) (fun γ => WD γ wd (lw t q m) ∧ df wd α γ) := by
  intro d
  induction d with
  | zero => intro k kI β _ _ _ _ _ _ hk hd; omega
  | succ d ih =>
    intro k kI β hB h1 h2 hf hw hk hkm hd
    have hN := hB.1
    unfold f_X6_copyWord_L6
    refine ws_l (ws_le (fun e => ?_) (fun e => ?_))
    · have : k = m := by omega
      subst this
      exact ws_s ⟨hw, hf⟩
    · refine ws_le (fun e2 => by have := t_8; omega) (fun e2 => ws_l ?_)
      have e0 : (hp_I β 354 sc + kI).toInt = ((q + k : Nat) : Int) := by rw [ii_add (by omega) (by omega), h1, hk]; omega
      refine ws_b (k_byteAt n hB (q + k) _ e0) (fun r hr => ?_)
      rw [if_pos (by omega)] at hr
      subst hr
      have hl := isL_26 (hL k (by omega))
      have t97 : (97 : Int32).toInt = 97 := by decide
      have t96 : (96 : Int32).toInt = 96 := by decide
      have ev : t (q + k) - 97 + 1 = t (q + k) - 96 := Int32.toInt_inj.mp (by
        rw [ii_add (by rw [ii_sub (by omega) (by omega), lt1]; omega) (by rw [ii_sub (by omega) (by omega), lt1]; omega), ii_sub (by omega) (by omega), ii_sub (by omega) (by omega), lt1]; omega)
      rw [ev]
      have h96 : (t (q + k) - 96).toInt = (t (q + k)).toInt - 96 := by rw [ii_sub (by omega) (by omega), t96]
      refine ws_b (k_wput n hw (by rw [lw_len]; omega) _ (by omega) (by omega)) (fun γ hγ => ws_l ?_)
      have hi : ∀ φ, φ ≠ 501 → hp_I γ φ sc = hp_I β φ sc := fun φ hφ => hγ.2.2.2.2.2.1 φ sc (fun e => hφ e.2)
      exact ih (k + 1) _ γ (SB_df hB hγ.2) (by rw [hi 354 (by decide)]; exact h1) (by rw [hi 355 (by decide)]; exact h2) (df_tr hf hγ.2) (by rw [lw_s]; exact hγ.1) (by rw [ii_add (by rw [lt1]; omega) (by rw [lt1]; omega), lt1, hk]; omega) (by omega) (by omega)
theorem k_copyWord (n : Nat) (hn : 70000 ≤ n) {α : hp_T} {sc wd N q m : Nat} {t : Nat → Int32} (hB : SB α sc t N) (h1 : (hp_I α 354 sc).toInt = (q : Int)) (h2 : (hp_I α 355 sc).toInt = (m : Int)) (hm : m ≤ 8) (hqm : q + m ≤ N) (hL : ∀ j, j < m → isL (t (q + j)) = true) : ws (f_X6_copyWord n α sc wd) (fun γ => WD γ wd (lw t q m) ∧ df wd α γ) := by
  unfold f_X6_copyWord
  refine ws_b (k_wclear n α wd) (fun β hβ => ?_)
  have hi : ∀ φ, φ ≠ 501 → hp_I β φ sc = hp_I α φ sc := fun φ hφ => hβ.2.2.2.2.2.1 φ sc (fun e => hφ e.2)
  exact k_copyWord_L n hm hqm hL α n 0 0 β (SB_df hB hβ.2) (by rw [hi 354 (by decide)]; exact h1) (by rw [hi 355 (by decide)]; exact h2) hβ.2 hβ.1 (by decide) (by omega) (by omega)
theorem v_addLine_L (n : Nat) {N q m : Nat} {t : Nat → Int32} (hm : m ≤ 8) (hqm : q + m ≤ N) (P : ms_T → Prop) (σ0 : ms_T) (hP : ∀ τ, HWD τ (lw t q m) → fr [] [46] σ0 τ → ms_J τ = ms_J σ0 → pr (ms_b (f_X12_reads n τ) fun σ => f_X12_addLine_J134 n σ) P) : ∀ (d k : Nat) (kI : Int32) (σ : ms_T), RB σ t N → (ms_I σ 672).toInt = (q : Int) → (ms_I σ 665).toInt = (m : Int) → (∀ j, j < k → ms_E σ 46 j = t (q + j) - 96) → fr [] [46] σ0 σ → ms_J σ = ms_J σ0 → kI.toInt = (k : Int) → k ≤ m → pr (f_X12_addLine_L96 n d σ kI) P := by
  intro d
  induction d with
  | zero => intros; exact pr_0
  | succ d ih =>
    intro k kI σ hB h1 h2 h3 hf hJ hk hkm
    have hN := hB.1
    unfold f_X12_addLine_L96
    refine pr_le (fun e => ?_) (fun e => ?_)
    · have : k = m := by omega
      subst this
      exact hP σ ⟨by rw [lw_len]; exact hm, by rw [lw_len]; exact h2, fun j hj => by rw [lw_len] at hj; rw [lw_get _ _ _ _ hj, h3 j hj]⟩ hf hJ
    · refine pr_g (fun _ _ => pr_g (fun _ _ => pr_l (pr_l ?_)))
      have e0 : (ms_I σ 672 + kI).toInt = ((q + k : Nat) : Int) := by rw [ii_add (by omega) (by omega), h1, hk]; omega
      have e1 : (ms_I σ 672 + kI).toNatClampNeg = q + k := by show (ms_I σ 672 + kI).toInt.toNat = _; rw [e0]; omega
      have e2 : kI.toNatClampNeg = k := by show kI.toInt.toNat = _; rw [hk]; omega
      rw [e1, e2, hB.2.2 (q + k) (by omega)]
      refine ih (k + 1) _ _ ⟨hB.1, hB.2.1, fun j hj => by rw [mE_sE, if_neg (fun e => absurd e.1 (by decide))]; exact hB.2.2 j hj⟩ h1 h2 ?_ (fr_tr hf (fr_sE (by decide))) hJ (by rw [ii_add (by rw [lt1]; omega) (by rw [lt1]; omega), lt1, hk]; omega) (by omega)
      intro j hj
      rw [mE_sE]
      by_cases ej : j = k
      · rw [if_pos ⟨rfl, ej⟩, ej]
      · rw [if_neg (fun e => ej e.2)]; exact h3 j (by omega)
/-! ===== a line, side by side ===== -/
theorem r_end81 (n : Nat) {α : hp_T} {rd : Nat} {σ : ms_T} {t : Nat → Int32} {N q : Nat} (hT : TOK α rd σ t N q) (hR : hp_R α 200 rd = rd + 1) : ws (f_X3_readAdd_J81 n rd α) (fun a => pr (f_X12_takesEnd n σ) (fun τ => rdf rd (rd + 1) α a.2 ∧ rg σ τ ∧ ((a.1 = 1 ∧ (∃ p', q < p' ∧ PRE a.2 rd τ t N p') ∧ a.2 = α) ∨ (a.1 = 0 ∧ BAD a.2 rd τ)))) := by
  unfold f_X3_readAdd_J81 f_X3_readAdd_J99
  obtain ⟨q1, q2, q3, q4, q5, q6⟩ := id hT
  unfold f_X12_takesEnd f_X12_takesEnd_J14
  refine ws_l (ws_l (ws_i (fun e => ?_) (fun e => ?_)))
  · have hs := q3.2.1.symm.trans e
    rw [if_pos (q5.2.1.trans hs)]
    exact ws_s (r_must n hT 1 (Or.inr rfl) (fun _ => q_lt hs (by decide)) (R := ms_T) _ (fun _ τ t1 t2 => ⟨rdf_rf, t2, Or.inl ⟨rfl, ⟨_, by have := (tkN_le t (q_lt hs (by decide))).1; omega, t1⟩, rfl⟩⟩) (fun h => absurd h (by decide)))
  · rw [if_neg (fun h => e (q3.2.1.trans (q5.2.1.symm.trans h)))]
    refine ws_hc (k_stray n q3) (fun r γ hr => ws_i (fun _ => ws_s ?_) (fun e => absurd hr.1 e))
    obtain ⟨g1, g2, g3, g4⟩ := hr
    refine r_must n hT 0 (Or.inl rfl) (fun h => absurd h (by decide)) (R := ms_T) _ (fun h => absurd h (by decide)) (fun _ τ t1 t2 t3 t4 => ⟨by rw [hR] at g4; exact g4, t4, Or.inr ⟨rfl, t1, by rw [g2, t2], ?_⟩⟩)
    exact Int32.toInt_inj.mp (by rw [g3, t3])
/-- room, or the fault 6 at the token -/
theorem r_room (n : Nat) {α : hp_T} {rd : Nat} {σ : ms_T} {t : Nat → Int32} {N q : Nat} (hT : TOK α rd σ t N q) (hR : hp_R α 200 rd = rd + 1) (c m : Int32) : ws (f_X3_hasRoom n α rd c m) (fun a => (c.toInt < m.toInt → a.1 = 1 ∧ a.2 = α) ∧ (m.toInt ≤ c.toInt → a.1 = 0 ∧ rdf rd (rd + 1) α a.2 ∧ ∀ τ, ms_I τ 670 = 6 → ms_I τ 671 = ms_I σ 672 → BAD a.2 rd τ)) := by
  unfold f_X3_hasRoom f_X3_hasRoom_J14
  obtain ⟨q1, q2, q3, q4, q5, q6⟩ := id hT
  refine ws_lt (fun e => ws_s ⟨fun _ => ⟨rfl, rfl⟩, fun h => by omega⟩) (fun e => ?_)
  refine ws_hc (k_fail n α rd 6) (fun r γ hr => ws_i (fun _ => ws_s ⟨fun h => by omega, fun _ => ⟨rfl, by rw [hR] at hr; exact hr.2.2.2, fun τ h1 h2 => ⟨by rw [h1]; decide, by rw [h1]; exact hr.2.1, ?_⟩⟩⟩) (fun e => absurd hr.1 e))
  rw [hr.2.2.1, h2]
  exact Int32.toInt_inj.mp (by rw [q3.1, q5.1])
/-- the reference's fault of a kind other than 2 -/
theorem v_mustk (n : Nat) {σ : ms_T} (h0 : ms_I σ 670 = 0) (w : Int32) (hw : w ≠ 2) : pr (f_X12_must n σ 0 w) (fun τ => ms_I τ 670 = w ∧ ms_I τ 671 = ms_I σ 672 ∧ rg σ τ) :=
  pr_m (v_must0 n h0 w) (fun τ h => ⟨by rw [h.1, if_neg (fun e => hw e.1)], h.2.1, rg_m h.2.2⟩)
def LNK (α : hp_T) (rd w r : Nat) (f : Nat → Int32) (σ τ : ms_T) : Prop :=
  (hp_I α 206 rd = 0 ∧ (f (72 + r)).toInt < 48 ∧ (∃ l, WD α (rd + 9) l ∧ adF f r (f (72 + r)).toInt.toNat l (ms_E τ 40)) ∧ ms_I τ 679 = ms_I σ 679)
  ∨ (hp_I α 206 rd = 1 ∧ 0 ≤ (hp_I α 209 rd).toInt ∧ (hp_I α 209 rd).toInt < (f 0).toInt ∧ ms_E τ 40 = f ∧ ms_I τ 679 = hp_I α 209 rd)
  ∨ (hp_I α 206 rd = 2 ∧ (f 0).toInt < 4 ∧ 0 ≤ (hp_I α 209 rd).toInt ∧ (hp_I α 209 rd).toInt ≤ (f (72 + r)).toInt ∧ foF f r (f 0).toInt.toNat (hp_I α 209 rd).toInt.toNat (ms_E τ 40) ∧ ms_I τ 679 = f 0)
  ∨ (hp_I α 206 rd = 3 ∧ (f 3).toInt < 16 ∧ frF f r (f 3).toInt.toNat (ms_E τ 40) ∧ ms_I τ 679 = ms_I σ 679)
  ∨ (hp_I α 206 rd = 4 ∧ 0 ≤ (hp_I α 208 rd).toInt ∧ (hp_I α 208 rd).toInt ≤ 3 ∧ 0 ≤ (hp_I α 209 rd).toInt ∧ (hp_I α 209 rd).toInt ≤ (f (72 + r)).toInt ∧ shF f (hp_I α 208 rd).toInt.toNat r (hp_I α 209 rd).toInt.toNat (ms_E τ 40) ∧ ms_I τ 679 = ms_I σ 679)
def KF (rd : Nat) (α β : hp_T) : Prop := hp_I β 204 rd = hp_I α 204 rd ∧ hp_I β 205 rd = hp_I α 205 rd
theorem KF_tr {rd : Nat} {α β γ : hp_T} (h : KF rd α β) (g : KF rd β γ) : KF rd α γ := ⟨g.1.trans h.1, g.2.trans h.2⟩
theorem KF_k {rd : Nat} {α β : hp_T} (h : ∀ φ, φ < 350 → hp_I β φ rd = hp_I α φ rd) : KF rd α β := ⟨h 204 (by decide), h 205 (by decide)⟩
theorem KF_n {rd : Nat} {α β : hp_T} (h : ∀ φ, φ < 350 → φ ≠ 209 → hp_I β φ rd = hp_I α φ rd) : KF rd α β := ⟨h 204 (by decide) (by decide), h 205 (by decide) (by decide)⟩
theorem KF_s {rd φ : Nat} {α : hp_T} {v : Int32} (h : 205 < φ) : KF rd α (hp_sI α φ rd v) := ⟨by rw [hI_sI, if_neg (fun e => by omega)], by rw [hI_sI, if_neg (fun e => by omega)]⟩
def LNR (α : hp_T) (rd w r : Nat) (f : Nat → Int32) (σ τ : ms_T) (t : Nat → Int32) (N q : Nat) (a : Int32 × hp_T) : Prop := rfr rd α a.2 ∧ ((a.1 = 0 ∧ BAD a.2 rd τ) ∨ (a.1 = 1 ∧ (∃ q', q < q' ∧ TOK a.2 rd τ t N q') ∧ LNK a.2 rd w r f σ τ ∧ KF rd α a.2))
/-- behind a line: on to the next token -/
theorem r_fin (n : Nat) (hn : 70000 ≤ n) {α β : hp_T} {rd w r : Nat} {f : Nat → Int32} {σ τ : ms_T} {t : Nat → Int32} {N q p : Nat} (hS : RS α rd) (hf : rfr rd α β) (hp : q < p) (hP : PRE β rd τ t N p) (hKF : KF rd α β) (hK : ∀ γ, rdf rd (rd + 1) β γ → (∀ φ, φ < 350 → hp_I γ φ rd = hp_I β φ rd) → LNK γ rd w r f σ τ) : ws (f_X3_readLine_J197 n rd β 1) (LNR α rd w r f σ τ t N q) := by
  unfold f_X3_readLine_J197
  have eR : hp_R β 200 rd = rd + 1 := by rw [hf.1]; exact hS.1
  refine ws_i (fun e => absurd e (by decide)) (fun _ => ws_l (ws_b (ws_m (k_advance n hn hP.2.1 hP.1 hP.2.2.1) (fun γ h => h)) (fun γ hγ => ws_z (Or.inr rfl) (ws_s ?_))))
  obtain ⟨h1, h2, h3, h4, h5, h6⟩ := hP
  have hg : rdf rd (rd + 1) β γ := by have := rdf_sf (rd := rd) hγ.2; rw [eR] at this; exact this
  refine ⟨rfr_tr hf (rfr_rdf hg), Or.inr ⟨rfl, ⟨_, ?_, tkP_le t h1, ?_, ?_, h4, h5, h6⟩, hK γ hg (fun φ hφ => hγ.2.2.2.2.2.2 φ rd (by omega)), KF_tr hKF (KF_k (fun φ hφ => hγ.2.2.2.2.2.2 φ rd (by omega)))⟩⟩
  · have := (ru_le isB t (N - p) p).1
    unfold tkP
    omega
  · rw [hγ.2.1]; exact SB_sf h2 hγ.2
  · rw [hγ.2.1]; exact hγ.1
theorem r_bad (n : Nat) {α β : hp_T} {rd w r : Nat} {f : Nat → Int32} {σ τ : ms_T} {t : Nat → Int32} {N q : Nat} (hf : rfr rd α β) (hB : BAD β rd τ) : ws (f_X3_readLine_J197 n rd β 0) (LNR α rd w r f σ τ t N q) := by
  unfold f_X3_readLine_J197
  exact ws_i (fun _ => ws_z (Or.inl rfl) (ws_s ⟨hf, Or.inl ⟨rfl, hB⟩⟩)) (fun e => absurd rfl e)
theorem WR_sz {α : hp_T} {w : Nat} {f : Nat → Int32} (h : WR α w f) {r : Nat} (hr : r < (f 0).toInt.toNat) : hp_I α 152 (lpA w r) = f (72 + r) := (h.2.2.1 r hr).1
theorem BAD_B {α : hp_T} {rd : Nat} {σ τ : ms_T} (h : BAD α rd σ) (g : BB σ τ) : BAD α rd τ := ⟨by rw [g.1]; exact h.1, by rw [g.1]; exact h.2.1, by rw [g.2.1]; exact h.2.2⟩
theorem BAD_p {α : hp_T} {rd : Nat} {σ : ms_T} (h : BAD α rd σ) : ¬ ms_I σ 670 = 0 := fun e => by have := h.1; rw [e, lt0] at this; omega
theorem rdf_k {α β : hp_T} {rd φ : Nat} (h : rdf rd (rd + 1) α β) (hφ : φ = 206 ∨ φ = 208 ∨ φ = 203) : hp_I β φ rd = hp_I α φ rd := h.2.2.2.2.2 φ rd (by omega) (by omega)
theorem WD_rdf {α β : hp_T} {rd : Nat} {l : List Int32} (h : WD α (rd + 9) l) (g : rdf rd (rd + 1) α β) : WD β (rd + 9) l := by
  obtain ⟨h1, h2, h3, h4⟩ := h
  exact ⟨h1, by rw [g.2.2.2.2.2 501 (rd + 9) (by omega) (by omega)]; exact h2, fun k hk => by rw [g.2.2.2.2.1, g.1]; exact h3 k hk, h4⟩
theorem BAD_m {α : hp_T} {rd : Nat} {σ τ : ms_T} (h : BAD α rd σ) (e0 : ms_I τ 670 = ms_I σ 670) (e1 : ms_I τ 671 = ms_I σ 671) : BAD α rd τ := ⟨by rw [e0]; exact h.1, by rw [e0]; exact h.2.1, by rw [e1]; exact h.2.2⟩
theorem TOK_m {α : hp_T} {rd N q : Nat} {σ τ : ms_T} {t : Nat → Int32} {wI wE : List Nat} (h : TOK α rd σ t N q) (hf : fr wI wE σ τ) (h1 : ∀ φ ∈ wI, ¬ (670 ≤ φ ∧ φ ≤ 676)) (h2 : 47 ∉ wE) (hJ : ms_J τ = ms_J σ) : TOK α rd τ t N q := by
  obtain ⟨k1, k2, k3, h4, h5, h6⟩ := h
  have hI : ∀ φ, 670 ≤ φ → φ ≤ 676 → ms_I τ φ = ms_I σ φ := fun φ a b => hf.1 φ (fun q => h1 φ q ⟨a, b⟩)
  refine ⟨k1, k2, k3, ⟨h4.1, by rw [hI 676 (by decide) (by decide)]; exact h4.2.1, fun j hj => by rw [hf.2 47 h2]; exact h4.2.2 j hj⟩, ?_, by rw [hI 670 (by decide) (by decide)]; exact h6⟩
  obtain ⟨k1, k2, k3, k4, k5⟩ := h5
  exact ⟨by rw [hI 672 (by decide) (by decide)]; exact k1, by rw [hI 674 (by decide) (by decide)]; exact k2, by rw [hI 673 (by decide) (by decide)]; exact k3, fun q => by rw [hI 675 (by decide) (by decide)]; exact k4 q, fun q => by rw [hJ]; exact k5 q⟩
theorem r_toL (n : Nat) (hn : 70000 ≤ n) {α : hp_T} {rd w r : Nat} {f : Nat → Int32} {σ τ : ms_T} {t : Nat → Int32} {N q : Nat} (hS : RS α rd) (hT : TOK α rd σ t N q) (hqN : q < N) (hW : WR α w f) (hf : ms_E σ 40 = f) (hC : rC f) (hr : r < (f 0).toInt.toNat)
    (e : (ms_b (f_X12_reads n σ) fun σh27 => ms_g (0 : Int32) 1980 <| ms_c (f_X12_takesNumber n σh27 (0 : Int32) ((ms_E σh27 40 ((0 : Int32)).toNatClampNeg) - (1 : Int32))) fun rh29 σh29 => if (ms_I σh29 670) = 0 then f_X12_line_J57 n σh29 rh29 else f_X12_line_J57 n σh29 (ms_I σh29 679)) = some τ) :
    ws (ms_l (hp_sI α 206 rd (1 : Int32)) fun αh43 => ms_l (hp_I αh43 552 w) fun x44 => hq_c (f_X3_readNumber n αh43 rd (0 : Int32) (x44 - (1 : Int32))) fun rh45 αh45 => if rh45 = 0 then f_X3_readLine_J63 n rd αh45 else hq_c (f_X3_readSign n αh45 rd) fun rh49 αh49 => if rh49 = 0 then f_X3_readLine_J63 n rd αh49 else f_X3_readLine_J64 n rd αh49 (1 : Int32)) (LNR α rd w r f σ τ t N q) := by
  replace e := ms_bE e
  obtain ⟨σ1, e1, e⟩ := e
  obtain ⟨hP1, hg1⟩ := r_reads n (TOK_sI (φ := 206) (v := 1) (by decide) hT) hqN σ1 e1
  replace e := ms_gE e
  obtain ⟨-, e⟩ := e
  replace e := ms_cE e
  obtain ⟨v, σ2, e2, e⟩ := e
  have eE1 : ms_E σ1 40 = f := by rw [← hf]; funext j; exact hg1.2 40 (by decide) j
  refine ws_l (ws_l ?_)
  have e552 : hp_I (hp_sI α 206 rd 1) 552 w = f 0 := by rw [hI_sI, if_neg (fun h => absurd h.1 (by decide))]; exact hW.2.1.2.1
  rw [e552]
  have h40 : ms_E σ1 40 ((0 : Int32)).toNatClampNeg = f 0 := by rw [eE1]; rfl
  rw [h40] at e2
  have eR : hp_R (hp_sI α 206 rd 1) 200 rd = rd + 1 := hS.1
  refine ws_hc (r_number n hn hP1 0 (f 0 - 1) 0 (f 0 - 1) (fun _ _ _ => Iff.rfl)) (fun a β hab => ?_)
  obtain ⟨hf2, hg2, hc⟩ := hab _ e2
  rw [eR] at hf2
  have hF : rfr rd α β := rfr_tr rfr_sI (rfr_rdf hf2)
  rcases hc with ⟨rfl, ⟨p2, hlt2, hP2⟩, ev, v0, v1, v2, v3, hk2⟩ | ⟨rfl, hB⟩
  · replace v0 : 0 ≤ v.toInt := v0
    replace v1 : v.toInt ≤ 99999 := v1
    have v3' := v3
    dsimp only at v3'
    rw [if_neg (by decide)]
    rw [if_pos (hP2.2.2.2.2.2)] at e
    unfold f_X12_line_J57 at e
    obtain ⟨σ3, e3, e4⟩ := ms_bE (ms_lE rfl e)
    cases e4
    have hP2' : PRE β rd (ms_sI σ2 679 v) t N p2 := PRE_fr (wI := [679]) (wE := []) hP2 (fr_sI (by decide)) (by decide) (by decide) rfl
    have eR2 : hp_R β 200 rd = rd + 1 := by rw [hF.1]; exact hS.1
    refine ws_hc (r_sign n hn hP2') (fun a3 γ h3 => ?_)
    obtain ⟨hf3, hg3, hc3⟩ := h3 _ e3
    rw [eR2] at hf3
    have hF3 : rfr rd α γ := rfr_tr hF (rfr_rdf hf3)
    rcases hc3 with ⟨rfl, ⟨p3, hlt3, hP3⟩, hk3⟩ | ⟨rfl, hB⟩
    · rw [if_neg (by decide)]
      unfold f_X3_readLine_J64
      have hq1 := (tkN_le t hqN).1
      refine r_fin n hn hS hF3 (by omega) hP3 (KF_tr (KF_s (by decide)) (KF_tr (KF_n hk2) (KF_k hk3))) (fun δ hd hl => Or.inr (Or.inl ?_))
      have i206 : hp_I γ 206 rd = 1 := by rw [rdf_k hf3 (by decide), rdf_k hf2 (by decide), hI_sI, if_pos ⟨rfl, rfl⟩]
      have i209 : hp_I δ 209 rd = v := by rw [hl 209 (by decide), hk3 209 (by decide)]; exact ev
      have hb : (f 0 - 1).toInt = (f 0).toInt - 1 := by have := hC.1; rw [ii_sub (by rw [lt1]; omega) (by rw [lt1]; omega), lt1]
      refine ⟨by rw [hl 206 (by decide)]; exact i206, by rw [i209]; exact v0, by rw [i209]; omega, ?_, ?_⟩
      · funext j
        rw [hg3.2 40 (by decide) j, mE_sI, hg2.2 40 (by decide) j, eE1]
      · rw [i209, hg3.1 679 (by decide), mI_sI, if_pos rfl]
    · rw [if_pos rfl]
      unfold f_X3_readLine_J63 f_X3_readLine_J64
      exact r_bad n hF3 hB
  · rw [if_pos rfl]
    unfold f_X3_readLine_J63 f_X3_readLine_J64
    refine r_bad n hF ?_
    rw [if_neg (BAD_p hB)] at e
    unfold f_X12_line_J57 at e
    obtain ⟨σ3, e3, e4⟩ := ms_bE (ms_lE rfl e)
    cases e4
    have h0 : 0 < (ms_I (ms_sI σ2 679 (ms_I σ2 679)) 670).toInt := hB.1
    exact BAD_B (BAD_m hB (τ := ms_sI σ2 679 (ms_I σ2 679)) rfl rfl) (v_takesEnd_B n _ h0 _ e3)
theorem r_forkL (n : Nat) (hn : 70000 ≤ n) {α : hp_T} {rd w r : Nat} {f : Nat → Int32} {σ τ : ms_T} {t : Nat → Int32} {N q : Nat} (hS : RS α rd) (hT : TOK α rd σ t N q) (hqN : q < N) (hW : WR α w f) (hf : ms_E σ 40 = f) (hC : rC f) (hr : r < (f 0).toInt.toNat) (hrI : (ms_I σ 679).toInt = (r : Int)) (e : f_X12_forkLine n σ = some τ) :
    ws (ms_l (hp_sI α 206 rd (2 : Int32)) fun αh32 => ms_l (hp_I αh32 552 w) fun x33 => hq_c (f_X3_hasRoom n αh32 rd x33 (4 : Int32)) fun rh34 αh34 => if rh34 = 0 then f_X3_readLine_J120 n rd αh34 else ms_l (hp_I αh34 152 (lpA w r)) fun x38 => hq_c (f_X3_readNumber n αh34 rd (0 : Int32) x38) fun rh39 αh39 => if rh39 = 0 then f_X3_readLine_J120 n rd αh39 else hq_c (f_X3_readSign n αh39 rd) fun rh41 αh41 => if rh41 = 0 then f_X3_readLine_J120 n rd αh41 else f_X3_readLine_J121 n rd αh41 (1 : Int32)) (LNR α rd w r f σ τ t N q) := by
  have t4 := t_4
  have hr4 : r < 4 := by have := hC.1; omega
  unfold f_X12_forkLine at e
  replace e := ms_gE e
  obtain ⟨-, e⟩ := e
  have h40 : ms_E σ 40 ((0 : Int32)).toNatClampNeg = f 0 := by rw [hf]; rfl
  rw [h40] at e
  refine ws_l (ws_l ?_)
  have e552 : hp_I (hp_sI α 206 rd 2) 552 w = f 0 := by rw [hI_sI, if_neg (fun h => absurd h.1 (by decide))]; exact hW.2.1.2.1
  rw [e552]
  have hT1 := TOK_sI (φ := 206) (v := 2) (by decide) hT
  have eR : hp_R (hp_sI α 206 rd 2) 200 rd = rd + 1 := hS.1
  refine ws_hc (r_room n hT1 eR (f 0) 4) (fun a β hab => ?_)
  by_cases h4 : (f 0).toInt < 4
  · obtain ⟨rfl, rfl⟩ := hab.1 (by omega)
    rw [if_neg (show ¬ (1 : Int32) = 0 by decide)]
    rw [if_neg (by rw [Int32.le_iff_toInt_le, t4]; omega)] at e
    unfold f_X12_forkLine_J16 at e
    replace e := ms_bE e
    obtain ⟨σ0, e0, e⟩ := e
    have := v_must1 n σ 1 6 (by decide) σ0 e0
    subst this
    rw [if_pos (by rw [hT.2.2.2.2.2]; decide)] at e
    replace e := ms_bE e
    obtain ⟨σ1, e1, e⟩ := e
    obtain ⟨hP1, hg1⟩ := r_reads n hT1 hqN σ1 e1
    replace e := ms_bE e
    obtain ⟨sz, e1b, e⟩ := e
    have eE1 : ms_E σ1 40 = f := by rw [← hf]; funext j; exact hg1.2 40 (by decide) j
    have e679 : ms_I σ1 679 = ms_I σ0 679 := hg1.1 679 (by decide)
    have hsz := v_sizeOf n σ1 r hr4 (ms_I σ1 679) (by rw [e679]; exact hrI) sz e1b
    rw [eE1] at hsz
    subst hsz
    replace e := ms_cE e
    obtain ⟨v, σ2, e2, e⟩ := e
    replace e := ms_bE e
    obtain ⟨σ3, e3, e⟩ := e
    refine ws_l ?_
    have e152 : hp_I (hp_sI α 206 rd 2) 152 (lpA w r) = f (72 + r) := by rw [hI_sI, if_neg (fun h => absurd h.1 (by decide))]; exact WR_sz hW hr
    rw [e152]
    refine ws_hc (r_number n hn hP1 0 (f (72 + r)) 0 (f (72 + r)) (fun _ _ _ => Iff.rfl)) (fun a β hab => ?_)
    obtain ⟨hf2, hg2, hc⟩ := hab _ e2
    rw [eR] at hf2
    have hF : rfr rd α β := rfr_tr rfr_sI (rfr_rdf hf2)
    rcases hc with ⟨rfl, ⟨p2, hlt2, hP2⟩, ev, v0, v1, v2, v3, hk2⟩ | ⟨rfl, hB⟩
    · replace v0 : 0 ≤ v.toInt := v0
      replace v1 : v.toInt ≤ 99999 := v1
      have v3' := v3
      dsimp only at v3'
      rw [if_neg (show ¬ (1 : Int32) = 0 by decide)]
      have eR2 : hp_R β 200 rd = rd + 1 := by rw [hF.1]; exact hS.1
      refine ws_hc (r_sign n hn hP2) (fun a3 γ h3 => ?_)
      obtain ⟨hf3, hg3, hc3⟩ := h3 _ e3
      rw [eR2] at hf3
      have hF3 : rfr rd α γ := rfr_tr hF (rfr_rdf hf3)
      rcases hc3 with ⟨rfl, ⟨p3, hlt3, hP3⟩, hk3⟩ | ⟨rfl, hB⟩
      · rw [if_neg (show ¬ (1 : Int32) = 0 by decide)]
        rw [if_pos hP3.2.2.2.2.2] at e
        replace e := ms_cE e
        obtain ⟨v4, σ4, e4, e⟩ := e
        replace e := ms_lE rfl e
        cases e
        have eE3 : ms_E σ3 40 = f := by funext j; rw [hg3.2 40 (by decide) j, hg2.2 40 (by decide) j, eE1]
        have hv := (v_forks n σ3 (by rw [eE3]; exact hC) r (by rw [eE3]; exact hr) (ms_I σ3 679) v (by rw [hg3.1 679 (by decide), hg2.1 679 (by decide), e679]; exact hrI) v0 _ e4).2.2
        rw [eE3] at hv
        obtain ⟨hv1, hv2, hv3⟩ := hv v3' h4
        have hJ := j_forks n (rfl : ms_J σ3 = ms_J σ3) (ms_I σ3 679) v _ e4
        unfold f_X3_readLine_J121
        have hq1 := (tkN_le t hqN).1
        refine r_fin n hn hS hF3 (by omega) (PRE_fr (wI := [679]) (wE := [40]) hP3 (fr_tr (fr_sb hv3 (by decide) (by decide)) (fr_sI (by decide))) (by decide) (by decide) hJ) (KF_tr (KF_s (by decide)) (KF_tr (KF_n hk2) (KF_k hk3))) (fun δ hd hl => Or.inr (Or.inr (Or.inl ?_)))
        have i206 : hp_I γ 206 rd = 2 := by rw [rdf_k hf3 (by decide), rdf_k hf2 (by decide), hI_sI, if_pos ⟨rfl, rfl⟩]
        have i209 : hp_I δ 209 rd = v := by rw [hl 209 (by decide), hk3 209 (by decide)]; exact ev
        refine ⟨by rw [hl 206 (by decide)]; exact i206, h4, by rw [i209]; exact v0, by rw [i209]; exact v3', by rw [i209]; exact hv2, by rw [mI_sI, if_pos rfl]; exact hv1⟩
      · rw [if_pos rfl]
        unfold f_X3_readLine_J120 f_X3_readLine_J121
        refine r_bad n hF3 ?_
        rw [if_neg (BAD_p hB)] at e
        cases e
        exact hB
    · rw [if_pos rfl]
      unfold f_X3_readLine_J120 f_X3_readLine_J121
      refine r_bad n hF ?_
      have hB3 := BAD_B hB (v_takesEnd_B n _ hB.1 _ e3)
      rw [if_neg (BAD_p hB3)] at e
      cases e
      exact hB3
  · obtain ⟨rfl, hf2, hB⟩ := hab.2 (by omega)
    rw [if_pos rfl]
    rw [if_pos (by rw [Int32.le_iff_toInt_le, t4]; omega)] at e
    unfold f_X12_forkLine_J16 at e
    replace e := ms_bE e
    obtain ⟨σ0, e0, e⟩ := e
    obtain ⟨u1, u2, u3⟩ := v_mustk n hT.2.2.2.2.2 6 (by decide) σ0 e0
    rw [if_neg (by rw [u1]; decide)] at e
    cases e
    unfold f_X3_readLine_J120 f_X3_readLine_J121
    exact r_bad n (rfr_tr rfr_sI (rfr_rdf hf2)) (hB _ u1 u2)
theorem r_freezeL (n : Nat) (hn : 70000 ≤ n) {α : hp_T} {rd w r : Nat} {f : Nat → Int32} {σ τ : ms_T} {t : Nat → Int32} {N q : Nat} (hS : RS α rd) (hT : TOK α rd σ t N q) (hqN : q < N) (hW : WR α w f) (hf : ms_E σ 40 = f) (hC : rC f) (hr : r < (f 0).toInt.toNat) (hrI : (ms_I σ 679).toInt = (r : Int))
    (e : (ms_g (3 : Int32) 1980 <| if (16 : Int32) ≤ (ms_E σ 40 ((3 : Int32)).toNatClampNeg) then f_X12_line_J107 n σ (0 : Int32) else f_X12_line_J107 n σ (1 : Int32)) = some τ) :
    ws (ms_l (hp_sI α 206 rd (3 : Int32)) fun αh24 => ms_l (hp_I αh24 554 w) fun x25 => hq_c (f_X3_hasRoom n αh24 rd x25 (16 : Int32)) fun rh26 αh26 => if rh26 = 0 then f_X3_readLine_J166 n rd αh26 else hq_c (f_X3_readSign n αh26 rd) fun rh30 αh30 => if rh30 = 0 then f_X3_readLine_J166 n rd αh30 else f_X3_readLine_J167 n rd αh30 (1 : Int32)) (LNR α rd w r f σ τ t N q) := by
  have t16 := t_16
  replace e := ms_gE e
  obtain ⟨-, e⟩ := e
  have h40 : ms_E σ 40 ((3 : Int32)).toNatClampNeg = f 3 := by rw [hf]; rfl
  rw [h40] at e
  refine ws_l (ws_l ?_)
  have e554 : hp_I (hp_sI α 206 rd 3) 554 w = f 3 := by rw [hI_sI, if_neg (fun h => absurd h.1 (by decide))]; exact hW.2.1.2.2.1
  rw [e554]
  have hT1 := TOK_sI (φ := 206) (v := 3) (by decide) hT
  have eR : hp_R (hp_sI α 206 rd 3) 200 rd = rd + 1 := hS.1
  refine ws_hc (r_room n hT1 eR (f 3) 16) (fun a β hab => ?_)
  by_cases h4 : (f 3).toInt < 16
  · obtain ⟨rfl, rfl⟩ := hab.1 (by omega)
    rw [if_neg (show ¬ (1 : Int32) = 0 by decide)]
    rw [if_neg (by rw [Int32.le_iff_toInt_le, t16]; omega)] at e
    unfold f_X12_line_J107 at e
    replace e := ms_bE e
    obtain ⟨σ0, e0, e⟩ := e
    have := v_must1 n σ 1 6 (by decide) σ0 e0
    subst this
    rw [if_pos hT.2.2.2.2.2] at e
    replace e := ms_bE e
    obtain ⟨σ1, e1, e⟩ := e
    obtain ⟨hP1, hg1⟩ := r_reads n hT1 hqN σ1 e1
    unfold f_X12_line_J123 at e
    replace e := ms_bE e
    obtain ⟨σ3, e3, e⟩ := e
    refine ws_hc (r_sign n hn hP1) (fun a3 γ h3 => ?_)
    obtain ⟨hf3, hg3, hc3⟩ := h3 _ e3
    rw [eR] at hf3
    have hF3 : rfr rd α γ := rfr_tr rfr_sI (rfr_rdf hf3)
    rcases hc3 with ⟨rfl, ⟨p3, hlt3, hP3⟩, hk3⟩ | ⟨rfl, hB⟩
    · rw [if_neg (show ¬ (1 : Int32) = 0 by decide)]
      rw [if_pos hP3.2.2.2.2.2] at e
      replace e := ms_cE e
      obtain ⟨v4, σ4, e4, e⟩ := e
      cases e
      have eE3 : ms_E σ3 40 = f := by funext j; rw [hg3.2 40 (by decide) j, hg1.2 40 (by decide) j, hf]
      have e679 : ms_I σ3 679 = ms_I σ0 679 := by rw [hg3.1 679 (by decide), hg1.1 679 (by decide)]
      have hv := (v_freezes n σ3 (by rw [eE3]; exact hC) r (by rw [eE3]; exact hr) (ms_I σ3 679) (by rw [e679]; exact hrI) _ e4).2
      rw [eE3] at hv
      obtain ⟨-, hv2, hv3⟩ := hv h4
      have hJ := j_freezes n (rfl : ms_J σ3 = ms_J σ3) (ms_I σ3 679) _ e4
      unfold f_X3_readLine_J167
      have hq1 := (tkN_le t hqN).1
      refine r_fin n hn hS hF3 (by omega) (PRE_fr hP3 hv3 (by decide) (by decide) hJ) (KF_tr (KF_s (by decide)) (KF_k hk3)) (fun δ hd hl => Or.inr (Or.inr (Or.inr (Or.inl ?_))))
      have i206 : hp_I γ 206 rd = 3 := by rw [rdf_k hf3 (by decide), hI_sI, if_pos ⟨rfl, rfl⟩]
      exact ⟨by rw [hl 206 (by decide)]; exact i206, h4, hv2, by rw [hv3.1 679 (by decide)]; exact e679⟩
    · rw [if_pos rfl]
      unfold f_X3_readLine_J166 f_X3_readLine_J167
      refine r_bad n hF3 ?_
      rw [if_neg (BAD_p hB)] at e
      cases e
      exact hB
  · obtain ⟨rfl, hf2, hB⟩ := hab.2 (by omega)
    rw [if_pos rfl]
    rw [if_pos (by rw [Int32.le_iff_toInt_le, t16]; omega)] at e
    unfold f_X12_line_J107 at e
    replace e := ms_bE e
    obtain ⟨σ0, e0, e⟩ := e
    obtain ⟨u1, u2, u3⟩ := v_mustk n hT.2.2.2.2.2 6 (by decide) σ0 e0
    rw [if_neg (by rw [u1]; decide)] at e
    unfold f_X12_line_J123 at e
    replace e := ms_bE e
    obtain ⟨σ3, e3, e⟩ := e
    have hB0 := hB σ0 u1 u2
    have hB3 := BAD_B hB0 (v_takesEnd_B n _ hB0.1 _ e3)
    rw [if_neg (BAD_p hB3)] at e
    cases e
    unfold f_X3_readLine_J166 f_X3_readLine_J167
    exact r_bad n (rfr_tr rfr_sI (rfr_rdf hf2)) hB3
/-- a line that shows: the class -/
theorem r_showL (n : Nat) (hn : 70000 ≤ n) {α : hp_T} {rd w r : Nat} {f : Nat → Int32} {σ τ : ms_T} {t : Nat → Int32} {N q : Nat} (hS : RS α rd) (hT : TOK α rd σ t N q) (hqN : q < N) (hW : WR α w f) (hf : ms_E σ 40 = f) (hC : rC f) (hr : r < (f 0).toInt.toNat) (hrI : (ms_I σ 679).toInt = (r : Int)) (hsp : spl t N q (wtx 5))
    (e : (ms_b (f_X12_takes n σ (5 : Int32)) fun σh9 => ms_c (f_X12_takesNumber n σh9 (0 : Int32) (3 : Int32)) fun rh10 σh10 => ms_b (f_X12_sizeOf n σh10 (ms_I σh10 679)) fun rh11 => ms_c (f_X12_takesNumber n σh10 (0 : Int32) rh11) fun rh12 σh12 => ms_b (f_X12_takesEnd n σh12) fun σh13 => if (ms_I σh13 670) = 0 then ms_c (f_X12_shows n σh13 rh10 (ms_I σh13 679) rh12) fun rh15 σh15 => some σh15 else some σh13) = some τ) :
    ws (hq_c (f_X3_readShow n α rd (lpA w r)) fun rh23 αh23 => f_X3_readLine_J197 n rd αh23 rh23) (LNR α rd w r f σ τ t N q) := by
  have hr4 : r < 4 := by have := hC.1; omega
  have hN := hT.2.1.1
  have t3 := t_3
  replace e := ms_bE e
  obtain ⟨σ1, e1, e⟩ := e
  unfold f_X12_takes at e1
  replace e1 := ms_bE e1
  obtain ⟨x1, e1a, e1⟩ := e1
  have hx1 : x1 = 1 := by
    rcases v_isWord n hT.2.2.2.2.1 (by have := hT.1; omega) hN 5 (by decide) 5 (by decide) x1 e1a with ⟨h, -⟩ | ⟨-, h⟩
    · exact h
    · exact absurd ⟨hT.2.2.2.2.2, hsp⟩ h
  subst hx1
  have hT1 := TOK_sI (φ := 206) (v := 4) (by decide) hT
  have hh : PRE (hp_sI α 206 rd 4) rd σ1 t N (tkN t N q) ∧ rg σ σ1 := r_must n hT1 1 (Or.inr rfl) (fun _ => hqN) (R := ms_T) (fun τ => PRE (hp_sI α 206 rd 4) rd τ t N (tkN t N q) ∧ rg σ τ) (fun _ τ a b => ⟨a, b⟩) (fun h => absurd h (by decide)) σ1 e1
  obtain ⟨hP1, hg1⟩ := hh
  replace e := ms_cE e
  obtain ⟨v, σ2, e2, e⟩ := e
  replace e := ms_bE e
  obtain ⟨sz, e2b, e⟩ := e
  replace e := ms_cE e
  obtain ⟨u, σ3, e3, e⟩ := e
  replace e := ms_bE e
  obtain ⟨σ4, e4, e⟩ := e
  have eE1 : ms_E σ1 40 = f := by rw [← hf]; funext j; exact hg1.2 40 (by decide) j
  have eR : hp_R (hp_sI α 206 rd 4) 200 rd = rd + 1 := hS.1
  unfold f_X3_readShow
  have hq1 := (tkN_le t hqN).1
  have hT2 : pr (f_X12_takesNumber n σ1 0 3) (fun res => rg σ1 res.2) := fun res hres => by
    obtain ⟨-, hg, -⟩ := (r_number n hn hP1 0 3 0 3 (fun _ _ _ => Iff.rfl)).choose_spec.2 res hres
    exact hg
  have hg2 := hT2 _ e2
  have e679 : ms_I σ2 679 = ms_I σ 679 := by rw [hg2.1 679 (by decide), hg1.1 679 (by decide)]
  have eE2 : ms_E σ2 40 = f := by funext j; rw [hg2.2 40 (by decide) j, eE1]
  have hsz := v_sizeOf n σ2 r hr4 (ms_I σ2 679) (by rw [e679]; exact hrI) sz e2b
  rw [eE2] at hsz
  subst hsz
  have hgo : ∀ a : Int32 × hp_T, rfr rd α a.2 ∧ ((a.1 = 0 ∧ BAD a.2 rd τ) ∨ (a.1 = 1 ∧ (∃ p, q < p ∧ PRE a.2 rd τ t N p) ∧ LNK a.2 rd w r f σ τ ∧ KF rd α a.2)) → ws (f_X3_readLine_J197 n rd a.2 a.1) (LNR α rd w r f σ τ t N q) := by
    intro a ha
    obtain ⟨a1, a2⟩ := a
    obtain ⟨hF, ⟨h0, hB⟩ | ⟨h1, ⟨p, hp, hP⟩, hK, hKF⟩⟩ := ha
    · dsimp only at h0
      subst h0
      exact r_bad n hF hB
    · dsimp only at h1
      subst h1
      refine r_fin n hn hS hF hp hP hKF (fun γ hg hl => ?_)
      rcases hK with ⟨k1, k2, ⟨l, k3, k4⟩, k5⟩ | k | k | k | k
      · exact Or.inl ⟨by rw [hl 206 (by decide)]; exact k1, k2, ⟨l, WD_rdf k3 hg, k4⟩, k5⟩
      · refine Or.inr (Or.inl ?_)
        rw [hl 206 (by decide), hl 209 (by decide)]; exact k
      · refine Or.inr (Or.inr (Or.inl ?_))
        rw [hl 206 (by decide), hl 209 (by decide)]; exact k
      · refine Or.inr (Or.inr (Or.inr (Or.inl ?_)))
        rw [hl 206 (by decide)]; exact k
      · refine Or.inr (Or.inr (Or.inr (Or.inr ?_)))
        rw [hl 206 (by decide), hl 208 (by decide), hl 209 (by decide)]; exact k
  refine ws_hc (T := fun a => rfr rd α a.2 ∧ ((a.1 = 0 ∧ BAD a.2 rd τ) ∨ (a.1 = 1 ∧ (∃ p, q < p ∧ PRE a.2 rd τ t N p) ∧ LNK a.2 rd w r f σ τ ∧ KF rd α a.2))) ?_ (fun a β h => hgo (a, β) h)
  refine ws_l (ws_hc (r_number n hn hP1 0 3 0 3 (fun _ _ _ => Iff.rfl)) (fun a β hab => ?_))
  obtain ⟨hf2, -, hc⟩ := hab _ e2
  rw [eR] at hf2
  have hF : rfr rd α β := rfr_tr rfr_sI (rfr_rdf hf2)
  rcases hc with ⟨rfl, ⟨p2, hlt2, hP2⟩, ev, v0, v1, v2, v3, hk2⟩ | ⟨rfl, hB⟩
  · replace v0 : 0 ≤ v.toInt := v0
    replace v3 : v.toInt ≤ (3 : Int32).toInt := v3
    refine ws_i (fun h => absurd h (by decide)) (fun _ => ws_l (ws_l (ws_l ?_)))
    have hP2' := PRE_sI (φ := 208) (v := hp_I β 209 rd) (by decide) hP2
    have eR2 : hp_R (hp_sI β 208 rd (hp_I β 209 rd)) 200 rd = rd + 1 := by show hp_R β 200 rd = _; rw [hF.1]; exact hS.1
    have e152 : hp_I (hp_sI β 208 rd (hp_I β 209 rd)) 152 (lpA w r) = f (72 + r) := by
      rw [hI_sI, if_neg (fun h => absurd h.1 (by decide)), hf2.2.2.2.2.2 152 _ (by omega) (by omega), hI_sI, if_neg (fun h => absurd h.1 (by decide))]
      exact WR_sz hW hr
    rw [e152]
    refine ws_hc (r_number n hn hP2' 0 (f (72 + r)) 0 (f (72 + r)) (fun _ _ _ => Iff.rfl)) (fun a3 γ h3 => ?_)
    obtain ⟨hf3, hg3, hc3⟩ := h3 _ e3
    rw [eR2] at hf3
    have hF3 : rfr rd α γ := rfr_tr hF (rfr_tr rfr_sI (rfr_rdf hf3))
    rcases hc3 with ⟨rfl, ⟨p3, hlt3, hP3⟩, eu, u0, u1, u2, u3, hk3⟩ | ⟨rfl, hB⟩
    · replace u0 : 0 ≤ u.toInt := u0
      replace u3 : u.toInt ≤ (f (72 + r)).toInt := u3
      refine ws_i (fun h => absurd h (by decide)) (fun _ => ?_)
      have eR3 : hp_R γ 200 rd = rd + 1 := by rw [hF3.1]; exact hS.1
      refine ws_hc (r_sign n hn hP3) (fun a4 δ h4 => ?_)
      obtain ⟨hf4, hg4, hc4⟩ := h4 _ e4
      rw [eR3] at hf4
      have hF4 : rfr rd α δ := rfr_tr hF3 (rfr_rdf hf4)
      rcases hc4 with ⟨rfl, ⟨p4, hlt4, hP4⟩, hk4⟩ | ⟨rfl, hB⟩
      · refine ws_i (fun h => absurd h (by decide)) (fun _ => ws_s ⟨hF4, Or.inr ⟨rfl, ?_⟩⟩)
        rw [if_pos hP4.2.2.2.2.2] at e
        replace e := ms_cE e
        obtain ⟨v5, σ5, e5, e⟩ := e
        cases e
        have eE4 : ms_E σ4 40 = f := by funext j; rw [hg4.2 40 (by decide) j, hg3.2 40 (by decide) j, eE2]
        have e679b : ms_I σ4 679 = ms_I σ 679 := by rw [hg4.1 679 (by decide), hg3.1 679 (by decide), e679]
        have hv := v_shows n σ4 (by rw [eE4]; exact hC) v.toInt.toNat r u.toInt.toNat (by omega) hr4 (by rw [eE4]; omega) v (ms_I σ4 679) u (by omega) (by rw [e679b]; exact hrI) (by omega) _ e5
        rw [eE4] at hv
        obtain ⟨-, hv2, hv3⟩ := hv
        have hJ := j_shows n (rfl : ms_J σ4 = ms_J σ4) v (ms_I σ4 679) u _ e5
        refine ⟨⟨p4, by omega, PRE_fr hP4 hv3 (by decide) (by decide) hJ⟩, Or.inr (Or.inr (Or.inr (Or.inr ?_))), KF_tr (KF_s (by decide)) (KF_tr (KF_n hk2) (KF_tr (KF_s (by decide)) (KF_tr (KF_n hk3) (KF_k hk4))))⟩
        have i209 : hp_I δ 209 rd = u := by rw [hk4 209 (by decide)]; exact eu
        have i208 : hp_I δ 208 rd = v := by rw [hk4 208 (by decide), rdf_k hf3 (by decide), hI_sI, if_pos ⟨rfl, rfl⟩]; exact ev
        have i206 : hp_I δ 206 rd = 4 := by rw [hk4 206 (by decide), rdf_k hf3 (by decide), hI_sI, if_neg (fun h => absurd h.1 (by decide)), rdf_k hf2 (by decide), hI_sI, if_pos ⟨rfl, rfl⟩]
        rw [i209, i208]
        exact ⟨i206, v0, by omega, u0, u3, hv2, by rw [hv3.1 679 (by decide)]; exact e679b⟩
      · refine ws_i (fun _ => ws_s ⟨hF4, Or.inl ⟨rfl, ?_⟩⟩) (fun h => absurd rfl h)
        rw [if_neg (BAD_p hB)] at e
        cases e
        exact hB
    · refine ws_i (fun _ => ws_s ⟨hF3, Or.inl ⟨rfl, ?_⟩⟩) (fun h => absurd rfl h)
      have hB3 := BAD_B hB (v_takesEnd_B n _ hB.1 _ e4)
      rw [if_neg (BAD_p hB3)] at e
      cases e
      exact hB3
  · refine ws_i (fun _ => ws_s ⟨hF, Or.inl ⟨rfl, ?_⟩⟩) (fun h => absurd rfl h)
    have hB2 : BAD β rd σ3 := BAD_B hB (v_takesNumber_B n _ _ _ hB.1 _ e3)
    have hB3 := BAD_B hB2 (v_takesEnd_B n _ hB2.1 _ e4)
    rw [if_neg (BAD_p hB3)] at e
    cases e
    exact hB3
theorem HWD_rg {σ τ : ms_T} {l : List Int32} (h : HWD σ l) (g : rg σ τ) : HWD τ l := ⟨h.1, by rw [g.1 665 (by decide)]; exact h.2.1, fun k hk => by rw [g.2 46 (by decide)]; exact h.2.2 k hk⟩
/-- a line that adds, from its sign on -/
theorem r_addE (n : Nat) (hn : 70000 ≤ n) {α β : hp_T} {rd w r : Nat} {f : Nat → Int32} {σ σ1 τ : ms_T} {t : Nat → Int32} {N q q1 : Nat} (hS : RS α rd) (hF : rfr rd α β) (hT : TOK β rd σ1 t N q1) (hq : q < q1) (hf : ms_E σ1 40 = f) (hC : rC f) (hr : r < (f 0).toInt.toNat) (hrI : (ms_I σ1 679).toInt = (r : Int)) (e679 : ms_I σ1 679 = ms_I σ 679) (h48 : (f (72 + r)).toInt < 48) (l : List Int32) (hW : WD β (rd + 9) l) (hH : HWD σ1 l) (h206 : hp_I β 206 rd = 0) (hKF : KF rd α β) (e : f_X12_addLine_J134 n σ1 = some τ) :
    ws (f_X3_readAdd_J81 n rd β) (fun a => rfr rd α a.2 ∧ ((a.1 = 0 ∧ BAD a.2 rd τ) ∨ (a.1 = 1 ∧ (∃ p, q < p ∧ PRE a.2 rd τ t N p) ∧ LNK a.2 rd w r f σ τ ∧ KF rd α a.2))) := by
  have hr4 : r < 4 := by have := hC.1; omega
  have h72 := hC.2.2.2.2.1 r hr4
  unfold f_X12_addLine_J134 at e
  replace e := ms_bE e
  obtain ⟨σ2, e2, e⟩ := e
  have eR : hp_R β 200 rd = rd + 1 := by rw [hF.1]; exact hS.1
  refine ws_m (r_end81 n hT eR) (fun a ha => ?_)
  obtain ⟨hf2, hg2, hc⟩ := ha _ e2
  refine ⟨rfr_tr hF (rfr_rdf hf2), ?_⟩
  rcases hc with ⟨h1, ⟨p, hp, hP⟩, ha2⟩ | ⟨h0, hB⟩
  · rw [if_pos hP.2.2.2.2.2] at e
    replace e := ms_cE e
    obtain ⟨v3, σ3, e3, e⟩ := e
    cases e
    have eE2 : ms_E σ2 40 = f := by funext j; rw [hg2.2 40 (by decide) j, hf]
    have hv := v_adds n σ2 (by rw [eE2]; exact hC) r (f (72 + r)).toInt.toNat hr4 (by omega) (by rw [eE2]; omega) l (HWD_rg hH hg2) (ms_I σ2 679) (by rw [hg2.1 679 (by decide)]; exact hrI) _ e3
    rw [eE2] at hv
    obtain ⟨-, hv2, hv3⟩ := hv
    have hJ := j_adds n (rfl : ms_J σ2 = ms_J σ2) (ms_I σ2 679) _ e3
    refine Or.inr ⟨h1, ⟨p, by omega, PRE_fr hP hv3 (by decide) (by decide) hJ⟩, Or.inl ?_, by rw [ha2]; exact hKF⟩
    rw [ha2]
    exact ⟨h206, h48, ⟨l, hW, (hv2 (by omega)).2⟩, by rw [hv3.1 679 (by decide), hg2.1 679 (by decide)]; exact e679⟩
  · refine Or.inl ⟨h0, ?_⟩
    rw [if_neg (BAD_p hB)] at e
    cases e
    exact hB
theorem r_addR (n : Nat) (hn : 70000 ≤ n) {α : hp_T} {rd w r : Nat} {f : Nat → Int32} {σ τ : ms_T} {t : Nat → Int32} {N q : Nat} (hS : RS α rd) (hT : TOK α rd σ t N q) (hqN : q < N) (hW : WR α w f) (hf : ms_E σ 40 = f) (hC : rC f) (hr : r < (f 0).toInt.toNat) (hrI : (ms_I σ 679).toInt = (r : Int)) (e : f_X12_addLine n σ = some τ) :
    ws (f_X3_readAdd n α rd (lpA w r)) (fun a => rfr rd α a.2 ∧ ((a.1 = 0 ∧ BAD a.2 rd τ) ∨ (a.1 = 1 ∧ (∃ p, q < p ∧ PRE a.2 rd τ t N p) ∧ LNK a.2 rd w r f σ τ ∧ KF rd α a.2))) := by
  have hr4 : r < 4 := by have := hC.1; omega
  have t48 := t_48
  have t8 := t_8
  have hq1 := tkN_le t hqN
  have hN := hT.2.1.1
  unfold f_X12_addLine at e
  replace e := ms_bE e
  obtain ⟨sz, ez, e⟩ := e
  have hsz := v_sizeOf n σ r hr4 (ms_I σ 679) hrI sz ez
  rw [hf] at hsz
  subst hsz
  unfold f_X3_readAdd
  refine ws_l (ws_l ?_)
  have e152 : hp_I (hp_sI α 206 rd 0) 152 (lpA w r) = f (72 + r) := by rw [hI_sI, if_neg (fun h => absurd h.1 (by decide))]; exact WR_sz hW hr
  rw [e152]
  have hT1 := TOK_sI (φ := 206) (v := 0) (by decide) hT
  have eR : hp_R (hp_sI α 206 rd 0) 200 rd = rd + 1 := hS.1
  refine ws_hc (r_room n hT1 eR (f (72 + r)) 48) (fun a β hab => ?_)
  by_cases h4 : (f (72 + r)).toInt < 48
  · obtain ⟨h1, h2⟩ := hab.1 (by omega)
    dsimp only at h1 h2
    subst h1
    subst h2
    refine ws_i (fun h => absurd h (by decide)) (fun _ => ws_l ?_)
    rw [if_neg (by rw [Int32.le_iff_toInt_le, t48]; omega)] at e
    unfold f_X12_addLine_J19 at e
    replace e := ms_bE e
    obtain ⟨σ0, e0, e⟩ := e
    have hσ0 : σ0 = σ := v_must1 n σ 1 6 (by decide) σ0 e0
    rw [hσ0] at e
    clear hσ0 e0
    rw [if_pos (by rw [hT.2.2.2.2.2]; decide)] at e
    replace e := ms_bE e
    obtain ⟨σ1, e1, e⟩ := e
    obtain ⟨hP1, hg1⟩ := r_reads n hT1 hqN σ1 e1
    replace e := ms_lE rfl e
    have hS1 : RS (hp_sI α 206 rd 0) rd := RS_R hS rfl
    have eW : hp_R (hp_sI α 206 rd 0) 207 rd = rd + 9 := hS.2.1
    rw [eW]
    refine ws_b (k_wclear n _ (rd + 9)) (fun β hβ => ws_l ?_)
    have hFβ : rfr rd α β := rfr_tr rfr_sI (rfr_df hS1 hβ.2)
    have hP1' : PRE β rd (ms_sI σ1 665 0) t N (tkN t N q) := PRE_fr (wI := [665]) (wE := []) (PRE_df hP1 hβ.2) (fr_sI (by decide)) (by decide) (by decide) rfl
    have eRβ : hp_R β 200 rd = rd + 1 := by rw [hFβ.1]; exact hS.1
    refine ws_b (r_adv n hn hP1') (fun γ hγ => ws_l (ws_l ?_))
    obtain ⟨hT2, hf2, hk2⟩ := hγ
    rw [eRβ] at hf2
    have hFγ : rfr rd α γ := rfr_tr hFβ (rfr_rdf hf2)
    have eRγ : hp_R γ 200 rd = rd + 1 := by rw [hFγ.1]; exact hS.1
    obtain ⟨q2, hq2⟩ : ∃ q2, q2 = tkP t N (tkN t N q) := ⟨_, rfl⟩
    rw [← hq2] at hT2
    have hq2l : tkN t N q ≤ q2 := by rw [hq2]; exact (ru_le isB t (N - tkN t N q) (tkN t N q)).1
    have i206 : hp_I γ 206 rd = 0 := by rw [hk2 206 (by decide), hβ.2.2.2.2.2.1 206 rd (fun h => absurd h.2 (by decide)), hI_sI, if_pos ⟨rfl, rfl⟩]
    have hwγ : WD γ (rd + 9) [] := WD_rdf hβ.1 hf2
    have hKγ : KF rd α γ := KF_tr (KF_s (φ := 206) (v := 0) (by decide)) (KF_tr (β := β) (KF_k (fun φ hφ => hβ.2.2.2.2.2.1 φ rd (by omega))) (KF_k (fun φ hφ => hk2 φ hφ rd)))
    have eE1 : ms_E (ms_sI σ1 665 0) 40 = f := by rw [← hf]; funext j; exact hg1.2 40 (by decide) j
    have e679 : ms_I (ms_sI σ1 665 0) 679 = ms_I σ 679 := by rw [mI_sI, if_neg (by decide)]; exact hg1.1 679 (by decide)
    obtain ⟨k1, k2, k3, k4, k5, k6⟩ := id hT2
    refine ws_i (fun e353 => ?_) (fun e353 => ?_)
    · have hs : tkS t N q2 = 1 := k3.2.1.symm.trans e353
      have hq2N : q2 < N := q_lt hs (by decide)
      have hw := tk_word (tkS_1 hs)
      have hb2 := tkN_le t hq2N
      obtain ⟨m, hm⟩ : ∃ m, m = tkN t N q2 - q2 := ⟨_, rfl⟩
      rw [if_pos (k5.2.1.trans hs)] at e
      have h355 : (hp_I γ 355 (hp_R γ 200 rd)).toInt = (m : Int) := by rw [k3.2.2.2.1, if_neg (by omega)]; omega
      have h673 : (ms_I (ms_sI σ1 665 0) 673 - ms_I (ms_sI σ1 665 0) 672).toInt = (m : Int) := by
        rw [ii_sub (by rw [k5.2.2.1, k5.1]; omega) (by rw [k5.2.2.1, k5.1]; omega), k5.2.2.1, k5.1]; omega
      refine ws_l (ws_l (ws_le (fun hle => ?_) (fun hgt => ?_)))
      · have hm8 : m ≤ 8 := by omega
        rw [if_neg (by rw [Int32.lt_iff_toInt_lt, t8, h673]; omega)] at e
        unfold f_X12_addLine_J69 at e
        replace e := ms_bE e
        obtain ⟨σ2, e2, e⟩ := e
        have hσ2 : σ2 = ms_sI σ1 665 0 := v_must1 n _ 1 4 (by decide) σ2 e2
        rw [hσ2] at e
        clear hσ2 e2
        rw [if_pos (by rw [k6]; decide)] at e
        replace e := ms_lE rfl e
        refine ws_l (ws_l ?_)
        have eWγ : hp_R γ 207 rd = rd + 9 := by rw [hFγ.1]; exact hS.2.1
        rw [eWγ]
        refine ws_b (k_copyWord n hn (wd := rd + 9) k2 k3.1 h355 hm8 (by omega) (fun j hj => hw.2.2 j (by omega))) (fun δ hδ => ws_l ?_)
        have hSγ : RS γ rd := RS_R hS hFγ.1
        have hFδ : rfr rd α δ := rfr_tr hFγ (rfr_df hSγ hδ.2)
        have eRδ : hp_R δ 200 rd = rd + 1 := by rw [hFδ.1]; exact hS.1
        have hgo : ∀ ρ : ms_T, HWD ρ (lw t q2 m) → fr [] [46] (ms_sI (ms_sI σ1 665 0) 665 (ms_I (ms_sI σ1 665 0) 673 - ms_I (ms_sI σ1 665 0) 672)) ρ → ms_J ρ = ms_J (ms_sI (ms_sI σ1 665 0) 665 (ms_I (ms_sI σ1 665 0) 673 - ms_I (ms_sI σ1 665 0) 672)) → pr (ms_b (f_X12_reads n ρ) fun σ => f_X12_addLine_J134 n σ) (fun τ => ∃ σ4 q4, f_X12_addLine_J134 n σ4 = some τ ∧ (q2 < q4 ∧ PRE δ rd σ4 t N q4) ∧ HWD σ4 (lw t q2 m) ∧ ms_E σ4 40 = f ∧ ms_I σ4 679 = ms_I σ 679) := by
          intro ρ hH hfr hJ
          have hTρ : TOK δ rd ρ t N q2 := TOK_m (wI := [665]) (wE := [46]) (TOK_df hT2 hδ.2) (fr_tr (fr_sI (by decide)) (fr_sb hfr (by decide) (by decide))) (by decide) (by decide) hJ
          refine pr_b (r_reads n hTρ hq2N) (fun σ4 h4 => fun τ e4 => ⟨σ4, _, e4, ⟨by omega, h4.1⟩, HWD_rg hH h4.2, ?_, ?_⟩)
          · funext j
            rw [h4.2.2 40 (by decide) j, hfr.2 40 (by decide) j, mE_sI, eE1]
          · rw [h4.2.1 679 (by decide), hfr.1 679 (by decide), mI_sI, if_neg (by decide)]; exact e679
        have hB1 : RB (ms_sI (ms_sI σ1 665 0) 665 (ms_I (ms_sI σ1 665 0) 673 - ms_I (ms_sI σ1 665 0) 672)) t N := ⟨k4.1, k4.2.1, k4.2.2⟩
        obtain ⟨σ4, q4, e4, ⟨hq4, hP4⟩, hH4, eE4, e6794⟩ := v_addLine_L n hm8 (by omega) _ _ hgo n 0 0 _ hB1 k5.1 (by rw [mI_sI, if_pos rfl]; exact h673) (fun j hj => by omega) fr_rf rfl (by decide) (by omega) τ e
        refine ws_b (r_adv n hn hP4) (fun ε hε => ?_)
        obtain ⟨hT5, hf5, hk5⟩ := hε
        rw [eRδ] at hf5
        have hl5 : q4 ≤ tkP t N q4 := (ru_le isB t (N - q4) q4).1
        exact r_addE n hn hS (rfr_tr hFδ (rfr_rdf hf5)) hT5 (by omega) eE4 hC hr (by rw [e6794]; exact hrI) e6794 h4 _ (WD_rdf hδ.1 hf5) hH4 (by rw [hk5 206 (by decide), hδ.2.2.2.2.2.1 206 rd (fun h => absurd h.2 (by decide))]; exact i206) (KF_tr hKγ (KF_tr (β := δ) (KF_k (fun φ hφ => hδ.2.2.2.2.2.1 φ rd (by omega))) (KF_k (fun φ hφ => hk5 φ hφ rd)))) e4
      · have hm8 : 8 < m := by omega
        rw [if_pos (by rw [Int32.lt_iff_toInt_lt, t8, h673]; omega)] at e
        unfold f_X12_addLine_J69 at e
        replace e := ms_bE e
        obtain ⟨σ2, e2, e⟩ := e
        obtain ⟨u1, u2, u3⟩ := v_mustk n k6 4 (by decide) σ2 e2
        rw [if_neg (by rw [u1]; decide)] at e
        cases e
        refine ws_hc (k_fail n γ rd 4) (fun a5 δ h5 => ws_z (Or.inl h5.1) (ws_s ?_))
        obtain ⟨g1, g2, g3, g4⟩ := h5
        rw [eRγ] at g4
        refine ⟨rfr_tr hFγ (rfr_rdf g4), Or.inl ⟨g1, by rw [u1]; decide, by rw [u1]; exact g2, ?_⟩⟩
        rw [g3, u2]
        exact Int32.toInt_inj.mp (by rw [k3.1, k5.1])
    · rw [if_neg (fun h => e353 (k3.2.1.trans (k5.2.1.symm.trans h)))] at e
      exact r_addE n hn hS hFγ hT2 (by omega) eE1 hC hr (by rw [e679]; exact hrI) e679 h4 [] hwγ ⟨by decide, by rw [mI_sI, if_pos rfl]; decide, fun k hk => absurd hk (by simp)⟩ i206 hKγ e
  · obtain ⟨h1, hf2, hB⟩ := hab.2 (by omega)
    rw [if_pos (by rw [Int32.le_iff_toInt_le, t48]; omega)] at e
    unfold f_X12_addLine_J19 at e
    replace e := ms_bE e
    obtain ⟨σ0, e0, e⟩ := e
    obtain ⟨u1, u2, u3⟩ := v_mustk n hT.2.2.2.2.2 6 (by decide) σ0 e0
    rw [if_neg (by rw [u1]; decide)] at e
    cases e
    exact ws_i (fun _ => ws_s ⟨rfr_tr rfr_sI (rfr_rdf hf2), Or.inl ⟨rfl, hB _ u1 u2⟩⟩) (fun h => absurd h1 h)
end JN9_15
