section JN1_0
theorem tmd {α : Type} {a : α} : ∀ (n : Nat) (l : List α), a ∈ l.drop n → a ∈ l
  | 0, _, h => h
  | _ + 1, [], h => h
  | n + 1, _ :: t, h => List.mem_cons_of_mem _ (tmd n t h)
theorem ta_1 {w : Cond} (h : w ∈ tables_1_1) : w ∈ tables_1 := List.mem_append_left _ h
theorem ta_2 {w : Cond} (h : w ∈ tables_1_2) : w ∈ tables_1 := List.mem_append_right _ (List.mem_append_left _ h)
theorem ta_3 {w : Cond} (h : w ∈ tables_1_3) : w ∈ tables_1 := List.mem_append_right _ (List.mem_append_right _ (List.mem_append_left _ h))
theorem ta_4 {w : Cond} (h : w ∈ tables_1_4) : w ∈ tables_1 := List.mem_append_right _ (List.mem_append_right _ (List.mem_append_right _ (List.mem_append_left _ h)))
theorem ta_5 {w : Cond} (h : w ∈ tables_1_5) : w ∈ tables_1 := List.mem_append_right _ (List.mem_append_right _ (List.mem_append_right _ (List.mem_append_right _ (List.mem_append_left _ h))))
theorem ta_6 {w : Cond} (h : w ∈ tables_1_6) : w ∈ tables_1 := List.mem_append_right _ (List.mem_append_right _ (List.mem_append_right _ (List.mem_append_right _ (List.mem_append_right _ (List.mem_append_left _ h)))))
theorem ta_7 {w : Cond} (h : w ∈ tables_1_7) : w ∈ tables_1 := List.mem_append_right _ (List.mem_append_right _ (List.mem_append_right _ (List.mem_append_right _ (List.mem_append_right _ (List.mem_append_right _ (List.mem_append_left _ h))))))
theorem ta_8 {w : Cond} (h : w ∈ tables_1_8) : w ∈ tables_1 := List.mem_append_right _ (List.mem_append_right _ (List.mem_append_right _ (List.mem_append_right _ (List.mem_append_right _ (List.mem_append_right _ (List.mem_append_right _ (List.mem_append_left _ h)))))))
theorem ta_9 {w : Cond} (h : w ∈ tables_1_9) : w ∈ tables_1 := List.mem_append_right _ (List.mem_append_right _ (List.mem_append_right _ (List.mem_append_right _ (List.mem_append_right _ (List.mem_append_right _ (List.mem_append_right _ (List.mem_append_right _ (h))))))))
set_option maxRecDepth 100000 in
noncomputable def td_1_1 : { l : List Cond // List.drop 16 (tables_1_1) = l } := by
  constructor
  conv => lhs; whnf
theorem tt_1_1 {w : Cond} (h : w ∈ td_1_1.1) : w ∈ tables_1 := ta_1 (tmd 16 _ (by rw [td_1_1.2]; exact h))
set_option maxRecDepth 100000 in
noncomputable def td_1_2 : { l : List Cond // List.drop 16 (td_1_1.1) = l } := by
  constructor
  conv => lhs; whnf
theorem tt_1_2 {w : Cond} (h : w ∈ td_1_2.1) : w ∈ tables_1 := tt_1_1 (tmd 16 _ (by rw [td_1_2.2]; exact h))
set_option maxRecDepth 100000 in
noncomputable def td_1_3 : { l : List Cond // List.drop 16 (td_1_2.1) = l } := by
  constructor
  conv => lhs; whnf
theorem tt_1_3 {w : Cond} (h : w ∈ td_1_3.1) : w ∈ tables_1 := tt_1_2 (tmd 16 _ (by rw [td_1_3.2]; exact h))
set_option maxRecDepth 100000 in
noncomputable def td_1_4 : { l : List Cond // List.drop 16 (td_1_3.1) = l } := by
  constructor
  conv => lhs; whnf
theorem tt_1_4 {w : Cond} (h : w ∈ td_1_4.1) : w ∈ tables_1 := tt_1_3 (tmd 16 _ (by rw [td_1_4.2]; exact h))
set_option maxRecDepth 100000 in
noncomputable def td_1_5 : { l : List Cond // List.drop 16 (td_1_4.1) = l } := by
  constructor
  conv => lhs; whnf
theorem tt_1_5 {w : Cond} (h : w ∈ td_1_5.1) : w ∈ tables_1 := tt_1_4 (tmd 16 _ (by rw [td_1_5.2]; exact h))
set_option maxRecDepth 100000 in
noncomputable def td_1_6 : { l : List Cond // List.drop 16 (td_1_5.1) = l } := by
  constructor
  conv => lhs; whnf
theorem tt_1_6 {w : Cond} (h : w ∈ td_1_6.1) : w ∈ tables_1 := tt_1_5 (tmd 16 _ (by rw [td_1_6.2]; exact h))
set_option maxRecDepth 100000 in
noncomputable def td_1_7 : { l : List Cond // List.drop 16 (td_1_6.1) = l } := by
  constructor
  conv => lhs; whnf
theorem tt_1_7 {w : Cond} (h : w ∈ td_1_7.1) : w ∈ tables_1 := tt_1_6 (tmd 16 _ (by rw [td_1_7.2]; exact h))
set_option maxRecDepth 100000 in
noncomputable def td_1_8 : { l : List Cond // List.drop 16 (td_1_7.1) = l } := by
  constructor
  conv => lhs; whnf
theorem tt_1_8 {w : Cond} (h : w ∈ td_1_8.1) : w ∈ tables_1 := tt_1_7 (tmd 16 _ (by rw [td_1_8.2]; exact h))
set_option maxRecDepth 100000 in
noncomputable def td_1_9 : { l : List Cond // List.drop 16 (td_1_8.1) = l } := by
  constructor
  conv => lhs; whnf
theorem tt_1_9 {w : Cond} (h : w ∈ td_1_9.1) : w ∈ tables_1 := tt_1_8 (tmd 16 _ (by rw [td_1_9.2]; exact h))
set_option maxRecDepth 100000 in
noncomputable def td_1_10 : { l : List Cond // List.drop 16 (td_1_9.1) = l } := by
  constructor
  conv => lhs; whnf
theorem tt_1_10 {w : Cond} (h : w ∈ td_1_10.1) : w ∈ tables_1 := tt_1_9 (tmd 16 _ (by rw [td_1_10.2]; exact h))
set_option maxRecDepth 100000 in
noncomputable def td_1_11 : { l : List Cond // List.drop 16 (td_1_10.1) = l } := by
  constructor
  conv => lhs; whnf
theorem tt_1_11 {w : Cond} (h : w ∈ td_1_11.1) : w ∈ tables_1 := tt_1_10 (tmd 16 _ (by rw [td_1_11.2]; exact h))
set_option maxRecDepth 100000 in
noncomputable def td_1_12 : { l : List Cond // List.drop 16 (td_1_11.1) = l } := by
  constructor
  conv => lhs; whnf
theorem tt_1_12 {w : Cond} (h : w ∈ td_1_12.1) : w ∈ tables_1 := tt_1_11 (tmd 16 _ (by rw [td_1_12.2]; exact h))
set_option maxRecDepth 100000 in
noncomputable def td_1_13 : { l : List Cond // List.drop 16 (td_1_12.1) = l } := by
  constructor
  conv => lhs; whnf
theorem tt_1_13 {w : Cond} (h : w ∈ td_1_13.1) : w ∈ tables_1 := tt_1_12 (tmd 16 _ (by rw [td_1_13.2]; exact h))
set_option maxRecDepth 100000 in
noncomputable def td_1_14 : { l : List Cond // List.drop 16 (td_1_13.1) = l } := by
  constructor
  conv => lhs; whnf
theorem tt_1_14 {w : Cond} (h : w ∈ td_1_14.1) : w ∈ tables_1 := tt_1_13 (tmd 16 _ (by rw [td_1_14.2]; exact h))
set_option maxRecDepth 100000 in
noncomputable def td_2_1 : { l : List Cond // List.drop 16 (tables_1_2) = l } := by
  constructor
  conv => lhs; whnf
theorem tt_2_1 {w : Cond} (h : w ∈ td_2_1.1) : w ∈ tables_1 := ta_2 (tmd 16 _ (by rw [td_2_1.2]; exact h))
set_option maxRecDepth 100000 in
noncomputable def td_2_2 : { l : List Cond // List.drop 16 (td_2_1.1) = l } := by
  constructor
  conv => lhs; whnf
theorem tt_2_2 {w : Cond} (h : w ∈ td_2_2.1) : w ∈ tables_1 := tt_2_1 (tmd 16 _ (by rw [td_2_2.2]; exact h))
set_option maxRecDepth 100000 in
noncomputable def td_2_3 : { l : List Cond // List.drop 16 (td_2_2.1) = l } := by
  constructor
  conv => lhs; whnf
theorem tt_2_3 {w : Cond} (h : w ∈ td_2_3.1) : w ∈ tables_1 := tt_2_2 (tmd 16 _ (by rw [td_2_3.2]; exact h))
set_option maxRecDepth 100000 in
noncomputable def td_2_4 : { l : List Cond // List.drop 16 (td_2_3.1) = l } := by
  constructor
  conv => lhs; whnf
theorem tt_2_4 {w : Cond} (h : w ∈ td_2_4.1) : w ∈ tables_1 := tt_2_3 (tmd 16 _ (by rw [td_2_4.2]; exact h))
set_option maxRecDepth 100000 in
noncomputable def td_2_5 : { l : List Cond // List.drop 16 (td_2_4.1) = l } := by
  constructor
  conv => lhs; whnf
theorem tt_2_5 {w : Cond} (h : w ∈ td_2_5.1) : w ∈ tables_1 := tt_2_4 (tmd 16 _ (by rw [td_2_5.2]; exact h))
set_option maxRecDepth 100000 in
noncomputable def td_2_6 : { l : List Cond // List.drop 16 (td_2_5.1) = l } := by
  constructor
  conv => lhs; whnf
theorem tt_2_6 {w : Cond} (h : w ∈ td_2_6.1) : w ∈ tables_1 := tt_2_5 (tmd 16 _ (by rw [td_2_6.2]; exact h))
set_option maxRecDepth 100000 in
noncomputable def td_2_7 : { l : List Cond // List.drop 16 (td_2_6.1) = l } := by
  constructor
  conv => lhs; whnf
theorem tt_2_7 {w : Cond} (h : w ∈ td_2_7.1) : w ∈ tables_1 := tt_2_6 (tmd 16 _ (by rw [td_2_7.2]; exact h))
set_option maxRecDepth 100000 in
noncomputable def td_2_8 : { l : List Cond // List.drop 16 (td_2_7.1) = l } := by
  constructor
  conv => lhs; whnf
theorem tt_2_8 {w : Cond} (h : w ∈ td_2_8.1) : w ∈ tables_1 := tt_2_7 (tmd 16 _ (by rw [td_2_8.2]; exact h))
set_option maxRecDepth 100000 in
noncomputable def td_2_9 : { l : List Cond // List.drop 16 (td_2_8.1) = l } := by
  constructor
  conv => lhs; whnf
theorem tt_2_9 {w : Cond} (h : w ∈ td_2_9.1) : w ∈ tables_1 := tt_2_8 (tmd 16 _ (by rw [td_2_9.2]; exact h))
set_option maxRecDepth 100000 in
noncomputable def td_2_10 : { l : List Cond // List.drop 16 (td_2_9.1) = l } := by
  constructor
  conv => lhs; whnf
theorem tt_2_10 {w : Cond} (h : w ∈ td_2_10.1) : w ∈ tables_1 := tt_2_9 (tmd 16 _ (by rw [td_2_10.2]; exact h))
set_option maxRecDepth 100000 in
noncomputable def td_2_11 : { l : List Cond // List.drop 16 (td_2_10.1) = l } := by
  constructor
  conv => lhs; whnf
theorem tt_2_11 {w : Cond} (h : w ∈ td_2_11.1) : w ∈ tables_1 := tt_2_10 (tmd 16 _ (by rw [td_2_11.2]; exact h))
set_option maxRecDepth 100000 in
noncomputable def td_2_12 : { l : List Cond // List.drop 16 (td_2_11.1) = l } := by
  constructor
  conv => lhs; whnf
theorem tt_2_12 {w : Cond} (h : w ∈ td_2_12.1) : w ∈ tables_1 := tt_2_11 (tmd 16 _ (by rw [td_2_12.2]; exact h))
set_option maxRecDepth 100000 in
noncomputable def td_2_13 : { l : List Cond // List.drop 16 (td_2_12.1) = l } := by
  constructor
  conv => lhs; whnf
theorem tt_2_13 {w : Cond} (h : w ∈ td_2_13.1) : w ∈ tables_1 := tt_2_12 (tmd 16 _ (by rw [td_2_13.2]; exact h))
set_option maxRecDepth 100000 in
noncomputable def td_2_14 : { l : List Cond // List.drop 16 (td_2_13.1) = l } := by
  constructor
  conv => lhs; whnf
theorem tt_2_14 {w : Cond} (h : w ∈ td_2_14.1) : w ∈ tables_1 := tt_2_13 (tmd 16 _ (by rw [td_2_14.2]; exact h))
set_option maxRecDepth 100000 in
noncomputable def td_3_1 : { l : List Cond // List.drop 16 (tables_1_3) = l } := by
  constructor
  conv => lhs; whnf
theorem tt_3_1 {w : Cond} (h : w ∈ td_3_1.1) : w ∈ tables_1 := ta_3 (tmd 16 _ (by rw [td_3_1.2]; exact h))
set_option maxRecDepth 100000 in
noncomputable def td_3_2 : { l : List Cond // List.drop 16 (td_3_1.1) = l } := by
  constructor
  conv => lhs; whnf
theorem tt_3_2 {w : Cond} (h : w ∈ td_3_2.1) : w ∈ tables_1 := tt_3_1 (tmd 16 _ (by rw [td_3_2.2]; exact h))
set_option maxRecDepth 100000 in
noncomputable def td_3_3 : { l : List Cond // List.drop 16 (td_3_2.1) = l } := by
  constructor
  conv => lhs; whnf
theorem tt_3_3 {w : Cond} (h : w ∈ td_3_3.1) : w ∈ tables_1 := tt_3_2 (tmd 16 _ (by rw [td_3_3.2]; exact h))
set_option maxRecDepth 100000 in
noncomputable def td_3_4 : { l : List Cond // List.drop 16 (td_3_3.1) = l } := by
  constructor
  conv => lhs; whnf
theorem tt_3_4 {w : Cond} (h : w ∈ td_3_4.1) : w ∈ tables_1 := tt_3_3 (tmd 16 _ (by rw [td_3_4.2]; exact h))
set_option maxRecDepth 100000 in
noncomputable def td_3_5 : { l : List Cond // List.drop 16 (td_3_4.1) = l } := by
  constructor
  conv => lhs; whnf
theorem tt_3_5 {w : Cond} (h : w ∈ td_3_5.1) : w ∈ tables_1 := tt_3_4 (tmd 16 _ (by rw [td_3_5.2]; exact h))
set_option maxRecDepth 100000 in
noncomputable def td_3_6 : { l : List Cond // List.drop 16 (td_3_5.1) = l } := by
  constructor
  conv => lhs; whnf
theorem tt_3_6 {w : Cond} (h : w ∈ td_3_6.1) : w ∈ tables_1 := tt_3_5 (tmd 16 _ (by rw [td_3_6.2]; exact h))
set_option maxRecDepth 100000 in
noncomputable def td_3_7 : { l : List Cond // List.drop 16 (td_3_6.1) = l } := by
  constructor
  conv => lhs; whnf
theorem tt_3_7 {w : Cond} (h : w ∈ td_3_7.1) : w ∈ tables_1 := tt_3_6 (tmd 16 _ (by rw [td_3_7.2]; exact h))
set_option maxRecDepth 100000 in
noncomputable def td_3_8 : { l : List Cond // List.drop 16 (td_3_7.1) = l } := by
  constructor
  conv => lhs; whnf
theorem tt_3_8 {w : Cond} (h : w ∈ td_3_8.1) : w ∈ tables_1 := tt_3_7 (tmd 16 _ (by rw [td_3_8.2]; exact h))
set_option maxRecDepth 100000 in
noncomputable def td_3_9 : { l : List Cond // List.drop 16 (td_3_8.1) = l } := by
  constructor
  conv => lhs; whnf
theorem tt_3_9 {w : Cond} (h : w ∈ td_3_9.1) : w ∈ tables_1 := tt_3_8 (tmd 16 _ (by rw [td_3_9.2]; exact h))
set_option maxRecDepth 100000 in
noncomputable def td_3_10 : { l : List Cond // List.drop 16 (td_3_9.1) = l } := by
  constructor
  conv => lhs; whnf
theorem tt_3_10 {w : Cond} (h : w ∈ td_3_10.1) : w ∈ tables_1 := tt_3_9 (tmd 16 _ (by rw [td_3_10.2]; exact h))
set_option maxRecDepth 100000 in
noncomputable def td_3_11 : { l : List Cond // List.drop 16 (td_3_10.1) = l } := by
  constructor
  conv => lhs; whnf
theorem tt_3_11 {w : Cond} (h : w ∈ td_3_11.1) : w ∈ tables_1 := tt_3_10 (tmd 16 _ (by rw [td_3_11.2]; exact h))
set_option maxRecDepth 100000 in
noncomputable def td_3_12 : { l : List Cond // List.drop 16 (td_3_11.1) = l } := by
  constructor
  conv => lhs; whnf
theorem tt_3_12 {w : Cond} (h : w ∈ td_3_12.1) : w ∈ tables_1 := tt_3_11 (tmd 16 _ (by rw [td_3_12.2]; exact h))
set_option maxRecDepth 100000 in
noncomputable def td_3_13 : { l : List Cond // List.drop 16 (td_3_12.1) = l } := by
  constructor
  conv => lhs; whnf
theorem tt_3_13 {w : Cond} (h : w ∈ td_3_13.1) : w ∈ tables_1 := tt_3_12 (tmd 16 _ (by rw [td_3_13.2]; exact h))
set_option maxRecDepth 100000 in
noncomputable def td_3_14 : { l : List Cond // List.drop 16 (td_3_13.1) = l } := by
  constructor
  conv => lhs; whnf
theorem tt_3_14 {w : Cond} (h : w ∈ td_3_14.1) : w ∈ tables_1 := tt_3_13 (tmd 16 _ (by rw [td_3_14.2]; exact h))
set_option maxRecDepth 100000 in
noncomputable def td_4_1 : { l : List Cond // List.drop 16 (tables_1_4) = l } := by
  constructor
  conv => lhs; whnf
theorem tt_4_1 {w : Cond} (h : w ∈ td_4_1.1) : w ∈ tables_1 := ta_4 (tmd 16 _ (by rw [td_4_1.2]; exact h))
set_option maxRecDepth 100000 in
noncomputable def td_4_2 : { l : List Cond // List.drop 16 (td_4_1.1) = l } := by
  constructor
  conv => lhs; whnf
theorem tt_4_2 {w : Cond} (h : w ∈ td_4_2.1) : w ∈ tables_1 := tt_4_1 (tmd 16 _ (by rw [td_4_2.2]; exact h))
set_option maxRecDepth 100000 in
noncomputable def td_4_3 : { l : List Cond // List.drop 16 (td_4_2.1) = l } := by
  constructor
  conv => lhs; whnf
theorem tt_4_3 {w : Cond} (h : w ∈ td_4_3.1) : w ∈ tables_1 := tt_4_2 (tmd 16 _ (by rw [td_4_3.2]; exact h))
set_option maxRecDepth 100000 in
noncomputable def td_4_4 : { l : List Cond // List.drop 16 (td_4_3.1) = l } := by
  constructor
  conv => lhs; whnf
theorem tt_4_4 {w : Cond} (h : w ∈ td_4_4.1) : w ∈ tables_1 := tt_4_3 (tmd 16 _ (by rw [td_4_4.2]; exact h))
set_option maxRecDepth 100000 in
noncomputable def td_4_5 : { l : List Cond // List.drop 16 (td_4_4.1) = l } := by
  constructor
  conv => lhs; whnf
theorem tt_4_5 {w : Cond} (h : w ∈ td_4_5.1) : w ∈ tables_1 := tt_4_4 (tmd 16 _ (by rw [td_4_5.2]; exact h))
set_option maxRecDepth 100000 in
noncomputable def td_4_6 : { l : List Cond // List.drop 16 (td_4_5.1) = l } := by
  constructor
  conv => lhs; whnf
theorem tt_4_6 {w : Cond} (h : w ∈ td_4_6.1) : w ∈ tables_1 := tt_4_5 (tmd 16 _ (by rw [td_4_6.2]; exact h))
set_option maxRecDepth 100000 in
noncomputable def td_4_7 : { l : List Cond // List.drop 16 (td_4_6.1) = l } := by
  constructor
  conv => lhs; whnf
theorem tt_4_7 {w : Cond} (h : w ∈ td_4_7.1) : w ∈ tables_1 := tt_4_6 (tmd 16 _ (by rw [td_4_7.2]; exact h))
set_option maxRecDepth 100000 in
noncomputable def td_4_8 : { l : List Cond // List.drop 16 (td_4_7.1) = l } := by
  constructor
  conv => lhs; whnf
theorem tt_4_8 {w : Cond} (h : w ∈ td_4_8.1) : w ∈ tables_1 := tt_4_7 (tmd 16 _ (by rw [td_4_8.2]; exact h))
set_option maxRecDepth 100000 in
noncomputable def td_4_9 : { l : List Cond // List.drop 16 (td_4_8.1) = l } := by
  constructor
  conv => lhs; whnf
theorem tt_4_9 {w : Cond} (h : w ∈ td_4_9.1) : w ∈ tables_1 := tt_4_8 (tmd 16 _ (by rw [td_4_9.2]; exact h))
set_option maxRecDepth 100000 in
noncomputable def td_4_10 : { l : List Cond // List.drop 16 (td_4_9.1) = l } := by
  constructor
  conv => lhs; whnf
theorem tt_4_10 {w : Cond} (h : w ∈ td_4_10.1) : w ∈ tables_1 := tt_4_9 (tmd 16 _ (by rw [td_4_10.2]; exact h))
set_option maxRecDepth 100000 in
noncomputable def td_4_11 : { l : List Cond // List.drop 16 (td_4_10.1) = l } := by
  constructor
  conv => lhs; whnf
theorem tt_4_11 {w : Cond} (h : w ∈ td_4_11.1) : w ∈ tables_1 := tt_4_10 (tmd 16 _ (by rw [td_4_11.2]; exact h))
set_option maxRecDepth 100000 in
noncomputable def td_4_12 : { l : List Cond // List.drop 16 (td_4_11.1) = l } := by
  constructor
  conv => lhs; whnf
theorem tt_4_12 {w : Cond} (h : w ∈ td_4_12.1) : w ∈ tables_1 := tt_4_11 (tmd 16 _ (by rw [td_4_12.2]; exact h))
set_option maxRecDepth 100000 in
noncomputable def td_4_13 : { l : List Cond // List.drop 16 (td_4_12.1) = l } := by
  constructor
  conv => lhs; whnf
theorem tt_4_13 {w : Cond} (h : w ∈ td_4_13.1) : w ∈ tables_1 := tt_4_12 (tmd 16 _ (by rw [td_4_13.2]; exact h))
set_option maxRecDepth 100000 in
noncomputable def td_4_14 : { l : List Cond // List.drop 16 (td_4_13.1) = l } := by
  constructor
  conv => lhs; whnf
theorem tt_4_14 {w : Cond} (h : w ∈ td_4_14.1) : w ∈ tables_1 := tt_4_13 (tmd 16 _ (by rw [td_4_14.2]; exact h))
set_option maxRecDepth 100000 in
noncomputable def td_5_1 : { l : List Cond // List.drop 16 (tables_1_5) = l } := by
  constructor
  conv => lhs; whnf
theorem tt_5_1 {w : Cond} (h : w ∈ td_5_1.1) : w ∈ tables_1 := ta_5 (tmd 16 _ (by rw [td_5_1.2]; exact h))
set_option maxRecDepth 100000 in
noncomputable def td_5_2 : { l : List Cond // List.drop 16 (td_5_1.1) = l } := by
  constructor
  conv => lhs; whnf
theorem tt_5_2 {w : Cond} (h : w ∈ td_5_2.1) : w ∈ tables_1 := tt_5_1 (tmd 16 _ (by rw [td_5_2.2]; exact h))
set_option maxRecDepth 100000 in
noncomputable def td_5_3 : { l : List Cond // List.drop 16 (td_5_2.1) = l } := by
  constructor
  conv => lhs; whnf
theorem tt_5_3 {w : Cond} (h : w ∈ td_5_3.1) : w ∈ tables_1 := tt_5_2 (tmd 16 _ (by rw [td_5_3.2]; exact h))
set_option maxRecDepth 100000 in
noncomputable def td_5_4 : { l : List Cond // List.drop 16 (td_5_3.1) = l } := by
  constructor
  conv => lhs; whnf
theorem tt_5_4 {w : Cond} (h : w ∈ td_5_4.1) : w ∈ tables_1 := tt_5_3 (tmd 16 _ (by rw [td_5_4.2]; exact h))
set_option maxRecDepth 100000 in
noncomputable def td_5_5 : { l : List Cond // List.drop 16 (td_5_4.1) = l } := by
  constructor
  conv => lhs; whnf
theorem tt_5_5 {w : Cond} (h : w ∈ td_5_5.1) : w ∈ tables_1 := tt_5_4 (tmd 16 _ (by rw [td_5_5.2]; exact h))
set_option maxRecDepth 100000 in
noncomputable def td_5_6 : { l : List Cond // List.drop 16 (td_5_5.1) = l } := by
  constructor
  conv => lhs; whnf
theorem tt_5_6 {w : Cond} (h : w ∈ td_5_6.1) : w ∈ tables_1 := tt_5_5 (tmd 16 _ (by rw [td_5_6.2]; exact h))
set_option maxRecDepth 100000 in
noncomputable def td_5_7 : { l : List Cond // List.drop 16 (td_5_6.1) = l } := by
  constructor
  conv => lhs; whnf
theorem tt_5_7 {w : Cond} (h : w ∈ td_5_7.1) : w ∈ tables_1 := tt_5_6 (tmd 16 _ (by rw [td_5_7.2]; exact h))
set_option maxRecDepth 100000 in
noncomputable def td_5_8 : { l : List Cond // List.drop 16 (td_5_7.1) = l } := by
  constructor
  conv => lhs; whnf
theorem tt_5_8 {w : Cond} (h : w ∈ td_5_8.1) : w ∈ tables_1 := tt_5_7 (tmd 16 _ (by rw [td_5_8.2]; exact h))
set_option maxRecDepth 100000 in
noncomputable def td_5_9 : { l : List Cond // List.drop 16 (td_5_8.1) = l } := by
  constructor
  conv => lhs; whnf
theorem tt_5_9 {w : Cond} (h : w ∈ td_5_9.1) : w ∈ tables_1 := tt_5_8 (tmd 16 _ (by rw [td_5_9.2]; exact h))
set_option maxRecDepth 100000 in
noncomputable def td_5_10 : { l : List Cond // List.drop 16 (td_5_9.1) = l } := by
  constructor
  conv => lhs; whnf
theorem tt_5_10 {w : Cond} (h : w ∈ td_5_10.1) : w ∈ tables_1 := tt_5_9 (tmd 16 _ (by rw [td_5_10.2]; exact h))
set_option maxRecDepth 100000 in
noncomputable def td_5_11 : { l : List Cond // List.drop 16 (td_5_10.1) = l } := by
  constructor
  conv => lhs; whnf
theorem tt_5_11 {w : Cond} (h : w ∈ td_5_11.1) : w ∈ tables_1 := tt_5_10 (tmd 16 _ (by rw [td_5_11.2]; exact h))
set_option maxRecDepth 100000 in
noncomputable def td_5_12 : { l : List Cond // List.drop 16 (td_5_11.1) = l } := by
  constructor
  conv => lhs; whnf
theorem tt_5_12 {w : Cond} (h : w ∈ td_5_12.1) : w ∈ tables_1 := tt_5_11 (tmd 16 _ (by rw [td_5_12.2]; exact h))
set_option maxRecDepth 100000 in
noncomputable def td_5_13 : { l : List Cond // List.drop 16 (td_5_12.1) = l } := by
  constructor
  conv => lhs; whnf
theorem tt_5_13 {w : Cond} (h : w ∈ td_5_13.1) : w ∈ tables_1 := tt_5_12 (tmd 16 _ (by rw [td_5_13.2]; exact h))
set_option maxRecDepth 100000 in
noncomputable def td_5_14 : { l : List Cond // List.drop 16 (td_5_13.1) = l } := by
  constructor
  conv => lhs; whnf
theorem tt_5_14 {w : Cond} (h : w ∈ td_5_14.1) : w ∈ tables_1 := tt_5_13 (tmd 16 _ (by rw [td_5_14.2]; exact h))
set_option maxRecDepth 100000 in
noncomputable def td_6_1 : { l : List Cond // List.drop 16 (tables_1_6) = l } := by
  constructor
  conv => lhs; whnf
theorem tt_6_1 {w : Cond} (h : w ∈ td_6_1.1) : w ∈ tables_1 := ta_6 (tmd 16 _ (by rw [td_6_1.2]; exact h))
set_option maxRecDepth 100000 in
noncomputable def td_6_2 : { l : List Cond // List.drop 16 (td_6_1.1) = l } := by
  constructor
  conv => lhs; whnf
theorem tt_6_2 {w : Cond} (h : w ∈ td_6_2.1) : w ∈ tables_1 := tt_6_1 (tmd 16 _ (by rw [td_6_2.2]; exact h))
set_option maxRecDepth 100000 in
noncomputable def td_6_3 : { l : List Cond // List.drop 16 (td_6_2.1) = l } := by
  constructor
  conv => lhs; whnf
theorem tt_6_3 {w : Cond} (h : w ∈ td_6_3.1) : w ∈ tables_1 := tt_6_2 (tmd 16 _ (by rw [td_6_3.2]; exact h))
set_option maxRecDepth 100000 in
noncomputable def td_6_4 : { l : List Cond // List.drop 16 (td_6_3.1) = l } := by
  constructor
  conv => lhs; whnf
theorem tt_6_4 {w : Cond} (h : w ∈ td_6_4.1) : w ∈ tables_1 := tt_6_3 (tmd 16 _ (by rw [td_6_4.2]; exact h))
set_option maxRecDepth 100000 in
noncomputable def td_6_5 : { l : List Cond // List.drop 16 (td_6_4.1) = l } := by
  constructor
  conv => lhs; whnf
theorem tt_6_5 {w : Cond} (h : w ∈ td_6_5.1) : w ∈ tables_1 := tt_6_4 (tmd 16 _ (by rw [td_6_5.2]; exact h))
set_option maxRecDepth 100000 in
noncomputable def td_6_6 : { l : List Cond // List.drop 16 (td_6_5.1) = l } := by
  constructor
  conv => lhs; whnf
theorem tt_6_6 {w : Cond} (h : w ∈ td_6_6.1) : w ∈ tables_1 := tt_6_5 (tmd 16 _ (by rw [td_6_6.2]; exact h))
set_option maxRecDepth 100000 in
noncomputable def td_6_7 : { l : List Cond // List.drop 16 (td_6_6.1) = l } := by
  constructor
  conv => lhs; whnf
theorem tt_6_7 {w : Cond} (h : w ∈ td_6_7.1) : w ∈ tables_1 := tt_6_6 (tmd 16 _ (by rw [td_6_7.2]; exact h))
set_option maxRecDepth 100000 in
noncomputable def td_6_8 : { l : List Cond // List.drop 16 (td_6_7.1) = l } := by
  constructor
  conv => lhs; whnf
theorem tt_6_8 {w : Cond} (h : w ∈ td_6_8.1) : w ∈ tables_1 := tt_6_7 (tmd 16 _ (by rw [td_6_8.2]; exact h))
set_option maxRecDepth 100000 in
noncomputable def td_6_9 : { l : List Cond // List.drop 16 (td_6_8.1) = l } := by
  constructor
  conv => lhs; whnf
theorem tt_6_9 {w : Cond} (h : w ∈ td_6_9.1) : w ∈ tables_1 := tt_6_8 (tmd 16 _ (by rw [td_6_9.2]; exact h))
set_option maxRecDepth 100000 in
noncomputable def td_6_10 : { l : List Cond // List.drop 16 (td_6_9.1) = l } := by
  constructor
  conv => lhs; whnf
theorem tt_6_10 {w : Cond} (h : w ∈ td_6_10.1) : w ∈ tables_1 := tt_6_9 (tmd 16 _ (by rw [td_6_10.2]; exact h))
set_option maxRecDepth 100000 in
noncomputable def td_6_11 : { l : List Cond // List.drop 16 (td_6_10.1) = l } := by
  constructor
  conv => lhs; whnf
theorem tt_6_11 {w : Cond} (h : w ∈ td_6_11.1) : w ∈ tables_1 := tt_6_10 (tmd 16 _ (by rw [td_6_11.2]; exact h))
set_option maxRecDepth 100000 in
noncomputable def td_6_12 : { l : List Cond // List.drop 16 (td_6_11.1) = l } := by
  constructor
  conv => lhs; whnf
theorem tt_6_12 {w : Cond} (h : w ∈ td_6_12.1) : w ∈ tables_1 := tt_6_11 (tmd 16 _ (by rw [td_6_12.2]; exact h))
set_option maxRecDepth 100000 in
noncomputable def td_6_13 : { l : List Cond // List.drop 16 (td_6_12.1) = l } := by
  constructor
  conv => lhs; whnf
theorem tt_6_13 {w : Cond} (h : w ∈ td_6_13.1) : w ∈ tables_1 := tt_6_12 (tmd 16 _ (by rw [td_6_13.2]; exact h))
set_option maxRecDepth 100000 in
noncomputable def td_6_14 : { l : List Cond // List.drop 16 (td_6_13.1) = l } := by
  constructor
  conv => lhs; whnf
theorem tt_6_14 {w : Cond} (h : w ∈ td_6_14.1) : w ∈ tables_1 := tt_6_13 (tmd 16 _ (by rw [td_6_14.2]; exact h))
set_option maxRecDepth 100000 in
noncomputable def td_7_1 : { l : List Cond // List.drop 16 (tables_1_7) = l } := by
  constructor
  conv => lhs; whnf
theorem tt_7_1 {w : Cond} (h : w ∈ td_7_1.1) : w ∈ tables_1 := ta_7 (tmd 16 _ (by rw [td_7_1.2]; exact h))
set_option maxRecDepth 100000 in
noncomputable def td_7_2 : { l : List Cond // List.drop 16 (td_7_1.1) = l } := by
  constructor
  conv => lhs; whnf
theorem tt_7_2 {w : Cond} (h : w ∈ td_7_2.1) : w ∈ tables_1 := tt_7_1 (tmd 16 _ (by rw [td_7_2.2]; exact h))
set_option maxRecDepth 100000 in
noncomputable def td_7_3 : { l : List Cond // List.drop 16 (td_7_2.1) = l } := by
  constructor
  conv => lhs; whnf
theorem tt_7_3 {w : Cond} (h : w ∈ td_7_3.1) : w ∈ tables_1 := tt_7_2 (tmd 16 _ (by rw [td_7_3.2]; exact h))
set_option maxRecDepth 100000 in
noncomputable def td_7_4 : { l : List Cond // List.drop 16 (td_7_3.1) = l } := by
  constructor
  conv => lhs; whnf
theorem tt_7_4 {w : Cond} (h : w ∈ td_7_4.1) : w ∈ tables_1 := tt_7_3 (tmd 16 _ (by rw [td_7_4.2]; exact h))
set_option maxRecDepth 100000 in
noncomputable def td_7_5 : { l : List Cond // List.drop 16 (td_7_4.1) = l } := by
  constructor
  conv => lhs; whnf
theorem tt_7_5 {w : Cond} (h : w ∈ td_7_5.1) : w ∈ tables_1 := tt_7_4 (tmd 16 _ (by rw [td_7_5.2]; exact h))
set_option maxRecDepth 100000 in
noncomputable def td_7_6 : { l : List Cond // List.drop 16 (td_7_5.1) = l } := by
  constructor
  conv => lhs; whnf
theorem tt_7_6 {w : Cond} (h : w ∈ td_7_6.1) : w ∈ tables_1 := tt_7_5 (tmd 16 _ (by rw [td_7_6.2]; exact h))
set_option maxRecDepth 100000 in
noncomputable def td_7_7 : { l : List Cond // List.drop 16 (td_7_6.1) = l } := by
  constructor
  conv => lhs; whnf
theorem tt_7_7 {w : Cond} (h : w ∈ td_7_7.1) : w ∈ tables_1 := tt_7_6 (tmd 16 _ (by rw [td_7_7.2]; exact h))
set_option maxRecDepth 100000 in
noncomputable def td_7_8 : { l : List Cond // List.drop 16 (td_7_7.1) = l } := by
  constructor
  conv => lhs; whnf
theorem tt_7_8 {w : Cond} (h : w ∈ td_7_8.1) : w ∈ tables_1 := tt_7_7 (tmd 16 _ (by rw [td_7_8.2]; exact h))
set_option maxRecDepth 100000 in
noncomputable def td_7_9 : { l : List Cond // List.drop 16 (td_7_8.1) = l } := by
  constructor
  conv => lhs; whnf
theorem tt_7_9 {w : Cond} (h : w ∈ td_7_9.1) : w ∈ tables_1 := tt_7_8 (tmd 16 _ (by rw [td_7_9.2]; exact h))
set_option maxRecDepth 100000 in
noncomputable def td_7_10 : { l : List Cond // List.drop 16 (td_7_9.1) = l } := by
  constructor
  conv => lhs; whnf
theorem tt_7_10 {w : Cond} (h : w ∈ td_7_10.1) : w ∈ tables_1 := tt_7_9 (tmd 16 _ (by rw [td_7_10.2]; exact h))
set_option maxRecDepth 100000 in
noncomputable def td_7_11 : { l : List Cond // List.drop 16 (td_7_10.1) = l } := by
  constructor
  conv => lhs; whnf
theorem tt_7_11 {w : Cond} (h : w ∈ td_7_11.1) : w ∈ tables_1 := tt_7_10 (tmd 16 _ (by rw [td_7_11.2]; exact h))
set_option maxRecDepth 100000 in
noncomputable def td_7_12 : { l : List Cond // List.drop 16 (td_7_11.1) = l } := by
  constructor
  conv => lhs; whnf
theorem tt_7_12 {w : Cond} (h : w ∈ td_7_12.1) : w ∈ tables_1 := tt_7_11 (tmd 16 _ (by rw [td_7_12.2]; exact h))
set_option maxRecDepth 100000 in
noncomputable def td_7_13 : { l : List Cond // List.drop 16 (td_7_12.1) = l } := by
  constructor
  conv => lhs; whnf
theorem tt_7_13 {w : Cond} (h : w ∈ td_7_13.1) : w ∈ tables_1 := tt_7_12 (tmd 16 _ (by rw [td_7_13.2]; exact h))
set_option maxRecDepth 100000 in
noncomputable def td_7_14 : { l : List Cond // List.drop 16 (td_7_13.1) = l } := by
  constructor
  conv => lhs; whnf
theorem tt_7_14 {w : Cond} (h : w ∈ td_7_14.1) : w ∈ tables_1 := tt_7_13 (tmd 16 _ (by rw [td_7_14.2]; exact h))
set_option maxRecDepth 100000 in
noncomputable def td_8_1 : { l : List Cond // List.drop 16 (tables_1_8) = l } := by
  constructor
  conv => lhs; whnf
theorem tt_8_1 {w : Cond} (h : w ∈ td_8_1.1) : w ∈ tables_1 := ta_8 (tmd 16 _ (by rw [td_8_1.2]; exact h))
set_option maxRecDepth 100000 in
noncomputable def td_8_2 : { l : List Cond // List.drop 16 (td_8_1.1) = l } := by
  constructor
  conv => lhs; whnf
theorem tt_8_2 {w : Cond} (h : w ∈ td_8_2.1) : w ∈ tables_1 := tt_8_1 (tmd 16 _ (by rw [td_8_2.2]; exact h))
set_option maxRecDepth 100000 in
noncomputable def td_8_3 : { l : List Cond // List.drop 16 (td_8_2.1) = l } := by
  constructor
  conv => lhs; whnf
theorem tt_8_3 {w : Cond} (h : w ∈ td_8_3.1) : w ∈ tables_1 := tt_8_2 (tmd 16 _ (by rw [td_8_3.2]; exact h))
set_option maxRecDepth 100000 in
noncomputable def td_8_4 : { l : List Cond // List.drop 16 (td_8_3.1) = l } := by
  constructor
  conv => lhs; whnf
theorem tt_8_4 {w : Cond} (h : w ∈ td_8_4.1) : w ∈ tables_1 := tt_8_3 (tmd 16 _ (by rw [td_8_4.2]; exact h))
set_option maxRecDepth 100000 in
noncomputable def td_8_5 : { l : List Cond // List.drop 16 (td_8_4.1) = l } := by
  constructor
  conv => lhs; whnf
theorem tt_8_5 {w : Cond} (h : w ∈ td_8_5.1) : w ∈ tables_1 := tt_8_4 (tmd 16 _ (by rw [td_8_5.2]; exact h))
set_option maxRecDepth 100000 in
noncomputable def td_8_6 : { l : List Cond // List.drop 16 (td_8_5.1) = l } := by
  constructor
  conv => lhs; whnf
theorem tt_8_6 {w : Cond} (h : w ∈ td_8_6.1) : w ∈ tables_1 := tt_8_5 (tmd 16 _ (by rw [td_8_6.2]; exact h))
set_option maxRecDepth 100000 in
noncomputable def td_8_7 : { l : List Cond // List.drop 16 (td_8_6.1) = l } := by
  constructor
  conv => lhs; whnf
theorem tt_8_7 {w : Cond} (h : w ∈ td_8_7.1) : w ∈ tables_1 := tt_8_6 (tmd 16 _ (by rw [td_8_7.2]; exact h))
set_option maxRecDepth 100000 in
noncomputable def td_8_8 : { l : List Cond // List.drop 16 (td_8_7.1) = l } := by
  constructor
  conv => lhs; whnf
theorem tt_8_8 {w : Cond} (h : w ∈ td_8_8.1) : w ∈ tables_1 := tt_8_7 (tmd 16 _ (by rw [td_8_8.2]; exact h))
set_option maxRecDepth 100000 in
noncomputable def td_8_9 : { l : List Cond // List.drop 16 (td_8_8.1) = l } := by
  constructor
  conv => lhs; whnf
theorem tt_8_9 {w : Cond} (h : w ∈ td_8_9.1) : w ∈ tables_1 := tt_8_8 (tmd 16 _ (by rw [td_8_9.2]; exact h))
set_option maxRecDepth 100000 in
noncomputable def td_8_10 : { l : List Cond // List.drop 16 (td_8_9.1) = l } := by
  constructor
  conv => lhs; whnf
theorem tt_8_10 {w : Cond} (h : w ∈ td_8_10.1) : w ∈ tables_1 := tt_8_9 (tmd 16 _ (by rw [td_8_10.2]; exact h))
set_option maxRecDepth 100000 in
noncomputable def td_8_11 : { l : List Cond // List.drop 16 (td_8_10.1) = l } := by
  constructor
  conv => lhs; whnf
theorem tt_8_11 {w : Cond} (h : w ∈ td_8_11.1) : w ∈ tables_1 := tt_8_10 (tmd 16 _ (by rw [td_8_11.2]; exact h))
set_option maxRecDepth 100000 in
noncomputable def td_8_12 : { l : List Cond // List.drop 16 (td_8_11.1) = l } := by
  constructor
  conv => lhs; whnf
theorem tt_8_12 {w : Cond} (h : w ∈ td_8_12.1) : w ∈ tables_1 := tt_8_11 (tmd 16 _ (by rw [td_8_12.2]; exact h))
set_option maxRecDepth 100000 in
noncomputable def td_8_13 : { l : List Cond // List.drop 16 (td_8_12.1) = l } := by
  constructor
  conv => lhs; whnf
theorem tt_8_13 {w : Cond} (h : w ∈ td_8_13.1) : w ∈ tables_1 := tt_8_12 (tmd 16 _ (by rw [td_8_13.2]; exact h))
set_option maxRecDepth 100000 in
noncomputable def td_8_14 : { l : List Cond // List.drop 16 (td_8_13.1) = l } := by
  constructor
  conv => lhs; whnf
theorem tt_8_14 {w : Cond} (h : w ∈ td_8_14.1) : w ∈ tables_1 := tt_8_13 (tmd 16 _ (by rw [td_8_14.2]; exact h))
set_option maxRecDepth 100000 in
noncomputable def td_9_1 : { l : List Cond // List.drop 16 (tables_1_9) = l } := by
  constructor
  conv => lhs; whnf
theorem tt_9_1 {w : Cond} (h : w ∈ td_9_1.1) : w ∈ tables_1 := ta_9 (tmd 16 _ (by rw [td_9_1.2]; exact h))
set_option maxRecDepth 100000 in
noncomputable def td_9_2 : { l : List Cond // List.drop 16 (td_9_1.1) = l } := by
  constructor
  conv => lhs; whnf
theorem tt_9_2 {w : Cond} (h : w ∈ td_9_2.1) : w ∈ tables_1 := tt_9_1 (tmd 16 _ (by rw [td_9_2.2]; exact h))
set_option maxRecDepth 100000 in
noncomputable def td_9_3 : { l : List Cond // List.drop 16 (td_9_2.1) = l } := by
  constructor
  conv => lhs; whnf
theorem tt_9_3 {w : Cond} (h : w ∈ td_9_3.1) : w ∈ tables_1 := tt_9_2 (tmd 16 _ (by rw [td_9_3.2]; exact h))
set_option maxRecDepth 100000 in
noncomputable def td_9_4 : { l : List Cond // List.drop 16 (td_9_3.1) = l } := by
  constructor
  conv => lhs; whnf
theorem tt_9_4 {w : Cond} (h : w ∈ td_9_4.1) : w ∈ tables_1 := tt_9_3 (tmd 16 _ (by rw [td_9_4.2]; exact h))
set_option maxRecDepth 100000 in
noncomputable def td_9_5 : { l : List Cond // List.drop 16 (td_9_4.1) = l } := by
  constructor
  conv => lhs; whnf
theorem tt_9_5 {w : Cond} (h : w ∈ td_9_5.1) : w ∈ tables_1 := tt_9_4 (tmd 16 _ (by rw [td_9_5.2]; exact h))
set_option maxRecDepth 100000 in
noncomputable def td_9_6 : { l : List Cond // List.drop 16 (td_9_5.1) = l } := by
  constructor
  conv => lhs; whnf
theorem tt_9_6 {w : Cond} (h : w ∈ td_9_6.1) : w ∈ tables_1 := tt_9_5 (tmd 16 _ (by rw [td_9_6.2]; exact h))
set_option maxRecDepth 100000 in
noncomputable def td_9_7 : { l : List Cond // List.drop 16 (td_9_6.1) = l } := by
  constructor
  conv => lhs; whnf
theorem tt_9_7 {w : Cond} (h : w ∈ td_9_7.1) : w ∈ tables_1 := tt_9_6 (tmd 16 _ (by rw [td_9_7.2]; exact h))
-- ===== PART A: goes FIRST, ahead of the names: the tables' words, and 'selects' of the private methods out of them =====
/-- a private method of a class that the tables say can be made, by its rows of tables_1 -/
def lw_okq (q : MethodName × Nat) : Prop := (q.1.cls ≠ "java/lang/invoke/MethodHandle" ∧ q.1.cls ≠ "java/lang/invoke/VarHandle") ∧ Cond.instantiable q.1.cls q.2 ∈ tables_1 ∧ Cond.privateMethod q.1 ∈ tables_1 ∧ Cond.instanceMethod q.1 ∈ tables_1
theorem lw_p0 : lw_okq (⟨"ProvenRecord", "putOnTape", "(I)V"⟩, 19) := ⟨⟨by decide +kernel, by decide +kernel⟩, tt_1_1 (List.mem_of_getElem? (i := 5) rfl), tt_2_9 (List.mem_of_getElem? (i := 11) rfl), tt_2_9 (List.mem_of_getElem? (i := 12) rfl)⟩
theorem lw_p1 : lw_okq (⟨"ProvenRecord", "refuse", "(I)I"⟩, 19) := ⟨⟨by decide +kernel, by decide +kernel⟩, tt_1_1 (List.mem_of_getElem? (i := 5) rfl), tt_2_10 (List.mem_of_getElem? (i := 3) rfl), tt_2_10 (List.mem_of_getElem? (i := 4) rfl)⟩
theorem lw_p2 : lw_okq (⟨"ProvenRecord", "loadLines", "(I)Z"⟩, 19) := ⟨⟨by decide +kernel, by decide +kernel⟩, tt_1_1 (List.mem_of_getElem? (i := 5) rfl), tt_2_11 (List.mem_of_getElem? (i := 11) rfl), tt_2_11 (List.mem_of_getElem? (i := 12) rfl)⟩
theorem lw_p3 : lw_okq (⟨"ProvenRecord$Scanner", "byteAt", "(I)I"⟩, 7) := ⟨⟨by decide +kernel, by decide +kernel⟩, ta_2 (List.mem_of_getElem? (i := 13) rfl), tt_2_13 (List.mem_of_getElem? (i := 1) rfl), tt_2_13 (List.mem_of_getElem? (i := 2) rfl)⟩
theorem lw_p4 : lw_okq (⟨"ProvenRecord$Reader", "readNumber", "(II)Z"⟩, 10) := ⟨⟨by decide +kernel, by decide +kernel⟩, ta_2 (List.mem_of_getElem? (i := 7) rfl), tt_3_2 (List.mem_of_getElem? (i := 4) rfl), tt_3_2 (List.mem_of_getElem? (i := 5) rfl)⟩
theorem lw_p5 : lw_okq (⟨"ProvenRecord$Reader", "stray", "()Z"⟩, 10) := ⟨⟨by decide +kernel, by decide +kernel⟩, ta_2 (List.mem_of_getElem? (i := 7) rfl), tt_3_2 (List.mem_of_getElem? (i := 8) rfl), tt_3_2 (List.mem_of_getElem? (i := 9) rfl)⟩
theorem lw_p6 : lw_okq (⟨"ProvenRecord$Reader", "fail", "(I)Z"⟩, 10) := ⟨⟨by decide +kernel, by decide +kernel⟩, ta_2 (List.mem_of_getElem? (i := 7) rfl), tt_3_2 (List.mem_of_getElem? (i := 12) rfl), tt_3_2 (List.mem_of_getElem? (i := 13) rfl)⟩
theorem lw_p7 : lw_okq (⟨"ProvenRecord$Reader", "readSign", "()Z"⟩, 10) := ⟨⟨by decide +kernel, by decide +kernel⟩, ta_2 (List.mem_of_getElem? (i := 7) rfl), tt_3_3 (List.mem_of_getElem? (i := 0) rfl), tt_3_3 (List.mem_of_getElem? (i := 1) rfl)⟩
theorem lw_p8 : lw_okq (⟨"ProvenRecord$Reader", "readAdd", "(LProvenRecord$Log;)Z"⟩, 10) := ⟨⟨by decide +kernel, by decide +kernel⟩, ta_2 (List.mem_of_getElem? (i := 7) rfl), tt_3_3 (List.mem_of_getElem? (i := 14) rfl), tt_3_3 (List.mem_of_getElem? (i := 15) rfl)⟩
theorem lw_p9 : lw_okq (⟨"ProvenRecord$Reader", "hasRoom", "(II)Z"⟩, 10) := ⟨⟨by decide +kernel, by decide +kernel⟩, ta_2 (List.mem_of_getElem? (i := 7) rfl), tt_3_4 (List.mem_of_getElem? (i := 2) rfl), tt_3_4 (List.mem_of_getElem? (i := 3) rfl)⟩
theorem lw_p10 : lw_okq (⟨"ProvenRecord$Reader", "readShow", "(LProvenRecord$Log;)Z"⟩, 10) := ⟨⟨by decide +kernel, by decide +kernel⟩, ta_2 (List.mem_of_getElem? (i := 7) rfl), tt_3_5 (List.mem_of_getElem? (i := 7) rfl), tt_3_5 (List.mem_of_getElem? (i := 8) rfl)⟩
theorem lw_p11 : lw_okq (⟨"ProvenRecord$Way", "clear", "()V"⟩, 5) := ⟨⟨by decide +kernel, by decide +kernel⟩, tt_1_3 (List.mem_of_getElem? (i := 13) rfl), tt_3_10 (List.mem_of_getElem? (i := 12) rfl), tt_3_10 (List.mem_of_getElem? (i := 13) rfl)⟩
theorem lw_p12 : lw_okq (⟨"ProvenRecord$Way", "put", "(IIZ)V"⟩, 5) := ⟨⟨by decide +kernel, by decide +kernel⟩, tt_1_3 (List.mem_of_getElem? (i := 13) rfl), tt_3_11 (List.mem_of_getElem? (i := 11) rfl), tt_3_11 (List.mem_of_getElem? (i := 12) rfl)⟩
theorem lw_p13 : lw_okq (⟨"ProvenRecord$Way", "turnRound", "()V"⟩, 5) := ⟨⟨by decide +kernel, by decide +kernel⟩, tt_1_3 (List.mem_of_getElem? (i := 13) rfl), tt_3_11 (List.mem_of_getElem? (i := 15) rfl), tt_3_12 (List.mem_of_getElem? (i := 0) rfl)⟩
theorem lw_p14 : lw_okq (⟨"ProvenRecord", "answer", "(I)I"⟩, 19) := ⟨⟨by decide +kernel, by decide +kernel⟩, tt_1_1 (List.mem_of_getElem? (i := 5) rfl), tt_3_14 (List.mem_of_getElem? (i := 7) rfl), tt_3_14 (List.mem_of_getElem? (i := 8) rfl)⟩
theorem lw_p15 : lw_okq (⟨"ProvenRecord$Reader", "readInclusion", "(LProvenRecord$Row;)Z"⟩, 10) := ⟨⟨by decide +kernel, by decide +kernel⟩, ta_2 (List.mem_of_getElem? (i := 7) rfl), ta_4 (List.mem_of_getElem? (i := 7) rfl), ta_4 (List.mem_of_getElem? (i := 8) rfl)⟩
def lw_privs_1 : List (MethodName × Nat) := [(⟨"ProvenRecord", "putOnTape", "(I)V"⟩, 19), (⟨"ProvenRecord", "refuse", "(I)I"⟩, 19), (⟨"ProvenRecord", "loadLines", "(I)Z"⟩, 19), (⟨"ProvenRecord$Scanner", "byteAt", "(I)I"⟩, 7), (⟨"ProvenRecord$Reader", "readNumber", "(II)Z"⟩, 10), (⟨"ProvenRecord$Reader", "stray", "()Z"⟩, 10), (⟨"ProvenRecord$Reader", "fail", "(I)Z"⟩, 10), (⟨"ProvenRecord$Reader", "readSign", "()Z"⟩, 10), (⟨"ProvenRecord$Reader", "readAdd", "(LProvenRecord$Log;)Z"⟩, 10), (⟨"ProvenRecord$Reader", "hasRoom", "(II)Z"⟩, 10), (⟨"ProvenRecord$Reader", "readShow", "(LProvenRecord$Log;)Z"⟩, 10), (⟨"ProvenRecord$Way", "clear", "()V"⟩, 5), (⟨"ProvenRecord$Way", "put", "(IIZ)V"⟩, 5), (⟨"ProvenRecord$Way", "turnRound", "()V"⟩, 5), (⟨"ProvenRecord", "answer", "(I)I"⟩, 19), (⟨"ProvenRecord$Reader", "readInclusion", "(LProvenRecord$Row;)Z"⟩, 10)]
theorem lw_r1 : ∀ q ∈ lw_privs_1, lw_okq q := List.forall_mem_cons.mpr ⟨lw_p0, List.forall_mem_cons.mpr ⟨lw_p1, List.forall_mem_cons.mpr ⟨lw_p2, List.forall_mem_cons.mpr ⟨lw_p3, List.forall_mem_cons.mpr ⟨lw_p4, List.forall_mem_cons.mpr ⟨lw_p5, List.forall_mem_cons.mpr ⟨lw_p6, List.forall_mem_cons.mpr ⟨lw_p7, List.forall_mem_cons.mpr ⟨lw_p8, List.forall_mem_cons.mpr ⟨lw_p9, List.forall_mem_cons.mpr ⟨lw_p10, List.forall_mem_cons.mpr ⟨lw_p11, List.forall_mem_cons.mpr ⟨lw_p12, List.forall_mem_cons.mpr ⟨lw_p13, List.forall_mem_cons.mpr ⟨lw_p14, List.forall_mem_cons.mpr ⟨lw_p15, fun _ h => absurd h List.not_mem_nil⟩⟩⟩⟩⟩⟩⟩⟩⟩⟩⟩⟩⟩⟩⟩⟩
theorem lw_p16 : lw_okq (⟨"ProvenRecord$Reader", "readWord", "(Ljava/lang/String;)Z"⟩, 10) := ⟨⟨by decide +kernel, by decide +kernel⟩, ta_2 (List.mem_of_getElem? (i := 7) rfl), ta_4 (List.mem_of_getElem? (i := 13) rfl), ta_4 (List.mem_of_getElem? (i := 14) rfl)⟩
theorem lw_p17 : lw_okq (⟨"ProvenRecord$Reader", "readMark", "(Ljava/lang/String;)Z"⟩, 10) := ⟨⟨by decide +kernel, by decide +kernel⟩, ta_2 (List.mem_of_getElem? (i := 7) rfl), tt_4_1 (List.mem_of_getElem? (i := 2) rfl), tt_4_1 (List.mem_of_getElem? (i := 3) rfl)⟩
theorem lw_p18 : lw_okq (⟨"ProvenRecord$Reader", "readRow", "()Z"⟩, 10) := ⟨⟨by decide +kernel, by decide +kernel⟩, ta_2 (List.mem_of_getElem? (i := 7) rfl), tt_4_1 (List.mem_of_getElem? (i := 7) rfl), tt_4_1 (List.mem_of_getElem? (i := 8) rfl)⟩
theorem lw_p19 : lw_okq (⟨"ProvenRecord$Reader", "readGrowth", "(LProvenRecord$Row;)Z"⟩, 10) := ⟨⟨by decide +kernel, by decide +kernel⟩, ta_2 (List.mem_of_getElem? (i := 7) rfl), tt_4_2 (List.mem_of_getElem? (i := 9) rfl), tt_4_2 (List.mem_of_getElem? (i := 10) rfl)⟩
theorem lw_p20 : lw_okq (⟨"ProvenRecord", "isMark", "(I)Z"⟩, 19) := ⟨⟨by decide +kernel, by decide +kernel⟩, tt_1_1 (List.mem_of_getElem? (i := 5) rfl), tt_4_6 (List.mem_of_getElem? (i := 1) rfl), tt_4_6 (List.mem_of_getElem? (i := 2) rfl)⟩
theorem lw_p21 : lw_okq (⟨"ProvenRecord$Way", "putGreatestWithout", "(III)I"⟩, 5) := ⟨⟨by decide +kernel, by decide +kernel⟩, tt_1_3 (List.mem_of_getElem? (i := 13) rfl), tt_4_13 (List.mem_of_getElem? (i := 14) rfl), tt_4_13 (List.mem_of_getElem? (i := 15) rfl)⟩
theorem lw_p22 : lw_okq (⟨"ProvenRecord$World", "partingTrees", "(LProvenRecord$Log;LProvenRecord$Log;IZ)I"⟩, 10) := ⟨⟨by decide +kernel, by decide +kernel⟩, tt_1_1 (List.mem_of_getElem? (i := 13) rfl), tt_5_6 (List.mem_of_getElem? (i := 10) rfl), tt_5_6 (List.mem_of_getElem? (i := 11) rfl)⟩
theorem lw_p23 : lw_okq (⟨"ProvenRecord", "preparedRoots", "()LProvenRecord$Roots;"⟩, 19) := ⟨⟨by decide +kernel, by decide +kernel⟩, tt_1_1 (List.mem_of_getElem? (i := 5) rfl), tt_5_8 (List.mem_of_getElem? (i := 10) rfl), tt_5_8 (List.mem_of_getElem? (i := 11) rfl)⟩
theorem lw_p24 : lw_okq (⟨"ProvenRecord$Roots", "seek", "(I)V"⟩, 11) := ⟨⟨by decide +kernel, by decide +kernel⟩, tt_5_8 (List.mem_of_getElem? (i := 14) rfl), tt_5_12 (List.mem_of_getElem? (i := 6) rfl), tt_5_12 (List.mem_of_getElem? (i := 7) rfl)⟩
theorem lw_p25 : lw_okq (⟨"ProvenRecord$Roots", "take", "(I)V"⟩, 11) := ⟨⟨by decide +kernel, by decide +kernel⟩, tt_5_8 (List.mem_of_getElem? (i := 14) rfl), tt_5_12 (List.mem_of_getElem? (i := 13) rfl), tt_5_12 (List.mem_of_getElem? (i := 14) rfl)⟩
theorem lw_p26 : lw_okq (⟨"ProvenRecord$Roots", "secondOf", "(II)I"⟩, 11) := ⟨⟨by decide +kernel, by decide +kernel⟩, tt_5_8 (List.mem_of_getElem? (i := 14) rfl), tt_5_13 (List.mem_of_getElem? (i := 4) rfl), tt_5_13 (List.mem_of_getElem? (i := 5) rfl)⟩
theorem lw_p27 : lw_okq (⟨"ProvenRecord$Roots", "restOf", "(J)I"⟩, 11) := ⟨⟨by decide +kernel, by decide +kernel⟩, tt_5_8 (List.mem_of_getElem? (i := 14) rfl), tt_5_13 (List.mem_of_getElem? (i := 9) rfl), tt_5_13 (List.mem_of_getElem? (i := 10) rfl)⟩
theorem lw_p28 : lw_okq (⟨"ProvenRecord$Roots", "leastRoot", "(II)I"⟩, 11) := ⟨⟨by decide +kernel, by decide +kernel⟩, tt_5_8 (List.mem_of_getElem? (i := 14) rfl), tt_5_14 (List.mem_of_getElem? (i := 0) rfl), tt_5_14 (List.mem_of_getElem? (i := 1) rfl)⟩
theorem lw_p29 : lw_okq (⟨"ProvenRecord$Roots", "firstOf", "(I)I"⟩, 11) := ⟨⟨by decide +kernel, by decide +kernel⟩, tt_5_8 (List.mem_of_getElem? (i := 14) rfl), tt_5_14 (List.mem_of_getElem? (i := 4) rfl), tt_5_14 (List.mem_of_getElem? (i := 5) rfl)⟩
theorem lw_p30 : lw_okq (⟨"ProvenRecord", "clashingStep", "(II)I"⟩, 19) := ⟨⟨by decide +kernel, by decide +kernel⟩, tt_1_1 (List.mem_of_getElem? (i := 5) rfl), tt_5_14 (List.mem_of_getElem? (i := 13) rfl), tt_5_14 (List.mem_of_getElem? (i := 14) rfl)⟩
theorem lw_p31 : lw_okq (⟨"ProvenRecord", "treeOfWay", "(II)I"⟩, 19) := ⟨⟨by decide +kernel, by decide +kernel⟩, tt_1_1 (List.mem_of_getElem? (i := 5) rfl), tt_6_1 (List.mem_of_getElem? (i := 4) rfl), tt_6_1 (List.mem_of_getElem? (i := 5) rfl)⟩
def lw_privs_2 : List (MethodName × Nat) := [(⟨"ProvenRecord$Reader", "readWord", "(Ljava/lang/String;)Z"⟩, 10), (⟨"ProvenRecord$Reader", "readMark", "(Ljava/lang/String;)Z"⟩, 10), (⟨"ProvenRecord$Reader", "readRow", "()Z"⟩, 10), (⟨"ProvenRecord$Reader", "readGrowth", "(LProvenRecord$Row;)Z"⟩, 10), (⟨"ProvenRecord", "isMark", "(I)Z"⟩, 19), (⟨"ProvenRecord$Way", "putGreatestWithout", "(III)I"⟩, 5), (⟨"ProvenRecord$World", "partingTrees", "(LProvenRecord$Log;LProvenRecord$Log;IZ)I"⟩, 10), (⟨"ProvenRecord", "preparedRoots", "()LProvenRecord$Roots;"⟩, 19), (⟨"ProvenRecord$Roots", "seek", "(I)V"⟩, 11), (⟨"ProvenRecord$Roots", "take", "(I)V"⟩, 11), (⟨"ProvenRecord$Roots", "secondOf", "(II)I"⟩, 11), (⟨"ProvenRecord$Roots", "restOf", "(J)I"⟩, 11), (⟨"ProvenRecord$Roots", "leastRoot", "(II)I"⟩, 11), (⟨"ProvenRecord$Roots", "firstOf", "(I)I"⟩, 11), (⟨"ProvenRecord", "clashingStep", "(II)I"⟩, 19), (⟨"ProvenRecord", "treeOfWay", "(II)I"⟩, 19)]
theorem lw_r2 : ∀ q ∈ lw_privs_2, lw_okq q := List.forall_mem_cons.mpr ⟨lw_p16, List.forall_mem_cons.mpr ⟨lw_p17, List.forall_mem_cons.mpr ⟨lw_p18, List.forall_mem_cons.mpr ⟨lw_p19, List.forall_mem_cons.mpr ⟨lw_p20, List.forall_mem_cons.mpr ⟨lw_p21, List.forall_mem_cons.mpr ⟨lw_p22, List.forall_mem_cons.mpr ⟨lw_p23, List.forall_mem_cons.mpr ⟨lw_p24, List.forall_mem_cons.mpr ⟨lw_p25, List.forall_mem_cons.mpr ⟨lw_p26, List.forall_mem_cons.mpr ⟨lw_p27, List.forall_mem_cons.mpr ⟨lw_p28, List.forall_mem_cons.mpr ⟨lw_p29, List.forall_mem_cons.mpr ⟨lw_p30, List.forall_mem_cons.mpr ⟨lw_p31, fun _ h => absurd h List.not_mem_nil⟩⟩⟩⟩⟩⟩⟩⟩⟩⟩⟩⟩⟩⟩⟩⟩
theorem lw_p32 : lw_okq (⟨"ProvenRecord", "addLinks", "(I)I"⟩, 19) := ⟨⟨by decide +kernel, by decide +kernel⟩, tt_1_1 (List.mem_of_getElem? (i := 5) rfl), tt_6_3 (List.mem_of_getElem? (i := 7) rfl), tt_6_3 (List.mem_of_getElem? (i := 8) rfl)⟩
theorem lw_p33 : lw_okq (⟨"ProvenRecord", "isLink", "(II)Z"⟩, 19) := ⟨⟨by decide +kernel, by decide +kernel⟩, tt_1_1 (List.mem_of_getElem? (i := 5) rfl), tt_6_3 (List.mem_of_getElem? (i := 11) rfl), tt_6_3 (List.mem_of_getElem? (i := 12) rfl)⟩
theorem lw_p34 : lw_okq (⟨"ProvenRecord", "tellText", "(Ljava/lang/String;)V"⟩, 19) := ⟨⟨by decide +kernel, by decide +kernel⟩, tt_1_1 (List.mem_of_getElem? (i := 5) rfl), tt_6_4 (List.mem_of_getElem? (i := 8) rfl), tt_6_4 (List.mem_of_getElem? (i := 9) rfl)⟩
theorem lw_p35 : lw_okq (⟨"ProvenRecord", "tellByte", "(I)V"⟩, 19) := ⟨⟨by decide +kernel, by decide +kernel⟩, tt_1_1 (List.mem_of_getElem? (i := 5) rfl), tt_6_4 (List.mem_of_getElem? (i := 14) rfl), tt_6_4 (List.mem_of_getElem? (i := 15) rfl)⟩
theorem lw_p36 : lw_okq (⟨"ProvenRecord", "tellNumber", "(I)V"⟩, 19) := ⟨⟨by decide +kernel, by decide +kernel⟩, tt_1_1 (List.mem_of_getElem? (i := 5) rfl), tt_6_5 (List.mem_of_getElem? (i := 2) rfl), tt_6_5 (List.mem_of_getElem? (i := 3) rfl)⟩
theorem lw_p37 : lw_okq (⟨"ProvenRecord", "tellProof", "()V"⟩, 19) := ⟨⟨by decide +kernel, by decide +kernel⟩, tt_1_1 (List.mem_of_getElem? (i := 5) rfl), tt_6_5 (List.mem_of_getElem? (i := 9) rfl), tt_6_5 (List.mem_of_getElem? (i := 10) rfl)⟩
theorem lw_p38 : lw_okq (⟨"ProvenRecordModel", "clears", "()V"⟩, 48) := ⟨⟨by decide +kernel, by decide +kernel⟩, tt_6_7 (List.mem_of_getElem? (i := 8) rfl), tt_6_8 (List.mem_of_getElem? (i := 10) rfl), tt_6_8 (List.mem_of_getElem? (i := 11) rfl)⟩
theorem lw_p39 : lw_okq (⟨"ProvenRecordModel", "puts", "(I)V"⟩, 48) := ⟨⟨by decide +kernel, by decide +kernel⟩, tt_6_7 (List.mem_of_getElem? (i := 8) rfl), tt_7_3 (List.mem_of_getElem? (i := 13) rfl), tt_7_3 (List.mem_of_getElem? (i := 14) rfl)⟩
theorem lw_p40 : lw_okq (⟨"ProvenRecordModel", "is", "(I)Z"⟩, 48) := ⟨⟨by decide +kernel, by decide +kernel⟩, tt_6_7 (List.mem_of_getElem? (i := 8) rfl), tt_7_4 (List.mem_of_getElem? (i := 8) rfl), tt_7_4 (List.mem_of_getElem? (i := 9) rfl)⟩
theorem lw_p41 : lw_okq (⟨"ProvenRecordModel", "begins", "(I)V"⟩, 48) := ⟨⟨by decide +kernel, by decide +kernel⟩, tt_6_7 (List.mem_of_getElem? (i := 8) rfl), tt_7_4 (List.mem_of_getElem? (i := 12) rfl), tt_7_4 (List.mem_of_getElem? (i := 13) rfl)⟩
theorem lw_p42 : lw_okq (⟨"ProvenRecordModel", "reads", "()V"⟩, 48) := ⟨⟨by decide +kernel, by decide +kernel⟩, tt_6_7 (List.mem_of_getElem? (i := 8) rfl), tt_7_5 (List.mem_of_getElem? (i := 0) rfl), tt_7_5 (List.mem_of_getElem? (i := 1) rfl)⟩
theorem lw_p43 : lw_okq (⟨"ProvenRecordModel", "isOf", "(III)Z"⟩, 48) := ⟨⟨by decide +kernel, by decide +kernel⟩, tt_6_7 (List.mem_of_getElem? (i := 8) rfl), tt_7_5 (List.mem_of_getElem? (i := 4) rfl), tt_7_5 (List.mem_of_getElem? (i := 5) rfl)⟩
theorem lw_p44 : lw_okq (⟨"ProvenRecordModel", "isWord", "(I)Z"⟩, 48) := ⟨⟨by decide +kernel, by decide +kernel⟩, tt_6_7 (List.mem_of_getElem? (i := 8) rfl), tt_7_5 (List.mem_of_getElem? (i := 10) rfl), tt_7_5 (List.mem_of_getElem? (i := 11) rfl)⟩
theorem lw_p45 : lw_okq (⟨"ProvenRecordModel", "takesNumber", "(II)I"⟩, 48) := ⟨⟨by decide +kernel, by decide +kernel⟩, tt_6_7 (List.mem_of_getElem? (i := 8) rfl), tt_7_5 (List.mem_of_getElem? (i := 14) rfl), tt_7_5 (List.mem_of_getElem? (i := 15) rfl)⟩
theorem lw_p46 : lw_okq (⟨"ProvenRecordModel", "must", "(ZI)V"⟩, 48) := ⟨⟨by decide +kernel, by decide +kernel⟩, tt_6_7 (List.mem_of_getElem? (i := 8) rfl), tt_7_6 (List.mem_of_getElem? (i := 2) rfl), tt_7_6 (List.mem_of_getElem? (i := 3) rfl)⟩
theorem lw_p47 : lw_okq (⟨"ProvenRecordModel", "takesEnd", "()V"⟩, 48) := ⟨⟨by decide +kernel, by decide +kernel⟩, tt_6_7 (List.mem_of_getElem? (i := 8) rfl), tt_7_6 (List.mem_of_getElem? (i := 6) rfl), tt_7_6 (List.mem_of_getElem? (i := 7) rfl)⟩
def lw_privs_3 : List (MethodName × Nat) := [(⟨"ProvenRecord", "addLinks", "(I)I"⟩, 19), (⟨"ProvenRecord", "isLink", "(II)Z"⟩, 19), (⟨"ProvenRecord", "tellText", "(Ljava/lang/String;)V"⟩, 19), (⟨"ProvenRecord", "tellByte", "(I)V"⟩, 19), (⟨"ProvenRecord", "tellNumber", "(I)V"⟩, 19), (⟨"ProvenRecord", "tellProof", "()V"⟩, 19), (⟨"ProvenRecordModel", "clears", "()V"⟩, 48), (⟨"ProvenRecordModel", "puts", "(I)V"⟩, 48), (⟨"ProvenRecordModel", "is", "(I)Z"⟩, 48), (⟨"ProvenRecordModel", "begins", "(I)V"⟩, 48), (⟨"ProvenRecordModel", "reads", "()V"⟩, 48), (⟨"ProvenRecordModel", "isOf", "(III)Z"⟩, 48), (⟨"ProvenRecordModel", "isWord", "(I)Z"⟩, 48), (⟨"ProvenRecordModel", "takesNumber", "(II)I"⟩, 48), (⟨"ProvenRecordModel", "must", "(ZI)V"⟩, 48), (⟨"ProvenRecordModel", "takesEnd", "()V"⟩, 48)]
theorem lw_r3 : ∀ q ∈ lw_privs_3, lw_okq q := List.forall_mem_cons.mpr ⟨lw_p32, List.forall_mem_cons.mpr ⟨lw_p33, List.forall_mem_cons.mpr ⟨lw_p34, List.forall_mem_cons.mpr ⟨lw_p35, List.forall_mem_cons.mpr ⟨lw_p36, List.forall_mem_cons.mpr ⟨lw_p37, List.forall_mem_cons.mpr ⟨lw_p38, List.forall_mem_cons.mpr ⟨lw_p39, List.forall_mem_cons.mpr ⟨lw_p40, List.forall_mem_cons.mpr ⟨lw_p41, List.forall_mem_cons.mpr ⟨lw_p42, List.forall_mem_cons.mpr ⟨lw_p43, List.forall_mem_cons.mpr ⟨lw_p44, List.forall_mem_cons.mpr ⟨lw_p45, List.forall_mem_cons.mpr ⟨lw_p46, List.forall_mem_cons.mpr ⟨lw_p47, fun _ h => absurd h List.not_mem_nil⟩⟩⟩⟩⟩⟩⟩⟩⟩⟩⟩⟩⟩⟩⟩⟩
theorem lw_p48 : lw_okq (⟨"ProvenRecordModel", "line", "()V"⟩, 48) := ⟨⟨by decide +kernel, by decide +kernel⟩, tt_6_7 (List.mem_of_getElem? (i := 8) rfl), tt_7_6 (List.mem_of_getElem? (i := 10) rfl), tt_7_6 (List.mem_of_getElem? (i := 11) rfl)⟩
theorem lw_p49 : lw_okq (⟨"ProvenRecordModel", "addLine", "()V"⟩, 48) := ⟨⟨by decide +kernel, by decide +kernel⟩, tt_6_7 (List.mem_of_getElem? (i := 8) rfl), tt_7_6 (List.mem_of_getElem? (i := 14) rfl), tt_7_6 (List.mem_of_getElem? (i := 15) rfl)⟩
theorem lw_p50 : lw_okq (⟨"ProvenRecordModel", "sizeOf", "(I)I"⟩, 48) := ⟨⟨by decide +kernel, by decide +kernel⟩, tt_6_7 (List.mem_of_getElem? (i := 8) rfl), tt_7_7 (List.mem_of_getElem? (i := 2) rfl), tt_7_7 (List.mem_of_getElem? (i := 3) rfl)⟩
theorem lw_p51 : lw_okq (⟨"ProvenRecordModel", "adds", "(I)I"⟩, 48) := ⟨⟨by decide +kernel, by decide +kernel⟩, tt_6_7 (List.mem_of_getElem? (i := 8) rfl), tt_7_7 (List.mem_of_getElem? (i := 6) rfl), tt_7_7 (List.mem_of_getElem? (i := 7) rfl)⟩
theorem lw_p52 : lw_okq (⟨"ProvenRecordModel", "refuse", "(I)I"⟩, 48) := ⟨⟨by decide +kernel, by decide +kernel⟩, tt_6_7 (List.mem_of_getElem? (i := 8) rfl), tt_7_7 (List.mem_of_getElem? (i := 10) rfl), tt_7_7 (List.mem_of_getElem? (i := 11) rfl)⟩
theorem lw_p53 : lw_okq (⟨"ProvenRecordModel", "forkLine", "()V"⟩, 48) := ⟨⟨by decide +kernel, by decide +kernel⟩, tt_6_7 (List.mem_of_getElem? (i := 8) rfl), tt_7_7 (List.mem_of_getElem? (i := 14) rfl), tt_7_7 (List.mem_of_getElem? (i := 15) rfl)⟩
theorem lw_p54 : lw_okq (⟨"ProvenRecordModel", "forks", "(II)I"⟩, 48) := ⟨⟨by decide +kernel, by decide +kernel⟩, tt_6_7 (List.mem_of_getElem? (i := 8) rfl), tt_7_8 (List.mem_of_getElem? (i := 2) rfl), tt_7_8 (List.mem_of_getElem? (i := 3) rfl)⟩
theorem lw_p55 : lw_okq (⟨"ProvenRecordModel", "freezes", "(I)I"⟩, 48) := ⟨⟨by decide +kernel, by decide +kernel⟩, tt_6_7 (List.mem_of_getElem? (i := 8) rfl), tt_7_8 (List.mem_of_getElem? (i := 6) rfl), tt_7_8 (List.mem_of_getElem? (i := 7) rfl)⟩
theorem lw_p56 : lw_okq (⟨"ProvenRecordModel", "headOf", "(II)I"⟩, 48) := ⟨⟨by decide +kernel, by decide +kernel⟩, tt_6_7 (List.mem_of_getElem? (i := 8) rfl), tt_7_8 (List.mem_of_getElem? (i := 10) rfl), tt_7_8 (List.mem_of_getElem? (i := 11) rfl)⟩
theorem lw_p57 : lw_okq (⟨"ProvenRecordModel", "treeMark", "(III)I"⟩, 48) := ⟨⟨by decide +kernel, by decide +kernel⟩, tt_6_7 (List.mem_of_getElem? (i := 8) rfl), tt_7_8 (List.mem_of_getElem? (i := 14) rfl), tt_7_8 (List.mem_of_getElem? (i := 15) rfl)⟩
theorem lw_p58 : lw_okq (⟨"ProvenRecordModel", "entryMark", "(II)I"⟩, 48) := ⟨⟨by decide +kernel, by decide +kernel⟩, tt_6_7 (List.mem_of_getElem? (i := 8) rfl), tt_7_9 (List.mem_of_getElem? (i := 2) rfl), tt_7_9 (List.mem_of_getElem? (i := 3) rfl)⟩
theorem lw_p59 : lw_okq (⟨"ProvenRecordModel", "mixed", "(II)I"⟩, 48) := ⟨⟨by decide +kernel, by decide +kernel⟩, tt_6_7 (List.mem_of_getElem? (i := 8) rfl), tt_7_9 (List.mem_of_getElem? (i := 6) rfl), tt_7_9 (List.mem_of_getElem? (i := 7) rfl)⟩
theorem lw_p60 : lw_okq (⟨"ProvenRecordModel", "both", "(II)I"⟩, 48) := ⟨⟨by decide +kernel, by decide +kernel⟩, tt_6_7 (List.mem_of_getElem? (i := 8) rfl), tt_7_9 (List.mem_of_getElem? (i := 15) rfl), tt_7_10 (List.mem_of_getElem? (i := 0) rfl)⟩
theorem lw_p61 : lw_okq (⟨"ProvenRecordModel", "peaksOf", "(I)V"⟩, 48) := ⟨⟨by decide +kernel, by decide +kernel⟩, tt_6_7 (List.mem_of_getElem? (i := 8) rfl), tt_7_10 (List.mem_of_getElem? (i := 3) rfl), tt_7_10 (List.mem_of_getElem? (i := 4) rfl)⟩
theorem lw_p62 : lw_okq (⟨"ProvenRecordModel", "asks", "(II)V"⟩, 48) := ⟨⟨by decide +kernel, by decide +kernel⟩, tt_6_7 (List.mem_of_getElem? (i := 8) rfl), tt_7_10 (List.mem_of_getElem? (i := 8) rfl), tt_7_10 (List.mem_of_getElem? (i := 9) rfl)⟩
theorem lw_p63 : lw_okq (⟨"ProvenRecordModel", "fetches", "(I)V"⟩, 48) := ⟨⟨by decide +kernel, by decide +kernel⟩, tt_6_7 (List.mem_of_getElem? (i := 8) rfl), tt_7_10 (List.mem_of_getElem? (i := 12) rfl), tt_7_10 (List.mem_of_getElem? (i := 13) rfl)⟩
def lw_privs_4 : List (MethodName × Nat) := [(⟨"ProvenRecordModel", "line", "()V"⟩, 48), (⟨"ProvenRecordModel", "addLine", "()V"⟩, 48), (⟨"ProvenRecordModel", "sizeOf", "(I)I"⟩, 48), (⟨"ProvenRecordModel", "adds", "(I)I"⟩, 48), (⟨"ProvenRecordModel", "refuse", "(I)I"⟩, 48), (⟨"ProvenRecordModel", "forkLine", "()V"⟩, 48), (⟨"ProvenRecordModel", "forks", "(II)I"⟩, 48), (⟨"ProvenRecordModel", "freezes", "(I)I"⟩, 48), (⟨"ProvenRecordModel", "headOf", "(II)I"⟩, 48), (⟨"ProvenRecordModel", "treeMark", "(III)I"⟩, 48), (⟨"ProvenRecordModel", "entryMark", "(II)I"⟩, 48), (⟨"ProvenRecordModel", "mixed", "(II)I"⟩, 48), (⟨"ProvenRecordModel", "both", "(II)I"⟩, 48), (⟨"ProvenRecordModel", "peaksOf", "(I)V"⟩, 48), (⟨"ProvenRecordModel", "asks", "(II)V"⟩, 48), (⟨"ProvenRecordModel", "fetches", "(I)V"⟩, 48)]
theorem lw_r4 : ∀ q ∈ lw_privs_4, lw_okq q := List.forall_mem_cons.mpr ⟨lw_p48, List.forall_mem_cons.mpr ⟨lw_p49, List.forall_mem_cons.mpr ⟨lw_p50, List.forall_mem_cons.mpr ⟨lw_p51, List.forall_mem_cons.mpr ⟨lw_p52, List.forall_mem_cons.mpr ⟨lw_p53, List.forall_mem_cons.mpr ⟨lw_p54, List.forall_mem_cons.mpr ⟨lw_p55, List.forall_mem_cons.mpr ⟨lw_p56, List.forall_mem_cons.mpr ⟨lw_p57, List.forall_mem_cons.mpr ⟨lw_p58, List.forall_mem_cons.mpr ⟨lw_p59, List.forall_mem_cons.mpr ⟨lw_p60, List.forall_mem_cons.mpr ⟨lw_p61, List.forall_mem_cons.mpr ⟨lw_p62, List.forall_mem_cons.mpr ⟨lw_p63, fun _ h => absurd h List.not_mem_nil⟩⟩⟩⟩⟩⟩⟩⟩⟩⟩⟩⟩⟩⟩⟩⟩
theorem lw_p64 : lw_okq (⟨"ProvenRecordModel", "takes", "(I)V"⟩, 48) := ⟨⟨by decide +kernel, by decide +kernel⟩, tt_6_7 (List.mem_of_getElem? (i := 8) rfl), tt_7_11 (List.mem_of_getElem? (i := 0) rfl), tt_7_11 (List.mem_of_getElem? (i := 1) rfl)⟩
theorem lw_p65 : lw_okq (⟨"ProvenRecordModel", "shows", "(III)I"⟩, 48) := ⟨⟨by decide +kernel, by decide +kernel⟩, tt_6_7 (List.mem_of_getElem? (i := 8) rfl), tt_7_11 (List.mem_of_getElem? (i := 4) rfl), tt_7_11 (List.mem_of_getElem? (i := 5) rfl)⟩
theorem lw_p66 : lw_okq (⟨"ProvenRecordModel", "trust", "(II)I"⟩, 48) := ⟨⟨by decide +kernel, by decide +kernel⟩, tt_6_7 (List.mem_of_getElem? (i := 8) rfl), tt_7_11 (List.mem_of_getElem? (i := 8) rfl), tt_7_11 (List.mem_of_getElem? (i := 9) rfl)⟩
theorem lw_p67 : lw_okq (⟨"ProvenRecordModel", "whyByRecord", "(IIIII)I"⟩, 48) := ⟨⟨by decide +kernel, by decide +kernel⟩, tt_6_7 (List.mem_of_getElem? (i := 8) rfl), tt_7_11 (List.mem_of_getElem? (i := 12) rfl), tt_7_11 (List.mem_of_getElem? (i := 13) rfl)⟩
theorem lw_p68 : lw_okq (⟨"ProvenRecordModel", "growth", "(II)V"⟩, 48) := ⟨⟨by decide +kernel, by decide +kernel⟩, tt_6_7 (List.mem_of_getElem? (i := 8) rfl), tt_7_12 (List.mem_of_getElem? (i := 0) rfl), tt_7_12 (List.mem_of_getElem? (i := 1) rfl)⟩
theorem lw_p69 : lw_okq (⟨"ProvenRecordModel", "growsIn", "(IIIZ)V"⟩, 48) := ⟨⟨by decide +kernel, by decide +kernel⟩, tt_6_7 (List.mem_of_getElem? (i := 8) rfl), tt_7_12 (List.mem_of_getElem? (i := 4) rfl), tt_7_12 (List.mem_of_getElem? (i := 5) rfl)⟩
theorem lw_p70 : lw_okq (⟨"ProvenRecordModel", "whyGrown", "(IIIII)I"⟩, 48) := ⟨⟨by decide +kernel, by decide +kernel⟩, tt_6_7 (List.mem_of_getElem? (i := 8) rfl), tt_7_12 (List.mem_of_getElem? (i := 8) rfl), tt_7_12 (List.mem_of_getElem? (i := 9) rfl)⟩
theorem lw_p71 : lw_okq (⟨"ProvenRecordModel", "foldsGrowth", "(IIIZ)V"⟩, 48) := ⟨⟨by decide +kernel, by decide +kernel⟩, tt_6_7 (List.mem_of_getElem? (i := 8) rfl), tt_7_12 (List.mem_of_getElem? (i := 12) rfl), tt_7_12 (List.mem_of_getElem? (i := 13) rfl)⟩
theorem lw_p72 : lw_okq (⟨"ProvenRecordModel", "trusts", "(III)V"⟩, 48) := ⟨⟨by decide +kernel, by decide +kernel⟩, tt_6_7 (List.mem_of_getElem? (i := 8) rfl), tt_7_13 (List.mem_of_getElem? (i := 0) rfl), tt_7_13 (List.mem_of_getElem? (i := 1) rfl)⟩
theorem lw_p73 : lw_okq (⟨"ProvenRecordModel", "ends", "()V"⟩, 48) := ⟨⟨by decide +kernel, by decide +kernel⟩, tt_6_7 (List.mem_of_getElem? (i := 8) rfl), tt_7_13 (List.mem_of_getElem? (i := 4) rfl), tt_7_13 (List.mem_of_getElem? (i := 5) rfl)⟩
theorem lw_p74 : lw_okq (⟨"ProvenRecordModel", "statementIn", "()I"⟩, 48) := ⟨⟨by decide +kernel, by decide +kernel⟩, tt_6_7 (List.mem_of_getElem? (i := 8) rfl), tt_7_13 (List.mem_of_getElem? (i := 12) rfl), tt_7_13 (List.mem_of_getElem? (i := 13) rfl)⟩
theorem lw_p75 : lw_okq (⟨"ProvenRecordModel", "takesMark", "()I"⟩, 48) := ⟨⟨by decide +kernel, by decide +kernel⟩, tt_6_7 (List.mem_of_getElem? (i := 8) rfl), tt_7_14 (List.mem_of_getElem? (i := 1) rfl), tt_7_14 (List.mem_of_getElem? (i := 2) rfl)⟩
theorem lw_p76 : lw_okq (⟨"ProvenRecordModel", "takesMarks", "()I"⟩, 48) := ⟨⟨by decide +kernel, by decide +kernel⟩, tt_6_7 (List.mem_of_getElem? (i := 8) rfl), tt_7_14 (List.mem_of_getElem? (i := 5) rfl), tt_7_14 (List.mem_of_getElem? (i := 6) rfl)⟩
theorem lw_p77 : lw_okq (⟨"ProvenRecordModel", "isMark", "(I)Z"⟩, 48) := ⟨⟨by decide +kernel, by decide +kernel⟩, tt_6_7 (List.mem_of_getElem? (i := 8) rfl), tt_7_14 (List.mem_of_getElem? (i := 9) rfl), tt_7_14 (List.mem_of_getElem? (i := 10) rfl)⟩
theorem lw_p78 : lw_okq (⟨"ProvenRecordModel", "whyIn", "(IIIII)I"⟩, 48) := ⟨⟨by decide +kernel, by decide +kernel⟩, tt_6_7 (List.mem_of_getElem? (i := 8) rfl), tt_7_14 (List.mem_of_getElem? (i := 13) rfl), tt_7_14 (List.mem_of_getElem? (i := 14) rfl)⟩
theorem lw_p79 : lw_okq (⟨"ProvenRecordModel", "inclusion", "(II)V"⟩, 48) := ⟨⟨by decide +kernel, by decide +kernel⟩, tt_6_7 (List.mem_of_getElem? (i := 8) rfl), ta_8 (List.mem_of_getElem? (i := 1) rfl), ta_8 (List.mem_of_getElem? (i := 2) rfl)⟩
def lw_privs_5 : List (MethodName × Nat) := [(⟨"ProvenRecordModel", "takes", "(I)V"⟩, 48), (⟨"ProvenRecordModel", "shows", "(III)I"⟩, 48), (⟨"ProvenRecordModel", "trust", "(II)I"⟩, 48), (⟨"ProvenRecordModel", "whyByRecord", "(IIIII)I"⟩, 48), (⟨"ProvenRecordModel", "growth", "(II)V"⟩, 48), (⟨"ProvenRecordModel", "growsIn", "(IIIZ)V"⟩, 48), (⟨"ProvenRecordModel", "whyGrown", "(IIIII)I"⟩, 48), (⟨"ProvenRecordModel", "foldsGrowth", "(IIIZ)V"⟩, 48), (⟨"ProvenRecordModel", "trusts", "(III)V"⟩, 48), (⟨"ProvenRecordModel", "ends", "()V"⟩, 48), (⟨"ProvenRecordModel", "statementIn", "()I"⟩, 48), (⟨"ProvenRecordModel", "takesMark", "()I"⟩, 48), (⟨"ProvenRecordModel", "takesMarks", "()I"⟩, 48), (⟨"ProvenRecordModel", "isMark", "(I)Z"⟩, 48), (⟨"ProvenRecordModel", "whyIn", "(IIIII)I"⟩, 48), (⟨"ProvenRecordModel", "inclusion", "(II)V"⟩, 48)]
theorem lw_r5 : ∀ q ∈ lw_privs_5, lw_okq q := List.forall_mem_cons.mpr ⟨lw_p64, List.forall_mem_cons.mpr ⟨lw_p65, List.forall_mem_cons.mpr ⟨lw_p66, List.forall_mem_cons.mpr ⟨lw_p67, List.forall_mem_cons.mpr ⟨lw_p68, List.forall_mem_cons.mpr ⟨lw_p69, List.forall_mem_cons.mpr ⟨lw_p70, List.forall_mem_cons.mpr ⟨lw_p71, List.forall_mem_cons.mpr ⟨lw_p72, List.forall_mem_cons.mpr ⟨lw_p73, List.forall_mem_cons.mpr ⟨lw_p74, List.forall_mem_cons.mpr ⟨lw_p75, List.forall_mem_cons.mpr ⟨lw_p76, List.forall_mem_cons.mpr ⟨lw_p77, List.forall_mem_cons.mpr ⟨lw_p78, List.forall_mem_cons.mpr ⟨lw_p79, fun _ h => absurd h List.not_mem_nil⟩⟩⟩⟩⟩⟩⟩⟩⟩⟩⟩⟩⟩⟩⟩⟩
theorem lw_p80 : lw_okq (⟨"ProvenRecordModel", "waysIn", "(III)V"⟩, 48) := ⟨⟨by decide +kernel, by decide +kernel⟩, tt_6_7 (List.mem_of_getElem? (i := 8) rfl), ta_8 (List.mem_of_getElem? (i := 5) rfl), ta_8 (List.mem_of_getElem? (i := 6) rfl)⟩
theorem lw_p81 : lw_okq (⟨"ProvenRecordModel", "folded", "(III)I"⟩, 48) := ⟨⟨by decide +kernel, by decide +kernel⟩, tt_6_7 (List.mem_of_getElem? (i := 8) rfl), ta_8 (List.mem_of_getElem? (i := 9) rfl), ta_8 (List.mem_of_getElem? (i := 10) rfl)⟩
theorem lw_p82 : lw_okq (⟨"ProvenRecordModel", "foldsIn", "(III)I"⟩, 48) := ⟨⟨by decide +kernel, by decide +kernel⟩, tt_6_7 (List.mem_of_getElem? (i := 8) rfl), ta_8 (List.mem_of_getElem? (i := 13) rfl), ta_8 (List.mem_of_getElem? (i := 14) rfl)⟩
theorem lw_p83 : lw_okq (⟨"ProvenRecordModel", "why", "(IIZ)I"⟩, 48) := ⟨⟨by decide +kernel, by decide +kernel⟩, tt_6_7 (List.mem_of_getElem? (i := 8) rfl), tt_8_1 (List.mem_of_getElem? (i := 1) rfl), tt_8_1 (List.mem_of_getElem? (i := 2) rfl)⟩
theorem lw_p84 : lw_okq (⟨"ProvenRecordModel", "statementGrow", "()I"⟩, 48) := ⟨⟨by decide +kernel, by decide +kernel⟩, tt_6_7 (List.mem_of_getElem? (i := 8) rfl), tt_8_1 (List.mem_of_getElem? (i := 5) rfl), tt_8_1 (List.mem_of_getElem? (i := 6) rfl)⟩
theorem lw_p85 : lw_okq (⟨"ProvenRecordModel", "isRecord", "(I)Z"⟩, 48) := ⟨⟨by decide +kernel, by decide +kernel⟩, tt_6_7 (List.mem_of_getElem? (i := 8) rfl), tt_8_2 (List.mem_of_getElem? (i := 9) rfl), tt_8_2 (List.mem_of_getElem? (i := 10) rfl)⟩
theorem lw_p86 : lw_okq (⟨"ProvenRecordModel", "noSize", "(II)I"⟩, 48) := ⟨⟨by decide +kernel, by decide +kernel⟩, tt_6_7 (List.mem_of_getElem? (i := 8) rfl), tt_8_3 (List.mem_of_getElem? (i := 5) rfl), tt_8_3 (List.mem_of_getElem? (i := 6) rfl)⟩
theorem lw_p87 : lw_okq (⟨"ProvenRecordModel", "froze", "(II)I"⟩, 48) := ⟨⟨by decide +kernel, by decide +kernel⟩, tt_6_7 (List.mem_of_getElem? (i := 8) rfl), tt_8_4 (List.mem_of_getElem? (i := 5) rfl), tt_8_4 (List.mem_of_getElem? (i := 6) rfl)⟩
theorem lw_p88 : lw_okq (⟨"ProvenRecordModel", "isSound", "(I)Z"⟩, 48) := ⟨⟨by decide +kernel, by decide +kernel⟩, tt_6_7 (List.mem_of_getElem? (i := 8) rfl), tt_8_4 (List.mem_of_getElem? (i := 9) rfl), tt_8_4 (List.mem_of_getElem? (i := 10) rfl)⟩
theorem lw_p89 : lw_okq (⟨"ProvenRecordModel", "hand", "()V"⟩, 48) := ⟨⟨by decide +kernel, by decide +kernel⟩, tt_6_7 (List.mem_of_getElem? (i := 8) rfl), tt_8_5 (List.mem_of_getElem? (i := 8) rfl), tt_8_5 (List.mem_of_getElem? (i := 9) rfl)⟩
theorem lw_p90 : lw_okq (⟨"ProvenRecordModel", "noEntry", "(III)I"⟩, 48) := ⟨⟨by decide +kernel, by decide +kernel⟩, tt_6_7 (List.mem_of_getElem? (i := 8) rfl), tt_8_8 (List.mem_of_getElem? (i := 4) rfl), tt_8_8 (List.mem_of_getElem? (i := 5) rfl)⟩
theorem lw_p91 : lw_okq (⟨"ProvenRecordModel", "pads", "(I)I"⟩, 48) := ⟨⟨by decide +kernel, by decide +kernel⟩, tt_6_7 (List.mem_of_getElem? (i := 8) rfl), tt_8_8 (List.mem_of_getElem? (i := 8) rfl), tt_8_8 (List.mem_of_getElem? (i := 9) rfl)⟩
theorem lw_p92 : lw_okq (⟨"ProvenRecordModel", "bundleOf", "(II)V"⟩, 48) := ⟨⟨by decide +kernel, by decide +kernel⟩, tt_6_7 (List.mem_of_getElem? (i := 8) rfl), tt_8_9 (List.mem_of_getElem? (i := 7) rfl), tt_8_9 (List.mem_of_getElem? (i := 8) rfl)⟩
theorem lw_p93 : lw_okq (⟨"ProvenRecordModel", "bundlesIn", "(III)V"⟩, 48) := ⟨⟨by decide +kernel, by decide +kernel⟩, tt_6_7 (List.mem_of_getElem? (i := 8) rfl), tt_8_9 (List.mem_of_getElem? (i := 11) rfl), tt_8_9 (List.mem_of_getElem? (i := 12) rfl)⟩
theorem lw_p94 : lw_okq (⟨"ProvenRecordModel", "isThing", "(II)Z"⟩, 48) := ⟨⟨by decide +kernel, by decide +kernel⟩, tt_6_7 (List.mem_of_getElem? (i := 8) rfl), tt_8_11 (List.mem_of_getElem? (i := 0) rfl), tt_8_11 (List.mem_of_getElem? (i := 1) rfl)⟩
theorem lw_p95 : lw_okq (⟨"ProvenRecordModel", "fromPad", "()I"⟩, 48) := ⟨⟨by decide +kernel, by decide +kernel⟩, tt_6_7 (List.mem_of_getElem? (i := 8) rfl), tt_8_11 (List.mem_of_getElem? (i := 4) rfl), tt_8_11 (List.mem_of_getElem? (i := 5) rfl)⟩
def lw_privs_6 : List (MethodName × Nat) := [(⟨"ProvenRecordModel", "waysIn", "(III)V"⟩, 48), (⟨"ProvenRecordModel", "folded", "(III)I"⟩, 48), (⟨"ProvenRecordModel", "foldsIn", "(III)I"⟩, 48), (⟨"ProvenRecordModel", "why", "(IIZ)I"⟩, 48), (⟨"ProvenRecordModel", "statementGrow", "()I"⟩, 48), (⟨"ProvenRecordModel", "isRecord", "(I)Z"⟩, 48), (⟨"ProvenRecordModel", "noSize", "(II)I"⟩, 48), (⟨"ProvenRecordModel", "froze", "(II)I"⟩, 48), (⟨"ProvenRecordModel", "isSound", "(I)Z"⟩, 48), (⟨"ProvenRecordModel", "hand", "()V"⟩, 48), (⟨"ProvenRecordModel", "noEntry", "(III)I"⟩, 48), (⟨"ProvenRecordModel", "pads", "(I)I"⟩, 48), (⟨"ProvenRecordModel", "bundleOf", "(II)V"⟩, 48), (⟨"ProvenRecordModel", "bundlesIn", "(III)V"⟩, 48), (⟨"ProvenRecordModel", "isThing", "(II)Z"⟩, 48), (⟨"ProvenRecordModel", "fromPad", "()I"⟩, 48)]
theorem lw_r6 : ∀ q ∈ lw_privs_6, lw_okq q := List.forall_mem_cons.mpr ⟨lw_p80, List.forall_mem_cons.mpr ⟨lw_p81, List.forall_mem_cons.mpr ⟨lw_p82, List.forall_mem_cons.mpr ⟨lw_p83, List.forall_mem_cons.mpr ⟨lw_p84, List.forall_mem_cons.mpr ⟨lw_p85, List.forall_mem_cons.mpr ⟨lw_p86, List.forall_mem_cons.mpr ⟨lw_p87, List.forall_mem_cons.mpr ⟨lw_p88, List.forall_mem_cons.mpr ⟨lw_p89, List.forall_mem_cons.mpr ⟨lw_p90, List.forall_mem_cons.mpr ⟨lw_p91, List.forall_mem_cons.mpr ⟨lw_p92, List.forall_mem_cons.mpr ⟨lw_p93, List.forall_mem_cons.mpr ⟨lw_p94, List.forall_mem_cons.mpr ⟨lw_p95, fun _ h => absurd h List.not_mem_nil⟩⟩⟩⟩⟩⟩⟩⟩⟩⟩⟩⟩⟩⟩⟩⟩
theorem lw_p96 : lw_okq (⟨"ProvenRecordModel", "foldsBundle", "(III)I"⟩, 48) := ⟨⟨by decide +kernel, by decide +kernel⟩, tt_6_7 (List.mem_of_getElem? (i := 8) rfl), tt_8_12 (List.mem_of_getElem? (i := 0) rfl), tt_8_12 (List.mem_of_getElem? (i := 1) rfl)⟩
theorem lw_p97 : lw_okq (⟨"ProvenRecordModel", "isAgreed", "(II)Z"⟩, 48) := ⟨⟨by decide +kernel, by decide +kernel⟩, tt_6_7 (List.mem_of_getElem? (i := 8) rfl), tt_8_13 (List.mem_of_getElem? (i := 4) rfl), tt_8_13 (List.mem_of_getElem? (i := 5) rfl)⟩
theorem lw_p98 : lw_okq (⟨"ProvenRecordModel", "isHead", "(III)Z"⟩, 48) := ⟨⟨by decide +kernel, by decide +kernel⟩, tt_6_7 (List.mem_of_getElem? (i := 8) rfl), tt_8_13 (List.mem_of_getElem? (i := 8) rfl), tt_8_13 (List.mem_of_getElem? (i := 9) rfl)⟩
theorem lw_p99 : lw_okq (⟨"ProvenRecordModel", "isTyped", "(I)Z"⟩, 48) := ⟨⟨by decide +kernel, by decide +kernel⟩, tt_6_7 (List.mem_of_getElem? (i := 8) rfl), tt_8_14 (List.mem_of_getElem? (i := 0) rfl), tt_8_14 (List.mem_of_getElem? (i := 1) rfl)⟩
theorem lw_p100 : lw_okq (⟨"ProvenRecordModel", "seeks", "(II)V"⟩, 48) := ⟨⟨by decide +kernel, by decide +kernel⟩, tt_6_7 (List.mem_of_getElem? (i := 8) rfl), tt_8_14 (List.mem_of_getElem? (i := 8) rfl), tt_8_14 (List.mem_of_getElem? (i := 9) rfl)⟩
theorem lw_p101 : lw_okq (⟨"ProvenRecordModel", "stepsIn", "(III)I"⟩, 48) := ⟨⟨by decide +kernel, by decide +kernel⟩, tt_6_7 (List.mem_of_getElem? (i := 8) rfl), tt_9_1 (List.mem_of_getElem? (i := 4) rfl), tt_9_1 (List.mem_of_getElem? (i := 5) rfl)⟩
theorem lw_p102 : lw_okq (⟨"ProvenRecordModel", "wayAt", "(II)I"⟩, 48) := ⟨⟨by decide +kernel, by decide +kernel⟩, tt_6_7 (List.mem_of_getElem? (i := 8) rfl), tt_9_2 (List.mem_of_getElem? (i := 4) rfl), tt_9_2 (List.mem_of_getElem? (i := 5) rfl)⟩
theorem lw_p103 : lw_okq (⟨"ProvenRecordModel", "notes", "()V"⟩, 48) := ⟨⟨by decide +kernel, by decide +kernel⟩, tt_6_7 (List.mem_of_getElem? (i := 8) rfl), tt_9_3 (List.mem_of_getElem? (i := 0) rfl), tt_9_3 (List.mem_of_getElem? (i := 1) rfl)⟩
theorem lw_p104 : lw_okq (⟨"ProvenRecordModel", "had", "(II)Z"⟩, 48) := ⟨⟨by decide +kernel, by decide +kernel⟩, tt_6_7 (List.mem_of_getElem? (i := 8) rfl), tt_9_3 (List.mem_of_getElem? (i := 4) rfl), tt_9_3 (List.mem_of_getElem? (i := 5) rfl)⟩
theorem lw_p105 : lw_okq (⟨"ProvenRecordModel", "sizeAbove", "(II)I"⟩, 48) := ⟨⟨by decide +kernel, by decide +kernel⟩, tt_6_7 (List.mem_of_getElem? (i := 8) rfl), tt_9_4 (List.mem_of_getElem? (i := 0) rfl), tt_9_4 (List.mem_of_getElem? (i := 1) rfl)⟩
theorem lw_p106 : lw_okq (⟨"ProvenRecordModel", "says", "(Ljava/lang/String;I)V"⟩, 48) := ⟨⟨by decide +kernel, by decide +kernel⟩, tt_6_7 (List.mem_of_getElem? (i := 8) rfl), tt_9_4 (List.mem_of_getElem? (i := 13) rfl), tt_9_4 (List.mem_of_getElem? (i := 14) rfl)⟩
theorem lw_p107 : lw_okq (⟨"ProvenRecordModel", "tells", "(I)V"⟩, 48) := ⟨⟨by decide +kernel, by decide +kernel⟩, tt_6_7 (List.mem_of_getElem? (i := 8) rfl), tt_9_5 (List.mem_of_getElem? (i := 1) rfl), tt_9_5 (List.mem_of_getElem? (i := 2) rfl)⟩
theorem lw_p108 : lw_okq (⟨"ProvenRecordModel", "tellsNumber", "(I)V"⟩, 48) := ⟨⟨by decide +kernel, by decide +kernel⟩, tt_6_7 (List.mem_of_getElem? (i := 8) rfl), tt_9_5 (List.mem_of_getElem? (i := 7) rfl), tt_9_5 (List.mem_of_getElem? (i := 8) rfl)⟩
theorem lw_p109 : lw_okq (⟨"ProvenRecordModel", "tellsMarks", "(I)I"⟩, 48) := ⟨⟨by decide +kernel, by decide +kernel⟩, tt_6_7 (List.mem_of_getElem? (i := 8) rfl), tt_9_5 (List.mem_of_getElem? (i := 14) rfl), tt_9_5 (List.mem_of_getElem? (i := 15) rfl)⟩
def lw_privs_7 : List (MethodName × Nat) := [(⟨"ProvenRecordModel", "foldsBundle", "(III)I"⟩, 48), (⟨"ProvenRecordModel", "isAgreed", "(II)Z"⟩, 48), (⟨"ProvenRecordModel", "isHead", "(III)Z"⟩, 48), (⟨"ProvenRecordModel", "isTyped", "(I)Z"⟩, 48), (⟨"ProvenRecordModel", "seeks", "(II)V"⟩, 48), (⟨"ProvenRecordModel", "stepsIn", "(III)I"⟩, 48), (⟨"ProvenRecordModel", "wayAt", "(II)I"⟩, 48), (⟨"ProvenRecordModel", "notes", "()V"⟩, 48), (⟨"ProvenRecordModel", "had", "(II)Z"⟩, 48), (⟨"ProvenRecordModel", "sizeAbove", "(II)I"⟩, 48), (⟨"ProvenRecordModel", "says", "(Ljava/lang/String;I)V"⟩, 48), (⟨"ProvenRecordModel", "tells", "(I)V"⟩, 48), (⟨"ProvenRecordModel", "tellsNumber", "(I)V"⟩, 48), (⟨"ProvenRecordModel", "tellsMarks", "(I)I"⟩, 48)]
theorem lw_r7 : ∀ q ∈ lw_privs_7, lw_okq q := List.forall_mem_cons.mpr ⟨lw_p96, List.forall_mem_cons.mpr ⟨lw_p97, List.forall_mem_cons.mpr ⟨lw_p98, List.forall_mem_cons.mpr ⟨lw_p99, List.forall_mem_cons.mpr ⟨lw_p100, List.forall_mem_cons.mpr ⟨lw_p101, List.forall_mem_cons.mpr ⟨lw_p102, List.forall_mem_cons.mpr ⟨lw_p103, List.forall_mem_cons.mpr ⟨lw_p104, List.forall_mem_cons.mpr ⟨lw_p105, List.forall_mem_cons.mpr ⟨lw_p106, List.forall_mem_cons.mpr ⟨lw_p107, List.forall_mem_cons.mpr ⟨lw_p108, List.forall_mem_cons.mpr ⟨lw_p109, fun _ h => absurd h List.not_mem_nil⟩⟩⟩⟩⟩⟩⟩⟩⟩⟩⟩⟩⟩⟩
def lw_privs : List (MethodName × Nat) := lw_privs_1 ++ (lw_privs_2 ++ (lw_privs_3 ++ (lw_privs_4 ++ (lw_privs_5 ++ (lw_privs_6 ++ (lw_privs_7))))))
def lw_tbl : List Cond := k2_sels lw_privs ++ tables_1
theorem lw_privs_ok : ∀ q ∈ lw_privs, lw_okq q := by
  show ∀ q ∈ lw_privs_1 ++ (lw_privs_2 ++ (lw_privs_3 ++ (lw_privs_4 ++ (lw_privs_5 ++ (lw_privs_6 ++ (lw_privs_7)))))), lw_okq q
  exact List.forall_mem_append.mpr ⟨lw_r1, List.forall_mem_append.mpr ⟨lw_r2, List.forall_mem_append.mpr ⟨lw_r3, List.forall_mem_append.mpr ⟨lw_r4, List.forall_mem_append.mpr ⟨lw_r5, List.forall_mem_append.mpr ⟨lw_r6, lw_r7⟩⟩⟩⟩⟩⟩
end JN1_0
section JN1_1
def RX0 : String := "ProvenRecord$Bundle"
def TX0 : u_T := fun k => match k with
  | 0 => ("ProvenRecord$Bundle", "modulus", "I", false)
  | 1 => ("ProvenRecord$Bundle", "row", "LProvenRecord$Row;", false)
  | 2 => ("ProvenRecord$Bundle", "set", "I", false)
  | 3 => ("ProvenRecord$Bundle", "nextMember", "I", false)
  | _ => ("ProvenRecord$Bundle", "nextOther", "I", false)
def tyX0 : Nat → FieldType := fun k => match k with
  | 0 => .int
  | 1 => .object "ProvenRecord$Row"
  | 2 => .int
  | 3 => .int
  | _ => .int
theorem nmX0 : ∀ a, a < 5 → ∀ b, b < 5 → a ≠ b → (TX0 a).2.1 ≠ (TX0 b).2.1 := by decide +kernel
theorem tyX0_ok : ∀ k, k < 5 → parseFieldDescriptor (TX0 k).2.2.1 = some (tyX0 k) := by decide +kernel
abbrev cX0_init : ByteArray := prog_2_method_1_code
def yX0_init : MethodName := ⟨RX0, "<init>", "()V"⟩
abbrev cX0_why : ByteArray := prog_2_method_2_code
def yX0_why : MethodName := ⟨RX0, "why", "(ILProvenRecord$Row;IIII)I"⟩
abbrev cX0_foldedTree : ByteArray := prog_2_method_3_code
def yX0_foldedTree : MethodName := ⟨RX0, "foldedTree", "(LProvenRecord$Bundle;III)I"⟩
def RX1 : String := "ProvenRecord$Frozen"
def TX1 : u_T := fun k => match k with
  | 0 => ("ProvenRecord$Frozen", "record", "I", false)
  | 1 => ("ProvenRecord$Frozen", "size", "I", false)
  | 2 => ("ProvenRecord$Frozen", "mark", "I", false)
  | 3 => ("ProvenRecord$Frozen", "tick", "I", false)
  | _ => ("ProvenRecord$Frozen", "peakRow", "LProvenRecord$Row;", true)
def tyX1 : Nat → FieldType := fun k => match k with
  | 0 => .int
  | 1 => .int
  | 2 => .int
  | 3 => .int
  | _ => .object "ProvenRecord$Row"
theorem nmX1 : ∀ a, a < 5 → ∀ b, b < 5 → a ≠ b → (TX1 a).2.1 ≠ (TX1 b).2.1 := by decide +kernel
theorem tyX1_ok : ∀ k, k < 5 → parseFieldDescriptor (TX1 k).2.2.1 = some (tyX1 k) := by decide +kernel
abbrev cX1_init : ByteArray := prog_3_method_1_code
def yX1_init : MethodName := ⟨RX1, "<init>", "()V"⟩
def RX2 : String := "ProvenRecord$Log"
def TX2 : u_T := fun k => match k with
  | 0 => ("ProvenRecord$Log", "words", "[LProvenRecord$Word;", true)
  | 1 => ("ProvenRecord$Log", "marks", "[I", true)
  | _ => ("ProvenRecord$Log", "length", "I", false)
def tyX2 : Nat → FieldType := fun k => match k with
  | 0 => .array (.object "ProvenRecord$Word")
  | 1 => .array .int
  | _ => .int
theorem nmX2 : ∀ a, a < 3 → ∀ b, b < 3 → a ≠ b → (TX2 a).2.1 ≠ (TX2 b).2.1 := by decide +kernel
theorem tyX2_ok : ∀ k, k < 3 → parseFieldDescriptor (TX2 k).2.2.1 = some (tyX2 k) := by decide +kernel
abbrev cX2_init : ByteArray := prog_4_method_1_code
def yX2_init : MethodName := ⟨RX2, "<init>", "()V"⟩
abbrev cX2_wordAt : ByteArray := prog_4_method_2_code
def yX2_wordAt : MethodName := ⟨RX2, "wordAt", "(I)LProvenRecord$Word;"⟩
abbrev cX2_markAt : ByteArray := prog_4_method_3_code
def yX2_markAt : MethodName := ⟨RX2, "markAt", "(I)I"⟩
abbrev cX2_putWord : ByteArray := prog_4_method_4_code
def yX2_putWord : MethodName := ⟨RX2, "putWord", "(LProvenRecord$Word;I)V"⟩
abbrev cX2_changeLetter : ByteArray := prog_4_method_5_code
def yX2_changeLetter : MethodName := ⟨RX2, "changeLetter", "(IIII)V"⟩
abbrev cX2_firstLike : ByteArray := prog_4_method_6_code
def yX2_firstLike : MethodName := ⟨RX2, "firstLike", "(LProvenRecord$Word;)I"⟩
abbrev cX2_countLike : ByteArray := prog_4_method_7_code
def yX2_countLike : MethodName := ⟨RX2, "countLike", "(LProvenRecord$Word;)I"⟩
def RX3 : String := "ProvenRecord$Reader"
def TX3 : u_T := fun k => match k with
  | 0 => ("ProvenRecord$Reader", "scanner", "LProvenRecord$Scanner;", true)
  | 1 => ("ProvenRecord$Reader", "row", "LProvenRecord$Row;", true)
  | 2 => ("ProvenRecord$Reader", "way", "LProvenRecord$Way;", true)
  | 3 => ("ProvenRecord$Reader", "modulus", "I", false)
  | 4 => ("ProvenRecord$Reader", "faultKind", "I", false)
  | 5 => ("ProvenRecord$Reader", "faultPlace", "I", false)
  | 6 => ("ProvenRecord$Reader", "line", "I", false)
  | 7 => ("ProvenRecord$Reader", "word", "LProvenRecord$Word;", true)
  | 8 => ("ProvenRecord$Reader", "watcher", "I", false)
  | _ => ("ProvenRecord$Reader", "number", "I", false)
def tyX3 : Nat → FieldType := fun k => match k with
  | 0 => .object "ProvenRecord$Scanner"
  | 1 => .object "ProvenRecord$Row"
  | 2 => .object "ProvenRecord$Way"
  | 3 => .int
  | 4 => .int
  | 5 => .int
  | 6 => .int
  | 7 => .object "ProvenRecord$Word"
  | 8 => .int
  | _ => .int
theorem nmX3 : ∀ a, a < 10 → ∀ b, b < 10 → a ≠ b → (TX3 a).2.1 ≠ (TX3 b).2.1 := by decide +kernel
theorem tyX3_ok : ∀ k, k < 10 → parseFieldDescriptor (TX3 k).2.2.1 = some (tyX3 k) := by decide +kernel
abbrev cX3_init : ByteArray := prog_5_method_1_code
def yX3_init : MethodName := ⟨RX3, "<init>", "()V"⟩
abbrev cX3_begin : ByteArray := prog_5_method_2_code
def yX3_begin : MethodName := ⟨RX3, "begin", "([BI)V"⟩
abbrev cX3_isAtEnd : ByteArray := prog_5_method_3_code
def yX3_isAtEnd : MethodName := ⟨RX3, "isAtEnd", "()Z"⟩
abbrev cX3_readModulus : ByteArray := prog_5_method_4_code
def yX3_readModulus : MethodName := ⟨RX3, "readModulus", "(LProvenRecord$World;)Z"⟩
abbrev cX3_readLine : ByteArray := prog_5_method_5_code
def yX3_readLine : MethodName := ⟨RX3, "readLine", "(LProvenRecord$World;LProvenRecord$Log;)Z"⟩
abbrev cX3_readProofs : ByteArray := prog_5_method_6_code
def yX3_readProofs : MethodName := ⟨RX3, "readProofs", "(ILProvenRecord$Row;)Z"⟩
abbrev cX3_readAdd : ByteArray := prog_5_method_7_code
def yX3_readAdd : MethodName := ⟨RX3, "readAdd", "(LProvenRecord$Log;)Z"⟩
abbrev cX3_readShow : ByteArray := prog_5_method_8_code
def yX3_readShow : MethodName := ⟨RX3, "readShow", "(LProvenRecord$Log;)Z"⟩
abbrev cX3_readInclusion : ByteArray := prog_5_method_9_code
def yX3_readInclusion : MethodName := ⟨RX3, "readInclusion", "(LProvenRecord$Row;)Z"⟩
abbrev cX3_readGrowth : ByteArray := prog_5_method_10_code
def yX3_readGrowth : MethodName := ⟨RX3, "readGrowth", "(LProvenRecord$Row;)Z"⟩
abbrev cX3_readMark : ByteArray := prog_5_method_11_code
def yX3_readMark : MethodName := ⟨RX3, "readMark", "(Ljava/lang/String;)Z"⟩
abbrev cX3_readRow : ByteArray := prog_5_method_12_code
def yX3_readRow : MethodName := ⟨RX3, "readRow", "()Z"⟩
abbrev cX3_readNumber : ByteArray := prog_5_method_13_code
def yX3_readNumber : MethodName := ⟨RX3, "readNumber", "(II)Z"⟩
abbrev cX3_readWord : ByteArray := prog_5_method_14_code
def yX3_readWord : MethodName := ⟨RX3, "readWord", "(Ljava/lang/String;)Z"⟩
abbrev cX3_readSign : ByteArray := prog_5_method_15_code
def yX3_readSign : MethodName := ⟨RX3, "readSign", "()Z"⟩
abbrev cX3_hasRoom : ByteArray := prog_5_method_16_code
def yX3_hasRoom : MethodName := ⟨RX3, "hasRoom", "(II)Z"⟩
abbrev cX3_stray : ByteArray := prog_5_method_17_code
def yX3_stray : MethodName := ⟨RX3, "stray", "()Z"⟩
abbrev cX3_fail : ByteArray := prog_5_method_18_code
def yX3_fail : MethodName := ⟨RX3, "fail", "(I)Z"⟩
def RX4 : String := "ProvenRecord$Roots"
def TX4 : u_T := fun k => match k with
  | 0 => ("ProvenRecord$Roots", "leastOf", "[I", true)
  | 1 => ("ProvenRecord$Roots", "nextOf", "[I", true)
  | 2 => ("ProvenRecord$Roots", "modulus", "I", false)
  | 3 => ("ProvenRecord$Roots", "way", "LProvenRecord$Way;", false)
  | 4 => ("ProvenRecord$Roots", "row", "LProvenRecord$Row;", false)
  | 5 => ("ProvenRecord$Roots", "lastStep", "I", false)
  | 6 => ("ProvenRecord$Roots", "openStep", "I", false)
  | 7 => ("ProvenRecord$Roots", "openWith", "I", false)
  | 8 => ("ProvenRecord$Roots", "except", "I", false)
  | 9 => ("ProvenRecord$Roots", "found", "I", false)
  | _ => ("ProvenRecord$Roots", "lowest", "I", false)
def tyX4 : Nat → FieldType := fun k => match k with
  | 0 => .array .int
  | 1 => .array .int
  | 2 => .int
  | 3 => .object "ProvenRecord$Way"
  | 4 => .object "ProvenRecord$Row"
  | 5 => .int
  | 6 => .int
  | 7 => .int
  | 8 => .int
  | 9 => .int
  | _ => .int
theorem nmX4 : ∀ a, a < 11 → ∀ b, b < 11 → a ≠ b → (TX4 a).2.1 ≠ (TX4 b).2.1 := by decide +kernel
theorem tyX4_ok : ∀ k, k < 11 → parseFieldDescriptor (TX4 k).2.2.1 = some (tyX4 k) := by decide +kernel
abbrev cX4_init : ByteArray := prog_6_method_1_code
def yX4_init : MethodName := ⟨RX4, "<init>", "()V"⟩
abbrev cX4_prepare : ByteArray := prog_6_method_2_code
def yX4_prepare : MethodName := ⟨RX4, "prepare", "(I)V"⟩
abbrev cX4_seekThing : ByteArray := prog_6_method_3_code
def yX4_seekThing : MethodName := ⟨RX4, "seekThing", "(LProvenRecord$Way;LProvenRecord$Row;II)V"⟩
abbrev cX4_seekStep : ByteArray := prog_6_method_4_code
def yX4_seekStep : MethodName := ⟨RX4, "seekStep", "(LProvenRecord$Way;LProvenRecord$Row;III)V"⟩
abbrev cX4_seek : ByteArray := prog_6_method_5_code
def yX4_seek : MethodName := ⟨RX4, "seek", "(I)V"⟩
abbrev cX4_goBack : ByteArray := prog_6_method_6_code
def yX4_goBack : MethodName := ⟨RX4, "goBack", "(LProvenRecord$Roots;II)V"⟩
abbrev cX4_take : ByteArray := prog_6_method_7_code
def yX4_take : MethodName := ⟨RX4, "take", "(I)V"⟩
abbrev cX4_secondOf : ByteArray := prog_6_method_8_code
def yX4_secondOf : MethodName := ⟨RX4, "secondOf", "(II)I"⟩
abbrev cX4_leastRoot : ByteArray := prog_6_method_9_code
def yX4_leastRoot : MethodName := ⟨RX4, "leastRoot", "(II)I"⟩
abbrev cX4_firstOf : ByteArray := prog_6_method_10_code
def yX4_firstOf : MethodName := ⟨RX4, "firstOf", "(I)I"⟩
abbrev cX4_restOf : ByteArray := prog_6_method_11_code
def yX4_restOf : MethodName := ⟨RX4, "restOf", "(J)I"⟩
def RX5 : String := "ProvenRecord$Row"
def TX5 : u_T := fun k => match k with
  | 0 => ("ProvenRecord$Row", "marks", "[I", true)
  | _ => ("ProvenRecord$Row", "count", "I", false)
def tyX5 : Nat → FieldType := fun k => match k with
  | 0 => .array .int
  | _ => .int
theorem nmX5 : ∀ a, a < 2 → ∀ b, b < 2 → a ≠ b → (TX5 a).2.1 ≠ (TX5 b).2.1 := by decide +kernel
theorem tyX5_ok : ∀ k, k < 2 → parseFieldDescriptor (TX5 k).2.2.1 = some (tyX5 k) := by decide +kernel
abbrev cX5_init : ByteArray := prog_7_method_1_code
def yX5_init : MethodName := ⟨RX5, "<init>", "()V"⟩
abbrev cX5_at : ByteArray := prog_7_method_2_code
def yX5_at : MethodName := ⟨RX5, "at", "(I)I"⟩
abbrev cX5_put : ByteArray := prog_7_method_3_code
def yX5_put : MethodName := ⟨RX5, "put", "(I)V"⟩
abbrev cX5_change : ByteArray := prog_7_method_4_code
def yX5_change : MethodName := ⟨RX5, "change", "(II)V"⟩
abbrev cX5_shorten : ByteArray := prog_7_method_5_code
def yX5_shorten : MethodName := ⟨RX5, "shorten", "(I)V"⟩
abbrev cX5_countOf : ByteArray := prog_7_method_6_code
def yX5_countOf : MethodName := ⟨RX5, "countOf", "(I)I"⟩
abbrev cX5_putPeak : ByteArray := prog_7_method_7_code
def yX5_putPeak : MethodName := ⟨RX5, "putPeak", "(III)V"⟩
abbrev cX5_foldedPeaks : ByteArray := prog_7_method_8_code
def yX5_foldedPeaks : MethodName := ⟨RX5, "foldedPeaks", "(I)I"⟩
def RX6 : String := "ProvenRecord$Scanner"
def TX6 : u_T := fun k => match k with
  | 0 => ("ProvenRecord$Scanner", "bytes", "[B", false)
  | 1 => ("ProvenRecord$Scanner", "end", "I", false)
  | 2 => ("ProvenRecord$Scanner", "next", "I", false)
  | 3 => ("ProvenRecord$Scanner", "kind", "I", false)
  | 4 => ("ProvenRecord$Scanner", "place", "I", false)
  | 5 => ("ProvenRecord$Scanner", "length", "I", false)
  | _ => ("ProvenRecord$Scanner", "value", "I", false)
def tyX6 : Nat → FieldType := fun k => match k with
  | 0 => .array .byte
  | 1 => .int
  | 2 => .int
  | 3 => .int
  | 4 => .int
  | 5 => .int
  | _ => .int
theorem nmX6 : ∀ a, a < 7 → ∀ b, b < 7 → a ≠ b → (TX6 a).2.1 ≠ (TX6 b).2.1 := by decide +kernel
theorem tyX6_ok : ∀ k, k < 7 → parseFieldDescriptor (TX6 k).2.2.1 = some (tyX6 k) := by decide +kernel
abbrev cX6_init : ByteArray := prog_8_method_1_code
def yX6_init : MethodName := ⟨RX6, "<init>", "()V"⟩
abbrev cX6_begin : ByteArray := prog_8_method_2_code
def yX6_begin : MethodName := ⟨RX6, "begin", "([BI)V"⟩
abbrev cX6_advance : ByteArray := prog_8_method_3_code
def yX6_advance : MethodName := ⟨RX6, "advance", "()V"⟩
abbrev cX6_spells : ByteArray := prog_8_method_4_code
def yX6_spells : MethodName := ⟨RX6, "spells", "(Ljava/lang/String;)Z"⟩
abbrev cX6_copyWord : ByteArray := prog_8_method_5_code
def yX6_copyWord : MethodName := ⟨RX6, "copyWord", "(LProvenRecord$Word;)V"⟩
abbrev cX6_byteAt : ByteArray := prog_8_method_6_code
def yX6_byteAt : MethodName := ⟨RX6, "byteAt", "(I)I"⟩
abbrev cX6_isBlank : ByteArray := prog_8_method_7_code
def yX6_isBlank : MethodName := ⟨RX6, "isBlank", "(I)Z"⟩
abbrev cX6_kindOf : ByteArray := prog_8_method_8_code
def yX6_kindOf : MethodName := ⟨RX6, "kindOf", "(I)I"⟩
def RX7 : String := "ProvenRecord$Watcher"
def TX7 : u_T := fun k => match k with
  | 0 => ("ProvenRecord$Watcher", "size", "I", false)
  | 1 => ("ProvenRecord$Watcher", "head", "I", false)
  | 2 => ("ProvenRecord$Watcher", "timesShown", "I", false)
  | _ => ("ProvenRecord$Watcher", "alarmed", "Z", false)
def tyX7 : Nat → FieldType := fun k => match k with
  | 0 => .int
  | 1 => .int
  | 2 => .int
  | _ => .boolean
theorem nmX7 : ∀ a, a < 4 → ∀ b, b < 4 → a ≠ b → (TX7 a).2.1 ≠ (TX7 b).2.1 := by decide +kernel
theorem tyX7_ok : ∀ k, k < 4 → parseFieldDescriptor (TX7 k).2.2.1 = some (tyX7 k) := by decide +kernel
abbrev cX7_init : ByteArray := prog_9_method_1_code
def yX7_init : MethodName := ⟨RX7, "<init>", "()V"⟩
abbrev cX7_renew : ByteArray := prog_9_method_2_code
def yX7_renew : MethodName := ⟨RX7, "renew", "()V"⟩
abbrev cX7_trust : ByteArray := prog_9_method_3_code
def yX7_trust : MethodName := ⟨RX7, "trust", "(II)V"⟩
abbrev cX7_hearWhy : ByteArray := prog_9_method_4_code
def yX7_hearWhy : MethodName := ⟨RX7, "hearWhy", "(I)V"⟩
def RX8 : String := "ProvenRecord$Way"
def TX8 : u_T := fun k => match k with
  | 0 => ("ProvenRecord$Way", "firsts", "[I", true)
  | 1 => ("ProvenRecord$Way", "manys", "[I", true)
  | 2 => ("ProvenRecord$Way", "aheads", "[Z", true)
  | 3 => ("ProvenRecord$Way", "count", "I", false)
  | _ => ("ProvenRecord$Way", "hasStart", "Z", false)
def tyX8 : Nat → FieldType := fun k => match k with
  | 0 => .array .int
  | 1 => .array .int
  | 2 => .array .boolean
  | 3 => .int
  | _ => .boolean
theorem nmX8 : ∀ a, a < 5 → ∀ b, b < 5 → a ≠ b → (TX8 a).2.1 ≠ (TX8 b).2.1 := by decide +kernel
theorem tyX8_ok : ∀ k, k < 5 → parseFieldDescriptor (TX8 k).2.2.1 = some (tyX8 k) := by decide +kernel
abbrev cX8_init : ByteArray := prog_10_method_1_code
def yX8_init : MethodName := ⟨RX8, "<init>", "()V"⟩
abbrev cX8_firstAt : ByteArray := prog_10_method_2_code
def yX8_firstAt : MethodName := ⟨RX8, "firstAt", "(I)I"⟩
abbrev cX8_manyAt : ByteArray := prog_10_method_3_code
def yX8_manyAt : MethodName := ⟨RX8, "manyAt", "(I)I"⟩
abbrev cX8_isAhead : ByteArray := prog_10_method_4_code
def yX8_isAhead : MethodName := ⟨RX8, "isAhead", "(I)Z"⟩
abbrev cX8_toThing : ByteArray := prog_10_method_5_code
def yX8_toThing : MethodName := ⟨RX8, "toThing", "(II)V"⟩
abbrev cX8_toGrowth : ByteArray := prog_10_method_6_code
def yX8_toGrowth : MethodName := ⟨RX8, "toGrowth", "(II)V"⟩
abbrev cX8_toBundle : ByteArray := prog_10_method_7_code
def yX8_toBundle : MethodName := ⟨RX8, "toBundle", "(II)V"⟩
abbrev cX8_putGreatestWithout : ByteArray := prog_10_method_8_code
def yX8_putGreatestWithout : MethodName := ⟨RX8, "putGreatestWithout", "(III)I"⟩
abbrev cX8_toTree : ByteArray := prog_10_method_9_code
def yX8_toTree : MethodName := ⟨RX8, "toTree", "(II)V"⟩
abbrev cX8_countShared : ByteArray := prog_10_method_10_code
def yX8_countShared : MethodName := ⟨RX8, "countShared", "(LProvenRecord$Way;)I"⟩
abbrev cX8_joined : ByteArray := prog_10_method_11_code
def yX8_joined : MethodName := ⟨RX8, "joined", "(IIII)I"⟩
abbrev cX8_folded : ByteArray := prog_10_method_12_code
def yX8_folded : MethodName := ⟨RX8, "folded", "(ILProvenRecord$Row;II)I"⟩
abbrev cX8_whyInclusion : ByteArray := prog_10_method_13_code
def yX8_whyInclusion : MethodName := ⟨RX8, "whyInclusion", "(ILProvenRecord$Row;II)I"⟩
abbrev cX8_whyGrowth : ByteArray := prog_10_method_14_code
def yX8_whyGrowth : MethodName := ⟨RX8, "whyGrowth", "(ILProvenRecord$Row;IIII)I"⟩
abbrev cX8_clear : ByteArray := prog_10_method_15_code
def yX8_clear : MethodName := ⟨RX8, "clear", "()V"⟩
abbrev cX8_put : ByteArray := prog_10_method_16_code
def yX8_put : MethodName := ⟨RX8, "put", "(IIZ)V"⟩
abbrev cX8_turnRound : ByteArray := prog_10_method_17_code
def yX8_turnRound : MethodName := ⟨RX8, "turnRound", "()V"⟩
def RX9 : String := "ProvenRecord$Word"
def TX9 : u_T := fun k => match k with
  | 0 => ("ProvenRecord$Word", "letters", "[B", true)
  | _ => ("ProvenRecord$Word", "length", "I", false)
def tyX9 : Nat → FieldType := fun k => match k with
  | 0 => .array .byte
  | _ => .int
theorem nmX9 : ∀ a, a < 2 → ∀ b, b < 2 → a ≠ b → (TX9 a).2.1 ≠ (TX9 b).2.1 := by decide +kernel
theorem tyX9_ok : ∀ k, k < 2 → parseFieldDescriptor (TX9 k).2.2.1 = some (tyX9 k) := by decide +kernel
abbrev cX9_init : ByteArray := prog_11_method_1_code
def yX9_init : MethodName := ⟨RX9, "<init>", "()V"⟩
abbrev cX9_clear : ByteArray := prog_11_method_2_code
def yX9_clear : MethodName := ⟨RX9, "clear", "()V"⟩
abbrev cX9_put : ByteArray := prog_11_method_3_code
def yX9_put : MethodName := ⟨RX9, "put", "(I)V"⟩
abbrev cX9_letterAt : ByteArray := prog_11_method_4_code
def yX9_letterAt : MethodName := ⟨RX9, "letterAt", "(I)I"⟩
abbrev cX9_change : ByteArray := prog_11_method_5_code
def yX9_change : MethodName := ⟨RX9, "change", "(II)V"⟩
abbrev cX9_copy : ByteArray := prog_11_method_6_code
def yX9_copy : MethodName := ⟨RX9, "copy", "(LProvenRecord$Word;)V"⟩
abbrev cX9_isLike : ByteArray := prog_11_method_7_code
def yX9_isLike : MethodName := ⟨RX9, "isLike", "(LProvenRecord$Word;)Z"⟩
abbrev cX9_markBy : ByteArray := prog_11_method_8_code
def yX9_markBy : MethodName := ⟨RX9, "markBy", "(I)I"⟩
def RX10 : String := "ProvenRecord$World"
def TX10 : u_T := fun k => match k with
  | 0 => ("ProvenRecord$World", "modulus", "I", false)
  | 1 => ("ProvenRecord$World", "logs", "[LProvenRecord$Log;", true)
  | 2 => ("ProvenRecord$World", "logCount", "I", false)
  | 3 => ("ProvenRecord$World", "frozens", "[LProvenRecord$Frozen;", true)
  | 4 => ("ProvenRecord$World", "frozenCount", "I", false)
  | 5 => ("ProvenRecord$World", "watchers", "[LProvenRecord$Watcher;", true)
  | 6 => ("ProvenRecord$World", "acts", "I", false)
  | 7 => ("ProvenRecord$World", "joining", "[I", true)
  | 8 => ("ProvenRecord$World", "grown", "LProvenRecord$Row;", true)
  | _ => ("ProvenRecord$World", "grownWay", "LProvenRecord$Way;", true)
def tyX10 : Nat → FieldType := fun k => match k with
  | 0 => .int
  | 1 => .array (.object "ProvenRecord$Log")
  | 2 => .int
  | 3 => .array (.object "ProvenRecord$Frozen")
  | 4 => .int
  | 5 => .array (.object "ProvenRecord$Watcher")
  | 6 => .int
  | 7 => .array .int
  | 8 => .object "ProvenRecord$Row"
  | _ => .object "ProvenRecord$Way"
theorem nmX10 : ∀ a, a < 10 → ∀ b, b < 10 → a ≠ b → (TX10 a).2.1 ≠ (TX10 b).2.1 := by decide +kernel
theorem tyX10_ok : ∀ k, k < 10 → parseFieldDescriptor (TX10 k).2.2.1 = some (tyX10 k) := by decide +kernel
abbrev cX10_init : ByteArray := prog_12_method_1_code
def yX10_init : MethodName := ⟨RX10, "<init>", "()V"⟩
abbrev cX10_renew : ByteArray := prog_12_method_2_code
def yX10_renew : MethodName := ⟨RX10, "renew", "()V"⟩
abbrev cX10_logAt : ByteArray := prog_12_method_3_code
def yX10_logAt : MethodName := ⟨RX10, "logAt", "(I)LProvenRecord$Log;"⟩
abbrev cX10_frozenAt : ByteArray := prog_12_method_4_code
def yX10_frozenAt : MethodName := ⟨RX10, "frozenAt", "(I)LProvenRecord$Frozen;"⟩
abbrev cX10_watcherAt : ByteArray := prog_12_method_5_code
def yX10_watcherAt : MethodName := ⟨RX10, "watcherAt", "(I)LProvenRecord$Watcher;"⟩
abbrev cX10_alarmedBits : ByteArray := prog_12_method_6_code
def yX10_alarmedBits : MethodName := ⟨RX10, "alarmedBits", "()I"⟩
abbrev cX10_treeMark : ByteArray := prog_12_method_7_code
def yX10_treeMark : MethodName := ⟨RX10, "treeMark", "(LProvenRecord$Log;II)I"⟩
abbrev cX10_peaksOf : ByteArray := prog_12_method_8_code
def yX10_peaksOf : MethodName := ⟨RX10, "peaksOf", "(LProvenRecord$Log;ILProvenRecord$Row;)V"⟩
abbrev cX10_headOf : ByteArray := prog_12_method_9_code
def yX10_headOf : MethodName := ⟨RX10, "headOf", "(LProvenRecord$Log;I)I"⟩
abbrev cX10_hasHead : ByteArray := prog_12_method_10_code
def yX10_hasHead : MethodName := ⟨RX10, "hasHead", "(LProvenRecord$Log;II)Z"⟩
abbrev cX10_marksAlong : ByteArray := prog_12_method_11_code
def yX10_marksAlong : MethodName := ⟨RX10, "marksAlong", "(LProvenRecord$Way;LProvenRecord$Log;LProvenRecord$Row;)V"⟩
abbrev cX10_addWord : ByteArray := prog_12_method_12_code
def yX10_addWord : MethodName := ⟨RX10, "addWord", "(LProvenRecord$Log;LProvenRecord$Word;)V"⟩
abbrev cX10_forkLog : ByteArray := prog_12_method_13_code
def yX10_forkLog : MethodName := ⟨RX10, "forkLog", "(LProvenRecord$Log;I)I"⟩
abbrev cX10_freezeHead : ByteArray := prog_12_method_14_code
def yX10_freezeHead : MethodName := ⟨RX10, "freezeHead", "(I)I"⟩
abbrev cX10_spoilLetter : ByteArray := prog_12_method_15_code
def yX10_spoilLetter : MethodName := ⟨RX10, "spoilLetter", "(LProvenRecord$Log;III)V"⟩
abbrev cX10_whyGrown : ByteArray := prog_12_method_16_code
def yX10_whyGrown : MethodName := ⟨RX10, "whyGrown", "(LProvenRecord$Log;IIII)I"⟩
abbrev cX10_showTo : ByteArray := prog_12_method_17_code
def yX10_showTo : MethodName := ⟨RX10, "showTo", "(LProvenRecord$Watcher;LProvenRecord$Log;I)I"⟩
abbrev cX10_meetBy : ByteArray := prog_12_method_18_code
def yX10_meetBy : MethodName := ⟨RX10, "meetBy", "(LProvenRecord$Watcher;LProvenRecord$Watcher;LProvenRecord$Log;)I"⟩
abbrev cX10_doAgree : ByteArray := prog_12_method_19_code
def yX10_doAgree : MethodName := ⟨RX10, "doAgree", "(LProvenRecord$Watcher;LProvenRecord$Watcher;)Z"⟩
abbrev cX10_isSound : ByteArray := prog_12_method_20_code
def yX10_isSound : MethodName := ⟨RX10, "isSound", "(LProvenRecord$Frozen;)Z"⟩
abbrev cX10_sickBits : ByteArray := prog_12_method_21_code
def yX10_sickBits : MethodName := ⟨RX10, "sickBits", "(LProvenRecord$Frozen;LProvenRecord$Row;)I"⟩
abbrev cX10_countUnsound : ByteArray := prog_12_method_22_code
def yX10_countUnsound : MethodName := ⟨RX10, "countUnsound", "(I)I"⟩
abbrev cX10_leastUnsound : ByteArray := prog_12_method_23_code
def yX10_leastUnsound : MethodName := ⟨RX10, "leastUnsound", "(I)I"⟩
abbrev cX10_greatestSoundBelow : ByteArray := prog_12_method_24_code
def yX10_greatestSoundBelow : MethodName := ⟨RX10, "greatestSoundBelow", "(II)I"⟩
abbrev cX10_leastFrozenAbove : ByteArray := prog_12_method_25_code
def yX10_leastFrozenAbove : MethodName := ⟨RX10, "leastFrozenAbove", "(II)I"⟩
abbrev cX10_partingEntry : ByteArray := prog_12_method_26_code
def yX10_partingEntry : MethodName := ⟨RX10, "partingEntry", "(LProvenRecord$Log;LProvenRecord$Log;)I"⟩
abbrev cX10_partingCompared : ByteArray := prog_12_method_27_code
def yX10_partingCompared : MethodName := ⟨RX10, "partingCompared", "(LProvenRecord$Log;LProvenRecord$Log;)I"⟩
abbrev cX10_partingTrees : ByteArray := prog_12_method_28_code
def yX10_partingTrees : MethodName := ⟨RX10, "partingTrees", "(LProvenRecord$Log;LProvenRecord$Log;IZ)I"⟩
def RX11 : String := "ProvenRecord"
def TX11 : u_T := fun k => match k with
  | 0 => ("ProvenRecord", "status", "I", false)
  | 1 => ("ProvenRecord", "world", "LProvenRecord$World;", false)
  | 2 => ("ProvenRecord", "spare", "LProvenRecord$World;", false)
  | 3 => ("ProvenRecord", "pad", "LProvenRecord$Row;", true)
  | 4 => ("ProvenRecord", "tape", "[B", true)
  | 5 => ("ProvenRecord", "tapeCount", "I", false)
  | 6 => ("ProvenRecord", "typed", "LProvenRecord$Word;", false)
  | 7 => ("ProvenRecord", "untyped", "LProvenRecord$Word;", false)
  | 8 => ("ProvenRecord", "heardWhys", "LProvenRecord$Row;", false)
  | 9 => ("ProvenRecord", "hearingWhys", "LProvenRecord$Row;", false)
  | 10 => ("ProvenRecord", "told", "[B", true)
  | 11 => ("ProvenRecord", "toldCount", "I", false)
  | 12 => ("ProvenRecord", "way", "LProvenRecord$Way;", true)
  | 13 => ("ProvenRecord", "otherWay", "LProvenRecord$Way;", true)
  | 14 => ("ProvenRecord", "proof", "LProvenRecord$Row;", true)
  | 15 => ("ProvenRecord", "bundling", "LProvenRecord$Bundle;", true)
  | 16 => ("ProvenRecord", "reader", "LProvenRecord$Reader;", true)
  | 17 => ("ProvenRecord", "links", "[I", true)
  | _ => ("ProvenRecord", "roots", "LProvenRecord$Roots;", false)
def tyX11 : Nat → FieldType := fun k => match k with
  | 0 => .int
  | 1 => .object "ProvenRecord$World"
  | 2 => .object "ProvenRecord$World"
  | 3 => .object "ProvenRecord$Row"
  | 4 => .array .byte
  | 5 => .int
  | 6 => .object "ProvenRecord$Word"
  | 7 => .object "ProvenRecord$Word"
  | 8 => .object "ProvenRecord$Row"
  | 9 => .object "ProvenRecord$Row"
  | 10 => .array .byte
  | 11 => .int
  | 12 => .object "ProvenRecord$Way"
  | 13 => .object "ProvenRecord$Way"
  | 14 => .object "ProvenRecord$Row"
  | 15 => .object "ProvenRecord$Bundle"
  | 16 => .object "ProvenRecord$Reader"
  | 17 => .array .int
  | _ => .object "ProvenRecord$Roots"
theorem nmX11 : ∀ a, a < 19 → ∀ b, b < 19 → a ≠ b → (TX11 a).2.1 ≠ (TX11 b).2.1 := by decide +kernel
theorem tyX11_ok : ∀ k, k < 19 → parseFieldDescriptor (TX11 k).2.2.1 = some (tyX11 k) := by decide +kernel
abbrev cX11_init : ByteArray := prog_1_method_1_code
def yX11_init : MethodName := ⟨RX11, "<init>", "()V"⟩
abbrev cX11_status : ByteArray := prog_1_method_2_code
def yX11_status : MethodName := ⟨RX11, "status", "()I"⟩
abbrev cX11_feed : ByteArray := prog_1_method_3_code
def yX11_feed : MethodName := ⟨RX11, "feed", "(IIIII)I"⟩
abbrev cX11_load : ByteArray := prog_1_method_4_code
def yX11_load : MethodName := ⟨RX11, "load", "(I)I"⟩
abbrev cX11_hear : ByteArray := prog_1_method_5_code
def yX11_hear : MethodName := ⟨RX11, "hear", "(I)I"⟩
abbrev cX11_heard : ByteArray := prog_1_method_6_code
def yX11_heard : MethodName := ⟨RX11, "heard", "(I)I"⟩
abbrev cX11_fault : ByteArray := prog_1_method_7_code
def yX11_fault : MethodName := ⟨RX11, "fault", "(I)I"⟩
abbrev cX11_type : ByteArray := prog_1_method_8_code
def yX11_type : MethodName := ⟨RX11, "type", "(II)I"⟩
abbrev cX11_many : ByteArray := prog_1_method_9_code
def yX11_many : MethodName := ⟨RX11, "many", "(I)I"⟩
abbrev cX11_size : ByteArray := prog_1_method_10_code
def yX11_size : MethodName := ⟨RX11, "size", "(I)I"⟩
abbrev cX11_entry : ByteArray := prog_1_method_11_code
def yX11_entry : MethodName := ⟨RX11, "entry", "(III)I"⟩
abbrev cX11_head : ByteArray := prog_1_method_12_code
def yX11_head : MethodName := ⟨RX11, "head", "(II)I"⟩
abbrev cX11_join : ByteArray := prog_1_method_13_code
def yX11_join : MethodName := ⟨RX11, "join", "(II)I"⟩
abbrev cX11_mark : ByteArray := prog_1_method_14_code
def yX11_mark : MethodName := ⟨RX11, "mark", "()I"⟩
abbrev cX11_frozen : ByteArray := prog_1_method_15_code
def yX11_frozen : MethodName := ⟨RX11, "frozen", "(II)I"⟩
abbrev cX11_watcher : ByteArray := prog_1_method_16_code
def yX11_watcher : MethodName := ⟨RX11, "watcher", "(II)I"⟩
abbrev cX11_add : ByteArray := prog_1_method_17_code
def yX11_add : MethodName := ⟨RX11, "add", "(I)I"⟩
abbrev cX11_fork : ByteArray := prog_1_method_18_code
def yX11_fork : MethodName := ⟨RX11, "fork", "(II)I"⟩
abbrev cX11_freeze : ByteArray := prog_1_method_19_code
def yX11_freeze : MethodName := ⟨RX11, "freeze", "(I)I"⟩
abbrev cX11_show : ByteArray := prog_1_method_20_code
def yX11_show : MethodName := ⟨RX11, "show", "(III)I"⟩
abbrev cX11_meet : ByteArray := prog_1_method_21_code
def yX11_meet : MethodName := ⟨RX11, "meet", "(III)I"⟩
abbrev cX11_spoil : ByteArray := prog_1_method_22_code
def yX11_spoil : MethodName := ⟨RX11, "spoil", "(IIII)I"⟩
abbrev cX11_push : ByteArray := prog_1_method_23_code
def yX11_push : MethodName := ⟨RX11, "push", "(I)I"⟩
abbrev cX11_poke : ByteArray := prog_1_method_24_code
def yX11_poke : MethodName := ⟨RX11, "poke", "(II)I"⟩
abbrev cX11_pad : ByteArray := prog_1_method_25_code
def yX11_pad : MethodName := ⟨RX11, "pad", "(I)I"⟩
abbrev cX11_cut : ByteArray := prog_1_method_26_code
def yX11_cut : MethodName := ⟨RX11, "cut", "(I)I"⟩
abbrev cX11_include : ByteArray := prog_1_method_27_code
def yX11_include : MethodName := ⟨RX11, "include", "(III)I"⟩
abbrev cX11_grow : ByteArray := prog_1_method_28_code
def yX11_grow : MethodName := ⟨RX11, "grow", "(III)I"⟩
abbrev cX11_bundle : ByteArray := prog_1_method_29_code
def yX11_bundle : MethodName := ⟨RX11, "bundle", "(III)I"⟩
abbrev cX11_peaks : ByteArray := prog_1_method_30_code
def yX11_peaks : MethodName := ⟨RX11, "peaks", "(II)I"⟩
abbrev cX11_extend : ByteArray := prog_1_method_31_code
def yX11_extend : MethodName := ⟨RX11, "extend", "(II)I"⟩
abbrev cX11_checks : ByteArray := prog_1_method_32_code
def yX11_checks : MethodName := ⟨RX11, "checks", "(IIII)I"⟩
abbrev cX11_growth : ByteArray := prog_1_method_33_code
def yX11_growth : MethodName := ⟨RX11, "growth", "(IIII)I"⟩
abbrev cX11_bundled : ByteArray := prog_1_method_34_code
def yX11_bundled : MethodName := ⟨RX11, "bundled", "(III)I"⟩
abbrev cX11_fold : ByteArray := prog_1_method_35_code
def yX11_fold : MethodName := ⟨RX11, "fold", "()I"⟩
abbrev cX11_steps : ByteArray := prog_1_method_36_code
def yX11_steps : MethodName := ⟨RX11, "steps", "(II)I"⟩
abbrev cX11_climbs : ByteArray := prog_1_method_37_code
def yX11_climbs : MethodName := ⟨RX11, "climbs", "(II)I"⟩
abbrev cX11_agree : ByteArray := prog_1_method_38_code
def yX11_agree : MethodName := ⟨RX11, "agree", "(II)I"⟩
abbrev cX11_where : ByteArray := prog_1_method_39_code
def yX11_where : MethodName := ⟨RX11, "where", "(II)I"⟩
abbrev cX11_tree : ByteArray := prog_1_method_40_code
def yX11_tree : MethodName := ⟨RX11, "tree", "(IIII)I"⟩
abbrev cX11_proves : ByteArray := prog_1_method_41_code
def yX11_proves : MethodName := ⟨RX11, "proves", "(II)I"⟩
abbrev cX11_longest : ByteArray := prog_1_method_42_code
def yX11_longest : MethodName := ⟨RX11, "longest", "(II)I"⟩
abbrev cX11_part : ByteArray := prog_1_method_43_code
def yX11_part : MethodName := ⟨RX11, "part", "(III)I"⟩
abbrev cX11_blame : ByteArray := prog_1_method_44_code
def yX11_blame : MethodName := ⟨RX11, "blame", "(II)I"⟩
abbrev cX11_weak : ByteArray := prog_1_method_45_code
def yX11_weak : MethodName := ⟨RX11, "weak", "(IIII)I"⟩
abbrev cX11_clash : ByteArray := prog_1_method_46_code
def yX11_clash : MethodName := ⟨RX11, "clash", "(IIIII)I"⟩
abbrev cX11_forge : ByteArray := prog_1_method_47_code
def yX11_forge : MethodName := ⟨RX11, "forge", "(IIIII)I"⟩
abbrev cX11_trace : ByteArray := prog_1_method_48_code
def yX11_trace : MethodName := ⟨RX11, "trace", "(IIII)I"⟩
abbrev cX11_span : ByteArray := prog_1_method_49_code
def yX11_span : MethodName := ⟨RX11, "span", "(IIII)I"⟩
abbrev cX11_rise : ByteArray := prog_1_method_50_code
def yX11_rise : MethodName := ⟨RX11, "rise", "(IIII)I"⟩
abbrev cX11_kept : ByteArray := prog_1_method_51_code
def yX11_kept : MethodName := ⟨RX11, "kept", "(III)I"⟩
abbrev cX11_sick : ByteArray := prog_1_method_52_code
def yX11_sick : MethodName := ⟨RX11, "sick", "(I)I"⟩
abbrev cX11_chain : ByteArray := prog_1_method_53_code
def yX11_chain : MethodName := ⟨RX11, "chain", "(II)I"⟩
abbrev cX11_split : ByteArray := prog_1_method_54_code
def yX11_split : MethodName := ⟨RX11, "split", "(I)I"⟩
abbrev cX11_tell : ByteArray := prog_1_method_55_code
def yX11_tell : MethodName := ⟨RX11, "tell", "(III)I"⟩
abbrev cX11_tellGrowth : ByteArray := prog_1_method_56_code
def yX11_tellGrowth : MethodName := ⟨RX11, "tellGrowth", "(III)I"⟩
abbrev cX11_out : ByteArray := prog_1_method_57_code
def yX11_out : MethodName := ⟨RX11, "out", "(I)I"⟩
abbrev cX11_trusted : ByteArray := prog_1_method_58_code
def yX11_trusted : MethodName := ⟨RX11, "trusted", "(II)I"⟩
abbrev cX11_saves : ByteArray := prog_1_method_59_code
def yX11_saves : MethodName := ⟨RX11, "saves", "(II)I"⟩
abbrev cX11_who : ByteArray := prog_1_method_60_code
def yX11_who : MethodName := ⟨RX11, "who", "(II)I"⟩
abbrev cX11_answer : ByteArray := prog_1_method_61_code
def yX11_answer : MethodName := ⟨RX11, "answer", "(I)I"⟩
abbrev cX11_refuse : ByteArray := prog_1_method_62_code
def yX11_refuse : MethodName := ⟨RX11, "refuse", "(I)I"⟩
abbrev cX11_putOnTape : ByteArray := prog_1_method_63_code
def yX11_putOnTape : MethodName := ⟨RX11, "putOnTape", "(I)V"⟩
abbrev cX11_loadLines : ByteArray := prog_1_method_64_code
def yX11_loadLines : MethodName := ⟨RX11, "loadLines", "(I)Z"⟩
abbrev cX11_isMark : ByteArray := prog_1_method_65_code
def yX11_isMark : MethodName := ⟨RX11, "isMark", "(I)Z"⟩
abbrev cX11_isThing : ByteArray := prog_1_method_66_code
def yX11_isThing : MethodName := ⟨RX11, "isThing", "(II)Z"⟩
abbrev cX11_isSet : ByteArray := prog_1_method_67_code
def yX11_isSet : MethodName := ⟨RX11, "isSet", "(I)Z"⟩
abbrev cX11_lieBelow : ByteArray := prog_1_method_68_code
def yX11_lieBelow : MethodName := ⟨RX11, "lieBelow", "(II)Z"⟩
abbrev cX11_wrongInclusion : ByteArray := prog_1_method_69_code
def yX11_wrongInclusion : MethodName := ⟨RX11, "wrongInclusion", "(LProvenRecord$Log;II)I"⟩
abbrev cX11_wrongGrowth : ByteArray := prog_1_method_70_code
def yX11_wrongGrowth : MethodName := ⟨RX11, "wrongGrowth", "(LProvenRecord$Log;II)I"⟩
abbrev cX11_preparedRoots : ByteArray := prog_1_method_71_code
def yX11_preparedRoots : MethodName := ⟨RX11, "preparedRoots", "()LProvenRecord$Roots;"⟩
abbrev cX11_clashingStep : ByteArray := prog_1_method_72_code
def yX11_clashingStep : MethodName := ⟨RX11, "clashingStep", "(II)I"⟩
abbrev cX11_treeOfWay : ByteArray := prog_1_method_73_code
def yX11_treeOfWay : MethodName := ⟨RX11, "treeOfWay", "(II)I"⟩
abbrev cX11_addLinks : ByteArray := prog_1_method_74_code
def yX11_addLinks : MethodName := ⟨RX11, "addLinks", "(I)I"⟩
abbrev cX11_isLink : ByteArray := prog_1_method_75_code
def yX11_isLink : MethodName := ⟨RX11, "isLink", "(II)Z"⟩
abbrev cX11_tellByte : ByteArray := prog_1_method_76_code
def yX11_tellByte : MethodName := ⟨RX11, "tellByte", "(I)V"⟩
abbrev cX11_tellText : ByteArray := prog_1_method_77_code
def yX11_tellText : MethodName := ⟨RX11, "tellText", "(Ljava/lang/String;)V"⟩
abbrev cX11_tellNumber : ByteArray := prog_1_method_78_code
def yX11_tellNumber : MethodName := ⟨RX11, "tellNumber", "(I)V"⟩
abbrev cX11_tellProof : ByteArray := prog_1_method_79_code
def yX11_tellProof : MethodName := ⟨RX11, "tellProof", "()V"⟩
abbrev cX11_mixed : ByteArray := prog_1_method_80_code
def yX11_mixed : MethodName := ⟨RX11, "mixed", "(III)I"⟩
abbrev cX11_markOfTwo : ByteArray := prog_1_method_81_code
def yX11_markOfTwo : MethodName := ⟨RX11, "markOfTwo", "(III)I"⟩
abbrev cX11_firstPartOf : ByteArray := prog_1_method_82_code
def yX11_firstPartOf : MethodName := ⟨RX11, "firstPartOf", "(I)I"⟩
abbrev cX11_hasOneOf : ByteArray := prog_1_method_83_code
def yX11_hasOneOf : MethodName := ⟨RX11, "hasOneOf", "(III)Z"⟩
def RX12 : String := "ProvenRecordModel"
def TX12 : u_T := fun k => match k with
  | 0 => ("ProvenRecordModel", "c", "[I", true)
  | 1 => ("ProvenRecordModel", "whole", "[I", true)
  | 2 => ("ProvenRecordModel", "status", "I", false)
  | 3 => ("ProvenRecordModel", "thrown", "I", false)
  | 4 => ("ProvenRecordModel", "wayFrom", "[I", true)
  | 5 => ("ProvenRecordModel", "wayWide", "[I", true)
  | 6 => ("ProvenRecordModel", "marks", "[I", true)
  | 7 => ("ProvenRecordModel", "wayMany", "I", false)
  | 8 => ("ProvenRecordModel", "at", "I", false)
  | 9 => ("ProvenRecordModel", "oldFold", "I", false)
  | 10 => ("ProvenRecordModel", "newFold", "I", false)
  | 11 => ("ProvenRecordModel", "setAt", "I", false)
  | 12 => ("ProvenRecordModel", "typed", "[I", true)
  | 13 => ("ProvenRecordModel", "word", "[I", true)
  | 14 => ("ProvenRecordModel", "typedMany", "I", false)
  | 15 => ("ProvenRecordModel", "wordMany", "I", false)
  | 16 => ("ProvenRecordModel", "tape", "[B", true)
  | 17 => ("ProvenRecordModel", "taped", "I", false)
  | 18 => ("ProvenRecordModel", "faultKind", "I", false)
  | 19 => ("ProvenRecordModel", "faultAt", "I", false)
  | 20 => ("ProvenRecordModel", "wrong", "I", false)
  | 21 => ("ProvenRecordModel", "wrongAt", "I", false)
  | 22 => ("ProvenRecordModel", "place", "I", false)
  | 23 => ("ProvenRecordModel", "next", "I", false)
  | 24 => ("ProvenRecordModel", "sort", "I", false)
  | 25 => ("ProvenRecordModel", "number", "I", false)
  | 26 => ("ProvenRecordModel", "end", "I", false)
  | 27 => ("ProvenRecordModel", "letters", "J", false)
  | 28 => ("ProvenRecordModel", "words", "[J", true)
  | 29 => ("ProvenRecordModel", "record", "I", false)
  | 30 => ("ProvenRecordModel", "whys", "[I", true)
  | 31 => ("ProvenRecordModel", "whysAside", "[I", true)
  | 32 => ("ProvenRecordModel", "whyMany", "I", false)
  | 33 => ("ProvenRecordModel", "left", "I", false)
  | 34 => ("ProvenRecordModel", "foundFrom", "I", false)
  | 35 => ("ProvenRecordModel", "foundWide", "I", false)
  | 36 => ("ProvenRecordModel", "stepLeft", "[I", true)
  | 37 => ("ProvenRecordModel", "stepRight", "[I", true)
  | 38 => ("ProvenRecordModel", "stepMark", "[I", true)
  | 39 => ("ProvenRecordModel", "stepMany", "I", false)
  | 40 => ("ProvenRecordModel", "otherLeft", "[I", true)
  | 41 => ("ProvenRecordModel", "otherRight", "[I", true)
  | 42 => ("ProvenRecordModel", "otherMark", "[I", true)
  | 43 => ("ProvenRecordModel", "hadFrom", "[I", true)
  | 44 => ("ProvenRecordModel", "hadWide", "[I", true)
  | 45 => ("ProvenRecordModel", "hadMany", "I", false)
  | 46 => ("ProvenRecordModel", "out", "[I", true)
  | _ => ("ProvenRecordModel", "outMany", "I", false)
def tyX12 : Nat → FieldType := fun k => match k with
  | 0 => .array .int
  | 1 => .array .int
  | 2 => .int
  | 3 => .int
  | 4 => .array .int
  | 5 => .array .int
  | 6 => .array .int
  | 7 => .int
  | 8 => .int
  | 9 => .int
  | 10 => .int
  | 11 => .int
  | 12 => .array .int
  | 13 => .array .int
  | 14 => .int
  | 15 => .int
  | 16 => .array .byte
  | 17 => .int
  | 18 => .int
  | 19 => .int
  | 20 => .int
  | 21 => .int
  | 22 => .int
  | 23 => .int
  | 24 => .int
  | 25 => .int
  | 26 => .int
  | 27 => .long
  | 28 => .array .long
  | 29 => .int
  | 30 => .array .int
  | 31 => .array .int
  | 32 => .int
  | 33 => .int
  | 34 => .int
  | 35 => .int
  | 36 => .array .int
  | 37 => .array .int
  | 38 => .array .int
  | 39 => .int
  | 40 => .array .int
  | 41 => .array .int
  | 42 => .array .int
  | 43 => .array .int
  | 44 => .array .int
  | 45 => .int
  | 46 => .array .int
  | _ => .int
theorem nmX12 : ∀ a, a < 48 → ∀ b, b < 48 → a ≠ b → (TX12 a).2.1 ≠ (TX12 b).2.1 := by decide +kernel
theorem tyX12_ok : ∀ k, k < 48 → parseFieldDescriptor (TX12 k).2.2.1 = some (tyX12 k) := by decide +kernel
abbrev cX12_init : ByteArray := prog_14_method_1_code
def yX12_init : MethodName := ⟨RX12, "<init>", "()V"⟩
abbrev cX12_status : ByteArray := prog_14_method_3_code
def yX12_status : MethodName := ⟨RX12, "status", "()I"⟩
abbrev cX12_refuse : ByteArray := prog_14_method_4_code
def yX12_refuse : MethodName := ⟨RX12, "refuse", "(I)I"⟩
abbrev cX12_is : ByteArray := prog_14_method_5_code
def yX12_is : MethodName := ⟨RX12, "is", "(I)Z"⟩
abbrev cX12_isIn : ByteArray := prog_14_method_6_code
def yX12_isIn : MethodName := ⟨RX12, "isIn", "(III)Z"⟩
abbrev cX12_clears : ByteArray := prog_14_method_7_code
def yX12_clears : MethodName := ⟨RX12, "clears", "()V"⟩
abbrev cX12_isRecord : ByteArray := prog_14_method_8_code
def yX12_isRecord : MethodName := ⟨RX12, "isRecord", "(I)Z"⟩
abbrev cX12_sizeOf : ByteArray := prog_14_method_9_code
def yX12_sizeOf : MethodName := ⟨RX12, "sizeOf", "(I)I"⟩
abbrev cX12_isMark : ByteArray := prog_14_method_10_code
def yX12_isMark : MethodName := ⟨RX12, "isMark", "(I)Z"⟩
abbrev cX12_mixed : ByteArray := prog_14_method_11_code
def yX12_mixed : MethodName := ⟨RX12, "mixed", "(II)I"⟩
abbrev cX12_both : ByteArray := prog_14_method_12_code
def yX12_both : MethodName := ⟨RX12, "both", "(II)I"⟩
abbrev cX12_entryMark : ByteArray := prog_14_method_13_code
def yX12_entryMark : MethodName := ⟨RX12, "entryMark", "(II)I"⟩
abbrev cX12_part0 : ByteArray := prog_14_method_14_code
def yX12_part0 : MethodName := ⟨RX12, "part0", "(I)I"⟩
abbrev cX12_treeMark : ByteArray := prog_14_method_15_code
def yX12_treeMark : MethodName := ⟨RX12, "treeMark", "(III)I"⟩
abbrev cX12_headOf : ByteArray := prog_14_method_16_code
def yX12_headOf : MethodName := ⟨RX12, "headOf", "(II)I"⟩
abbrev cX12_asks : ByteArray := prog_14_method_17_code
def yX12_asks : MethodName := ⟨RX12, "asks", "(II)V"⟩
abbrev cX12_waysIn : ByteArray := prog_14_method_18_code
def yX12_waysIn : MethodName := ⟨RX12, "waysIn", "(III)V"⟩
abbrev cX12_inclusion : ByteArray := prog_14_method_19_code
def yX12_inclusion : MethodName := ⟨RX12, "inclusion", "(II)V"⟩
abbrev cX12_growsIn : ByteArray := prog_14_method_20_code
def yX12_growsIn : MethodName := ⟨RX12, "growsIn", "(IIIZ)V"⟩
abbrev cX12_growth : ByteArray := prog_14_method_21_code
def yX12_growth : MethodName := ⟨RX12, "growth", "(II)V"⟩
abbrev cX12_hasAny : ByteArray := prog_14_method_22_code
def yX12_hasAny : MethodName := ⟨RX12, "hasAny", "(III)Z"⟩
abbrev cX12_bundlesIn : ByteArray := prog_14_method_23_code
def yX12_bundlesIn : MethodName := ⟨RX12, "bundlesIn", "(III)V"⟩
abbrev cX12_bundleOf : ByteArray := prog_14_method_24_code
def yX12_bundleOf : MethodName := ⟨RX12, "bundleOf", "(II)V"⟩
abbrev cX12_peaksOf : ByteArray := prog_14_method_25_code
def yX12_peaksOf : MethodName := ⟨RX12, "peaksOf", "(I)V"⟩
abbrev cX12_fetches : ByteArray := prog_14_method_26_code
def yX12_fetches : MethodName := ⟨RX12, "fetches", "(I)V"⟩
abbrev cX12_pads : ByteArray := prog_14_method_27_code
def yX12_pads : MethodName := ⟨RX12, "pads", "(I)I"⟩
abbrev cX12_fromPad : ByteArray := prog_14_method_28_code
def yX12_fromPad : MethodName := ⟨RX12, "fromPad", "()I"⟩
abbrev cX12_foldsIn : ByteArray := prog_14_method_29_code
def yX12_foldsIn : MethodName := ⟨RX12, "foldsIn", "(III)I"⟩
abbrev cX12_folded : ByteArray := prog_14_method_30_code
def yX12_folded : MethodName := ⟨RX12, "folded", "(III)I"⟩
abbrev cX12_why : ByteArray := prog_14_method_31_code
def yX12_why : MethodName := ⟨RX12, "why", "(IIZ)I"⟩
abbrev cX12_whyIn : ByteArray := prog_14_method_32_code
def yX12_whyIn : MethodName := ⟨RX12, "whyIn", "(IIIII)I"⟩
abbrev cX12_foldsGrowth : ByteArray := prog_14_method_33_code
def yX12_foldsGrowth : MethodName := ⟨RX12, "foldsGrowth", "(IIIZ)V"⟩
abbrev cX12_whyGrown : ByteArray := prog_14_method_34_code
def yX12_whyGrown : MethodName := ⟨RX12, "whyGrown", "(IIIII)I"⟩
abbrev cX12_foldsBundle : ByteArray := prog_14_method_35_code
def yX12_foldsBundle : MethodName := ⟨RX12, "foldsBundle", "(III)I"⟩
abbrev cX12_whyByRecord : ByteArray := prog_14_method_36_code
def yX12_whyByRecord : MethodName := ⟨RX12, "whyByRecord", "(IIIII)I"⟩
abbrev cX12_type : ByteArray := prog_14_method_37_code
def yX12_type : MethodName := ⟨RX12, "type", "(II)I"⟩
abbrev cX12_hand : ByteArray := prog_14_method_38_code
def yX12_hand : MethodName := ⟨RX12, "hand", "()V"⟩
abbrev cX12_adds : ByteArray := prog_14_method_39_code
def yX12_adds : MethodName := ⟨RX12, "adds", "(I)I"⟩
abbrev cX12_forks : ByteArray := prog_14_method_40_code
def yX12_forks : MethodName := ⟨RX12, "forks", "(II)I"⟩
abbrev cX12_freezes : ByteArray := prog_14_method_41_code
def yX12_freezes : MethodName := ⟨RX12, "freezes", "(I)I"⟩
abbrev cX12_trust : ByteArray := prog_14_method_42_code
def yX12_trust : MethodName := ⟨RX12, "trust", "(II)I"⟩
abbrev cX12_trusts : ByteArray := prog_14_method_43_code
def yX12_trusts : MethodName := ⟨RX12, "trusts", "(III)V"⟩
abbrev cX12_shows : ByteArray := prog_14_method_44_code
def yX12_shows : MethodName := ⟨RX12, "shows", "(III)I"⟩
abbrev cX12_puts : ByteArray := prog_14_method_45_code
def yX12_puts : MethodName := ⟨RX12, "puts", "(I)V"⟩
abbrev cX12_feed : ByteArray := prog_14_method_46_code
def yX12_feed : MethodName := ⟨RX12, "feed", "(IIIII)I"⟩
abbrev cX12_isOf : ByteArray := prog_14_method_47_code
def yX12_isOf : MethodName := ⟨RX12, "isOf", "(III)Z"⟩
abbrev cX12_reads : ByteArray := prog_14_method_48_code
def yX12_reads : MethodName := ⟨RX12, "reads", "()V"⟩
abbrev cX12_must : ByteArray := prog_14_method_49_code
def yX12_must : MethodName := ⟨RX12, "must", "(ZI)V"⟩
abbrev cX12_isWord : ByteArray := prog_14_method_50_code
def yX12_isWord : MethodName := ⟨RX12, "isWord", "(I)Z"⟩
abbrev cX12_takes : ByteArray := prog_14_method_51_code
def yX12_takes : MethodName := ⟨RX12, "takes", "(I)V"⟩
abbrev cX12_takesEnd : ByteArray := prog_14_method_52_code
def yX12_takesEnd : MethodName := ⟨RX12, "takesEnd", "()V"⟩
abbrev cX12_takesNumber : ByteArray := prog_14_method_53_code
def yX12_takesNumber : MethodName := ⟨RX12, "takesNumber", "(II)I"⟩
abbrev cX12_takesMark : ByteArray := prog_14_method_54_code
def yX12_takesMark : MethodName := ⟨RX12, "takesMark", "()I"⟩
abbrev cX12_addLine : ByteArray := prog_14_method_55_code
def yX12_addLine : MethodName := ⟨RX12, "addLine", "()V"⟩
abbrev cX12_forkLine : ByteArray := prog_14_method_56_code
def yX12_forkLine : MethodName := ⟨RX12, "forkLine", "()V"⟩
abbrev cX12_line : ByteArray := prog_14_method_57_code
def yX12_line : MethodName := ⟨RX12, "line", "()V"⟩
abbrev cX12_begins : ByteArray := prog_14_method_58_code
def yX12_begins : MethodName := ⟨RX12, "begins", "(I)V"⟩
abbrev cX12_ends : ByteArray := prog_14_method_59_code
def yX12_ends : MethodName := ⟨RX12, "ends", "()V"⟩
abbrev cX12_load : ByteArray := prog_14_method_60_code
def yX12_load : MethodName := ⟨RX12, "load", "(I)I"⟩
abbrev cX12_takesMarks : ByteArray := prog_14_method_61_code
def yX12_takesMarks : MethodName := ⟨RX12, "takesMarks", "()I"⟩
abbrev cX12_statementIn : ByteArray := prog_14_method_62_code
def yX12_statementIn : MethodName := ⟨RX12, "statementIn", "()I"⟩
abbrev cX12_statementGrow : ByteArray := prog_14_method_63_code
def yX12_statementGrow : MethodName := ⟨RX12, "statementGrow", "()I"⟩
abbrev cX12_hear : ByteArray := prog_14_method_64_code
def yX12_hear : MethodName := ⟨RX12, "hear", "(I)I"⟩
abbrev cX12_heard : ByteArray := prog_14_method_65_code
def yX12_heard : MethodName := ⟨RX12, "heard", "(I)I"⟩
abbrev cX12_fault : ByteArray := prog_14_method_66_code
def yX12_fault : MethodName := ⟨RX12, "fault", "(I)I"⟩
abbrev cX12_many : ByteArray := prog_14_method_67_code
def yX12_many : MethodName := ⟨RX12, "many", "(I)I"⟩
abbrev cX12_size : ByteArray := prog_14_method_68_code
def yX12_size : MethodName := ⟨RX12, "size", "(I)I"⟩
abbrev cX12_entry : ByteArray := prog_14_method_69_code
def yX12_entry : MethodName := ⟨RX12, "entry", "(III)I"⟩
abbrev cX12_noSize : ByteArray := prog_14_method_70_code
def yX12_noSize : MethodName := ⟨RX12, "noSize", "(II)I"⟩
abbrev cX12_head : ByteArray := prog_14_method_71_code
def yX12_head : MethodName := ⟨RX12, "head", "(II)I"⟩
abbrev cX12_join : ByteArray := prog_14_method_72_code
def yX12_join : MethodName := ⟨RX12, "join", "(II)I"⟩
abbrev cX12_mark : ByteArray := prog_14_method_73_code
def yX12_mark : MethodName := ⟨RX12, "mark", "()I"⟩
abbrev cX12_froze : ByteArray := prog_14_method_74_code
def yX12_froze : MethodName := ⟨RX12, "froze", "(II)I"⟩
abbrev cX12_isSound : ByteArray := prog_14_method_75_code
def yX12_isSound : MethodName := ⟨RX12, "isSound", "(I)Z"⟩
abbrev cX12_frozen : ByteArray := prog_14_method_76_code
def yX12_frozen : MethodName := ⟨RX12, "frozen", "(II)I"⟩
abbrev cX12_isWatcher : ByteArray := prog_14_method_77_code
def yX12_isWatcher : MethodName := ⟨RX12, "isWatcher", "(I)Z"⟩
abbrev cX12_watcher : ByteArray := prog_14_method_78_code
def yX12_watcher : MethodName := ⟨RX12, "watcher", "(II)I"⟩
abbrev cX12_add : ByteArray := prog_14_method_79_code
def yX12_add : MethodName := ⟨RX12, "add", "(I)I"⟩
abbrev cX12_fork : ByteArray := prog_14_method_80_code
def yX12_fork : MethodName := ⟨RX12, "fork", "(II)I"⟩
abbrev cX12_freeze : ByteArray := prog_14_method_81_code
def yX12_freeze : MethodName := ⟨RX12, "freeze", "(I)I"⟩
abbrev cX12_show : ByteArray := prog_14_method_82_code
def yX12_show : MethodName := ⟨RX12, "show", "(III)I"⟩
abbrev cX12_meet : ByteArray := prog_14_method_83_code
def yX12_meet : MethodName := ⟨RX12, "meet", "(III)I"⟩
abbrev cX12_spoil : ByteArray := prog_14_method_84_code
def yX12_spoil : MethodName := ⟨RX12, "spoil", "(IIII)I"⟩
abbrev cX12_push : ByteArray := prog_14_method_85_code
def yX12_push : MethodName := ⟨RX12, "push", "(I)I"⟩
abbrev cX12_poke : ByteArray := prog_14_method_86_code
def yX12_poke : MethodName := ⟨RX12, "poke", "(II)I"⟩
abbrev cX12_pad : ByteArray := prog_14_method_87_code
def yX12_pad : MethodName := ⟨RX12, "pad", "(I)I"⟩
abbrev cX12_cut : ByteArray := prog_14_method_88_code
def yX12_cut : MethodName := ⟨RX12, "cut", "(I)I"⟩
abbrev cX12_noEntry : ByteArray := prog_14_method_89_code
def yX12_noEntry : MethodName := ⟨RX12, "noEntry", "(III)I"⟩
abbrev cX12_include : ByteArray := prog_14_method_90_code
def yX12_include : MethodName := ⟨RX12, "include", "(III)I"⟩
abbrev cX12_grow : ByteArray := prog_14_method_91_code
def yX12_grow : MethodName := ⟨RX12, "grow", "(III)I"⟩
abbrev cX12_isBeyond : ByteArray := prog_14_method_92_code
def yX12_isBeyond : MethodName := ⟨RX12, "isBeyond", "(II)Z"⟩
abbrev cX12_bundle : ByteArray := prog_14_method_93_code
def yX12_bundle : MethodName := ⟨RX12, "bundle", "(III)I"⟩
abbrev cX12_peaks : ByteArray := prog_14_method_94_code
def yX12_peaks : MethodName := ⟨RX12, "peaks", "(II)I"⟩
abbrev cX12_extend : ByteArray := prog_14_method_95_code
def yX12_extend : MethodName := ⟨RX12, "extend", "(II)I"⟩
abbrev cX12_isThing : ByteArray := prog_14_method_96_code
def yX12_isThing : MethodName := ⟨RX12, "isThing", "(II)Z"⟩
abbrev cX12_checks : ByteArray := prog_14_method_97_code
def yX12_checks : MethodName := ⟨RX12, "checks", "(IIII)I"⟩
abbrev cX12_growth_ : ByteArray := prog_14_method_98_code
def yX12_growth_ : MethodName := ⟨RX12, "growth", "(IIII)I"⟩
abbrev cX12_bundled : ByteArray := prog_14_method_99_code
def yX12_bundled : MethodName := ⟨RX12, "bundled", "(III)I"⟩
abbrev cX12_fold : ByteArray := prog_14_method_100_code
def yX12_fold : MethodName := ⟨RX12, "fold", "()I"⟩
abbrev cX12_steps : ByteArray := prog_14_method_101_code
def yX12_steps : MethodName := ⟨RX12, "steps", "(II)I"⟩
abbrev cX12_climbs : ByteArray := prog_14_method_102_code
def yX12_climbs : MethodName := ⟨RX12, "climbs", "(II)I"⟩
abbrev cX12_isAgreed : ByteArray := prog_14_method_103_code
def yX12_isAgreed : MethodName := ⟨RX12, "isAgreed", "(II)Z"⟩
abbrev cX12_isHead : ByteArray := prog_14_method_104_code
def yX12_isHead : MethodName := ⟨RX12, "isHead", "(III)Z"⟩
abbrev cX12_agree : ByteArray := prog_14_method_105_code
def yX12_agree : MethodName := ⟨RX12, "agree", "(II)I"⟩
abbrev cX12_where : ByteArray := prog_14_method_106_code
def yX12_where : MethodName := ⟨RX12, "where", "(II)I"⟩
abbrev cX12_isTyped : ByteArray := prog_14_method_107_code
def yX12_isTyped : MethodName := ⟨RX12, "isTyped", "(I)Z"⟩
abbrev cX12_seeks : ByteArray := prog_14_method_108_code
def yX12_seeks : MethodName := ⟨RX12, "seeks", "(II)V"⟩
abbrev cX12_tree : ByteArray := prog_14_method_109_code
def yX12_tree : MethodName := ⟨RX12, "tree", "(IIII)I"⟩
abbrev cX12_proves : ByteArray := prog_14_method_110_code
def yX12_proves : MethodName := ⟨RX12, "proves", "(II)I"⟩
abbrev cX12_longest : ByteArray := prog_14_method_111_code
def yX12_longest : MethodName := ⟨RX12, "longest", "(II)I"⟩
abbrev cX12_part : ByteArray := prog_14_method_112_code
def yX12_part : MethodName := ⟨RX12, "part", "(III)I"⟩
abbrev cX12_blame : ByteArray := prog_14_method_113_code
def yX12_blame : MethodName := ⟨RX12, "blame", "(II)I"⟩
abbrev cX12_weak : ByteArray := prog_14_method_114_code
def yX12_weak : MethodName := ⟨RX12, "weak", "(IIII)I"⟩
abbrev cX12_stepsIn : ByteArray := prog_14_method_115_code
def yX12_stepsIn : MethodName := ⟨RX12, "stepsIn", "(III)I"⟩
abbrev cX12_clash : ByteArray := prog_14_method_116_code
def yX12_clash : MethodName := ⟨RX12, "clash", "(IIIII)I"⟩
abbrev cX12_forge : ByteArray := prog_14_method_117_code
def yX12_forge : MethodName := ⟨RX12, "forge", "(IIIII)I"⟩
abbrev cX12_trace : ByteArray := prog_14_method_118_code
def yX12_trace : MethodName := ⟨RX12, "trace", "(IIII)I"⟩
abbrev cX12_wayAt : ByteArray := prog_14_method_119_code
def yX12_wayAt : MethodName := ⟨RX12, "wayAt", "(II)I"⟩
abbrev cX12_span : ByteArray := prog_14_method_120_code
def yX12_span : MethodName := ⟨RX12, "span", "(IIII)I"⟩
abbrev cX12_rise : ByteArray := prog_14_method_121_code
def yX12_rise : MethodName := ⟨RX12, "rise", "(IIII)I"⟩
abbrev cX12_had : ByteArray := prog_14_method_122_code
def yX12_had : MethodName := ⟨RX12, "had", "(II)Z"⟩
abbrev cX12_notes : ByteArray := prog_14_method_123_code
def yX12_notes : MethodName := ⟨RX12, "notes", "()V"⟩
abbrev cX12_kept : ByteArray := prog_14_method_124_code
def yX12_kept : MethodName := ⟨RX12, "kept", "(III)I"⟩
abbrev cX12_sick : ByteArray := prog_14_method_125_code
def yX12_sick : MethodName := ⟨RX12, "sick", "(I)I"⟩
abbrev cX12_sizeAbove : ByteArray := prog_14_method_126_code
def yX12_sizeAbove : MethodName := ⟨RX12, "sizeAbove", "(II)I"⟩
abbrev cX12_chain : ByteArray := prog_14_method_127_code
def yX12_chain : MethodName := ⟨RX12, "chain", "(II)I"⟩
abbrev cX12_split : ByteArray := prog_14_method_128_code
def yX12_split : MethodName := ⟨RX12, "split", "(I)I"⟩
abbrev cX12_tellsNumber : ByteArray := prog_14_method_129_code
def yX12_tellsNumber : MethodName := ⟨RX12, "tellsNumber", "(I)V"⟩
abbrev cX12_tells : ByteArray := prog_14_method_130_code
def yX12_tells : MethodName := ⟨RX12, "tells", "(I)V"⟩
abbrev cX12_says : ByteArray := prog_14_method_131_code
def yX12_says : MethodName := ⟨RX12, "says", "(Ljava/lang/String;I)V"⟩
abbrev cX12_tellsMarks : ByteArray := prog_14_method_132_code
def yX12_tellsMarks : MethodName := ⟨RX12, "tellsMarks", "(I)I"⟩
abbrev cX12_tell : ByteArray := prog_14_method_133_code
def yX12_tell : MethodName := ⟨RX12, "tell", "(III)I"⟩
abbrev cX12_tellGrowth : ByteArray := prog_14_method_134_code
def yX12_tellGrowth : MethodName := ⟨RX12, "tellGrowth", "(III)I"⟩
abbrev cX12_out : ByteArray := prog_14_method_135_code
def yX12_out : MethodName := ⟨RX12, "out", "(I)I"⟩
abbrev cX12_trusted : ByteArray := prog_14_method_136_code
def yX12_trusted : MethodName := ⟨RX12, "trusted", "(II)I"⟩
abbrev cX12_saves : ByteArray := prog_14_method_137_code
def yX12_saves : MethodName := ⟨RX12, "saves", "(II)I"⟩
abbrev cX12_who : ByteArray := prog_14_method_138_code
def yX12_who : MethodName := ⟨RX12, "who", "(II)I"⟩
def RJ6 : String := "java/lang/Integer"
abbrev cJ6_highestOneBit_0f7a4 : ByteArray := prog_15_method_45_code
def yJ6_highestOneBit_0f7a4 : MethodName := ⟨RJ6, "highestOneBit", "(I)I"⟩
abbrev cJ6_numberOfLeadingZeros_0f7a4 : ByteArray := prog_15_method_47_code
def yJ6_numberOfLeadingZeros_0f7a4 : MethodName := ⟨RJ6, "numberOfLeadingZeros", "(I)I"⟩
abbrev cJ6_bitCount_0f7a4 : ByteArray := prog_15_method_49_code
def yJ6_bitCount_0f7a4 : MethodName := ⟨RJ6, "bitCount", "(I)I"⟩
def RJ9 : String := "java/lang/Math"
abbrev cJ9_floorMod_f86c9 : ByteArray := prog_16_method_52_code
def yJ9_floorMod_f86c9 : MethodName := ⟨RJ9, "floorMod", "(JJ)J"⟩
abbrev cJ9_max_7cf53 : ByteArray := prog_16_method_65_code
def yJ9_max_7cf53 : MethodName := ⟨RJ9, "max", "(II)I"⟩
abbrev cJ9_min_7cf53 : ByteArray := prog_16_method_69_code
def yJ9_min_7cf53 : MethodName := ⟨RJ9, "min", "(II)I"⟩
def RJ0 : String := "java/lang/String"
abbrev cJ0_length_8abf5 : ByteArray := prog_17_method_54_code
def yJ0_length_8abf5 : MethodName := ⟨RJ0, "length", "()I"⟩
abbrev cJ0_charAt_5068e : ByteArray := prog_17_method_56_code
def yJ0_charAt_5068e : MethodName := ⟨RJ0, "charAt", "(I)C"⟩
abbrev cJ0_coder_7d493 : ByteArray := prog_17_method_152_code
def yJ0_coder_7d493 : MethodName := ⟨RJ0, "coder", "()B"⟩
abbrev cJ0_isLatin1_aae02 : ByteArray := prog_17_method_154_code
def yJ0_isLatin1_aae02 : MethodName := ⟨RJ0, "isLatin1", "()Z"⟩
abbrev cJ0_checkIndex_df160 : ByteArray := prog_17_method_155_code
def yJ0_checkIndex_df160 : MethodName := ⟨RJ0, "checkIndex", "(II)V"⟩
def RJ1 : String := "java/lang/StringLatin1"
abbrev cJ1_charAt_3b067 : ByteArray := prog_18_method_2_code
def yJ1_charAt_3b067 : MethodName := ⟨RJ1, "charAt", "([BI)C"⟩
def RJ3 : String := "jdk/internal/util/Preconditions"
abbrev cJ3_checkIndex_8e157 : ByteArray := prog_20_method_11_code
def yJ3_checkIndex_8e157 : MethodName := ⟨RJ3, "checkIndex", "(IILjava/util/function/BiFunction;)I"⟩
def RL : String := "ProvenRecordLaw"
abbrev cL_law : ByteArray := code
abbrev vwCl : List vw_C := [(RX0, TX0, 5), (RX1, TX1, 5), (RX2, TX2, 3), (RX3, TX3, 10), (RX4, TX4, 11), (RX5, TX5, 2), (RX6, TX6, 7), (RX7, TX7, 4), (RX8, TX8, 5), (RX9, TX9, 2), (RX10, TX10, 10), (RX11, TX11, 19), (RX12, TX12, 48)]
end JN1_1
section JN1_2
set_option maxRecDepth 100000
/-! ===== decode rows of any code, by its bytes ===== -/
theorem dk_g {l C : List UInt8} {p m : Nat} (h : (l.drop p).take m = C) (r : Nat) {b : UInt8} (e : C[r]? = some b) : l[p + r]? = some b := by
  rw [← h, List.getElem?_take] at e
  split at e
  · rw [List.getElem?_drop] at e; exact e
  · cases e
theorem dk_z {l T U : List UInt8} {p : Nat} (h : l.drop p = T) (g : T.drop 192 = U) : l.drop (p + 192) = U := by
  rw [← List.drop_drop, h]; exact g
theorem dk_h {l T C : List UInt8} {p m : Nat} (h : l.drop p = T) (r : Nat) (e : (T.drop r).take m = C) : (l.drop (p + r)).take m = C := by
  rw [← List.drop_drop, h]; exact e
theorem dk_u1 {c : ByteArray} {p : Nat} {b : UInt8} (h : c.data.toList[p]? = some b) : (Jvm.ClassFile.Reader.u1 : Jvm.ClassFile.Decoder Nat) c p = .ok (b.toNat, p + 1) := by
  obtain ⟨⟨l⟩⟩ := c
  have h1 := (List.getElem?_eq_some_iff.mp h).1
  have h2 := (List.getElem?_eq_some_iff.mp h).2
  have e : (Jvm.ClassFile.Reader.u1 : Jvm.ClassFile.Decoder Nat) ⟨⟨l⟩⟩ p = (if h : p < l.length then (do set (p + 1); Pure.pure (l[p]'h).toNat : Jvm.ClassFile.Decoder Nat) else throw (Jvm.ClassFile.HasTruncated.truncated p)) ⟨⟨l⟩⟩ p := rfl
  have h1' : p < l.length := h1
  rw [e, dif_pos h1']
  have h2' : l[p]'h1' = b := h2
  rw [h2']
  rfl
theorem dk_s1 {c : ByteArray} {p : Nat} {b : UInt8} (h : c.data.toList[p]? = some b) : (Jvm.ClassFile.Reader.s1 : Jvm.ClassFile.Decoder Int) c p = .ok (Jvm.ClassFile.Reader.signed 8 b.toNat, p + 1) := by
  have e : (Jvm.ClassFile.Reader.s1 : Jvm.ClassFile.Decoder Int) c p = Except.bind ((Jvm.ClassFile.Reader.u1 : Jvm.ClassFile.Decoder Nat) c p) (fun x => .ok (Jvm.ClassFile.Reader.signed 8 x.1, x.2)) := rfl
  rw [e, dk_u1 h]; rfl
theorem dk_u2 {c : ByteArray} {p : Nat} {b d : UInt8} (h : c.data.toList[p]? = some b) (g : c.data.toList[p + 1]? = some d) : (Jvm.ClassFile.Reader.u2 : Jvm.ClassFile.Decoder Nat) c p = .ok (b.toNat * 256 + d.toNat, p + 2) := by
  have e : (Jvm.ClassFile.Reader.u2 : Jvm.ClassFile.Decoder Nat) c p = Except.bind ((Jvm.ClassFile.Reader.u1 : Jvm.ClassFile.Decoder Nat) c p) (fun x => Except.bind ((Jvm.ClassFile.Reader.u1 : Jvm.ClassFile.Decoder Nat) c x.2) (fun y => .ok (x.1 * 256 + y.1, y.2))) := rfl
  rw [e, dk_u1 h]
  show Except.bind ((Jvm.ClassFile.Reader.u1 : Jvm.ClassFile.Decoder Nat) c (p + 1)) _ = _
  rw [dk_u1 g]; rfl
theorem dk_s2 {c : ByteArray} {p : Nat} {b d : UInt8} (h : c.data.toList[p]? = some b) (g : c.data.toList[p + 1]? = some d) : (Jvm.ClassFile.Reader.s2 : Jvm.ClassFile.Decoder Int) c p = .ok (Jvm.ClassFile.Reader.signed 16 (b.toNat * 256 + d.toNat), p + 2) := by
  have e : (Jvm.ClassFile.Reader.s2 : Jvm.ClassFile.Decoder Int) c p = Except.bind ((Jvm.ClassFile.Reader.u2 : Jvm.ClassFile.Decoder Nat) c p) (fun x => .ok (Jvm.ClassFile.Reader.signed 16 x.1, x.2)) := rfl
  rw [e, dk_u2 h g]; rfl
theorem dk_d {c : ByteArray} {p n : Nat} {i : Jvm.ClassFile.Instr} (h : Jvm.ClassFile.Decoder.instr p c p = .ok (i, p + n)) : decode c p = .ok (i, n) := by
  have e : decode c p = Except.bind (Jvm.ClassFile.Decoder.instr p c p) (fun x => .ok (x.1, x.2 - p)) := rfl
  rw [e, h]
  show Except.ok (i, p + n - p) = _
  rw [Nat.add_sub_cancel_left]
theorem dk_m {α : Type} {c : ByteArray} {q q1 : Nat} {v : α} {m : Jvm.ClassFile.Decoder α} {F : α → Jvm.ClassFile.Decoder Jvm.ClassFile.Instr} (h : m c q = .ok (v, q1)) : (m >>= F) c q = F v c q1 := by
  have e : (m >>= F) c q = Except.bind (m c q) (fun x => F x.1 c x.2) := rfl
  rw [e, h]; rfl
theorem dk_0 {c : ByteArray} {p : Nat} {b : UInt8} {i : Jvm.ClassFile.Instr} {K : Nat → Jvm.ClassFile.Decoder Jvm.ClassFile.Instr} (hK : Jvm.ClassFile.Decoder.instr p = (Jvm.ClassFile.Reader.u1 >>= K)) (h : c.data.toList[p]? = some b) (hr : K b.toNat = Pure.pure i) : decode c p = .ok (i, 1) := by
  refine dk_d ?_
  rw [hK, dk_m (dk_u1 h), hr]; rfl
theorem dk_1 {α : Type} {c : ByteArray} {p n : Nat} {b : UInt8} {v : α} {i : Jvm.ClassFile.Instr} {K : Nat → Jvm.ClassFile.Decoder Jvm.ClassFile.Instr} {m : Jvm.ClassFile.Decoder α} {F : α → Jvm.ClassFile.Instr} (hK : Jvm.ClassFile.Decoder.instr p = (Jvm.ClassFile.Reader.u1 >>= K)) (h : c.data.toList[p]? = some b) (hr : K b.toNat = (m >>= fun x => Pure.pure (F x))) (hm : m c (p + 1) = .ok (v, p + n)) (hi : F v = i) : decode c p = .ok (i, n) := by
  refine dk_d ?_
  rw [hK, dk_m (dk_u1 h), hr, dk_m hm, hi]; rfl
theorem dk_1001 {c : ByteArray} {p : Nat} (h0 : c.data.toList[p]? = some 1) : decode c p = .ok (.aconst_null, 1) := dk_0 rfl h0 rfl
theorem dk_1002 {c : ByteArray} {p : Nat} (h0 : c.data.toList[p]? = some 2) : decode c p = .ok ((.iconst (-1)), 1) := dk_0 rfl h0 rfl
theorem dk_1003 {c : ByteArray} {p : Nat} (h0 : c.data.toList[p]? = some 3) : decode c p = .ok ((.iconst 0), 1) := dk_0 rfl h0 rfl
theorem dk_1004 {c : ByteArray} {p : Nat} (h0 : c.data.toList[p]? = some 4) : decode c p = .ok ((.iconst 1), 1) := dk_0 rfl h0 rfl
theorem dk_1005 {c : ByteArray} {p : Nat} (h0 : c.data.toList[p]? = some 5) : decode c p = .ok ((.iconst 2), 1) := dk_0 rfl h0 rfl
theorem dk_1006 {c : ByteArray} {p : Nat} (h0 : c.data.toList[p]? = some 6) : decode c p = .ok ((.iconst 3), 1) := dk_0 rfl h0 rfl
theorem dk_1007 {c : ByteArray} {p : Nat} (h0 : c.data.toList[p]? = some 7) : decode c p = .ok ((.iconst 4), 1) := dk_0 rfl h0 rfl
theorem dk_1008 {c : ByteArray} {p : Nat} (h0 : c.data.toList[p]? = some 8) : decode c p = .ok ((.iconst 5), 1) := dk_0 rfl h0 rfl
theorem dk_1009 {c : ByteArray} {p : Nat} (h0 : c.data.toList[p]? = some 9) : decode c p = .ok ((.lconst 0), 1) := dk_0 rfl h0 rfl
theorem dk_1016 {c : ByteArray} {p : Nat} {b : UInt8} {v : Int} (h0 : c.data.toList[p]? = some 16) (h1 : c.data.toList[p + 1]? = some b) (e : Jvm.ClassFile.Reader.signed 8 b.toNat = v) : decode c p = .ok ((.bipush v), 2) := by
  subst e
  exact dk_1 (m := Jvm.ClassFile.Reader.s1) (F := fun x => (.bipush x)) rfl h0 rfl (dk_s1 h1) rfl
theorem dk_1017 {c : ByteArray} {p : Nat} {b d : UInt8} {v : Int} (h0 : c.data.toList[p]? = some 17) (h1 : c.data.toList[p + 1]? = some b) (h2 : c.data.toList[p + 2]? = some d) (e : Jvm.ClassFile.Reader.signed 16 (b.toNat * 256 + d.toNat) = v) : decode c p = .ok ((.sipush v), 3) := by
  subst e
  exact dk_1 (n := 3) (m := Jvm.ClassFile.Reader.s2) (F := fun x => (.sipush x)) rfl h0 rfl (dk_s2 h1 h2) rfl
theorem dk_1018 {c : ByteArray} {p : Nat} {b : UInt8} {v : Nat} (h0 : c.data.toList[p]? = some 18) (h1 : c.data.toList[p + 1]? = some b) (e : b.toNat = v) : decode c p = .ok ((.ldc v), 2) := by
  subst e
  exact dk_1 (m := Jvm.ClassFile.Reader.u1) (F := fun x => (.ldc x)) rfl h0 rfl (dk_u1 h1) rfl
theorem dk_1019 {c : ByteArray} {p : Nat} {b d : UInt8} {v : Nat} (h0 : c.data.toList[p]? = some 19) (h1 : c.data.toList[p + 1]? = some b) (h2 : c.data.toList[p + 2]? = some d) (e : b.toNat * 256 + d.toNat = v) : decode c p = .ok ((.ldc_w v), 3) := by
  subst e
  exact dk_1 (n := 3) (m := Jvm.ClassFile.Reader.u2) (F := fun x => (.ldc_w x)) rfl h0 rfl (dk_u2 h1 h2) rfl
theorem dk_1020 {c : ByteArray} {p : Nat} {b d : UInt8} {v : Nat} (h0 : c.data.toList[p]? = some 20) (h1 : c.data.toList[p + 1]? = some b) (h2 : c.data.toList[p + 2]? = some d) (e : b.toNat * 256 + d.toNat = v) : decode c p = .ok ((.ldc2_w v), 3) := by
  subst e
  exact dk_1 (n := 3) (m := Jvm.ClassFile.Reader.u2) (F := fun x => (.ldc2_w x)) rfl h0 rfl (dk_u2 h1 h2) rfl
theorem dk_1021 {c : ByteArray} {p : Nat} {b : UInt8} {v : Nat} (h0 : c.data.toList[p]? = some 21) (h1 : c.data.toList[p + 1]? = some b) (e : b.toNat = v) : decode c p = .ok ((.iload v), 2) := by
  subst e
  exact dk_1 (m := Jvm.ClassFile.Reader.u1) (F := fun x => (.iload x)) rfl h0 rfl (dk_u1 h1) rfl
theorem dk_1022 {c : ByteArray} {p : Nat} {b : UInt8} {v : Nat} (h0 : c.data.toList[p]? = some 22) (h1 : c.data.toList[p + 1]? = some b) (e : b.toNat = v) : decode c p = .ok ((.lload v), 2) := by
  subst e
  exact dk_1 (m := Jvm.ClassFile.Reader.u1) (F := fun x => (.lload x)) rfl h0 rfl (dk_u1 h1) rfl
theorem dk_1025 {c : ByteArray} {p : Nat} {b : UInt8} {v : Nat} (h0 : c.data.toList[p]? = some 25) (h1 : c.data.toList[p + 1]? = some b) (e : b.toNat = v) : decode c p = .ok ((.aload v), 2) := by
  subst e
  exact dk_1 (m := Jvm.ClassFile.Reader.u1) (F := fun x => (.aload x)) rfl h0 rfl (dk_u1 h1) rfl
theorem dk_1026 {c : ByteArray} {p : Nat} (h0 : c.data.toList[p]? = some 26) : decode c p = .ok ((.iload_n 0), 1) := dk_0 rfl h0 rfl
theorem dk_1027 {c : ByteArray} {p : Nat} (h0 : c.data.toList[p]? = some 27) : decode c p = .ok ((.iload_n 1), 1) := dk_0 rfl h0 rfl
theorem dk_1028 {c : ByteArray} {p : Nat} (h0 : c.data.toList[p]? = some 28) : decode c p = .ok ((.iload_n 2), 1) := dk_0 rfl h0 rfl
theorem dk_1029 {c : ByteArray} {p : Nat} (h0 : c.data.toList[p]? = some 29) : decode c p = .ok ((.iload_n 3), 1) := dk_0 rfl h0 rfl
theorem dk_1030 {c : ByteArray} {p : Nat} (h0 : c.data.toList[p]? = some 30) : decode c p = .ok ((.lload_n 0), 1) := dk_0 rfl h0 rfl
theorem dk_1031 {c : ByteArray} {p : Nat} (h0 : c.data.toList[p]? = some 31) : decode c p = .ok ((.lload_n 1), 1) := dk_0 rfl h0 rfl
theorem dk_1032 {c : ByteArray} {p : Nat} (h0 : c.data.toList[p]? = some 32) : decode c p = .ok ((.lload_n 2), 1) := dk_0 rfl h0 rfl
theorem dk_1033 {c : ByteArray} {p : Nat} (h0 : c.data.toList[p]? = some 33) : decode c p = .ok ((.lload_n 3), 1) := dk_0 rfl h0 rfl
theorem dk_1042 {c : ByteArray} {p : Nat} (h0 : c.data.toList[p]? = some 42) : decode c p = .ok ((.aload_n 0), 1) := dk_0 rfl h0 rfl
theorem dk_1043 {c : ByteArray} {p : Nat} (h0 : c.data.toList[p]? = some 43) : decode c p = .ok ((.aload_n 1), 1) := dk_0 rfl h0 rfl
theorem dk_1044 {c : ByteArray} {p : Nat} (h0 : c.data.toList[p]? = some 44) : decode c p = .ok ((.aload_n 2), 1) := dk_0 rfl h0 rfl
theorem dk_1045 {c : ByteArray} {p : Nat} (h0 : c.data.toList[p]? = some 45) : decode c p = .ok ((.aload_n 3), 1) := dk_0 rfl h0 rfl
theorem dk_1046 {c : ByteArray} {p : Nat} (h0 : c.data.toList[p]? = some 46) : decode c p = .ok (.iaload, 1) := dk_0 rfl h0 rfl
theorem dk_1047 {c : ByteArray} {p : Nat} (h0 : c.data.toList[p]? = some 47) : decode c p = .ok (.laload, 1) := dk_0 rfl h0 rfl
theorem dk_1050 {c : ByteArray} {p : Nat} (h0 : c.data.toList[p]? = some 50) : decode c p = .ok (.aaload, 1) := dk_0 rfl h0 rfl
theorem dk_1051 {c : ByteArray} {p : Nat} (h0 : c.data.toList[p]? = some 51) : decode c p = .ok (.baload, 1) := dk_0 rfl h0 rfl
theorem dk_1054 {c : ByteArray} {p : Nat} {b : UInt8} {v : Nat} (h0 : c.data.toList[p]? = some 54) (h1 : c.data.toList[p + 1]? = some b) (e : b.toNat = v) : decode c p = .ok ((.istore v), 2) := by
  subst e
  exact dk_1 (m := Jvm.ClassFile.Reader.u1) (F := fun x => (.istore x)) rfl h0 rfl (dk_u1 h1) rfl
theorem dk_1055 {c : ByteArray} {p : Nat} {b : UInt8} {v : Nat} (h0 : c.data.toList[p]? = some 55) (h1 : c.data.toList[p + 1]? = some b) (e : b.toNat = v) : decode c p = .ok ((.lstore v), 2) := by
  subst e
  exact dk_1 (m := Jvm.ClassFile.Reader.u1) (F := fun x => (.lstore x)) rfl h0 rfl (dk_u1 h1) rfl
theorem dk_1058 {c : ByteArray} {p : Nat} {b : UInt8} {v : Nat} (h0 : c.data.toList[p]? = some 58) (h1 : c.data.toList[p + 1]? = some b) (e : b.toNat = v) : decode c p = .ok ((.astore v), 2) := by
  subst e
  exact dk_1 (m := Jvm.ClassFile.Reader.u1) (F := fun x => (.astore x)) rfl h0 rfl (dk_u1 h1) rfl
theorem dk_1059 {c : ByteArray} {p : Nat} (h0 : c.data.toList[p]? = some 59) : decode c p = .ok ((.istore_n 0), 1) := dk_0 rfl h0 rfl
theorem dk_1060 {c : ByteArray} {p : Nat} (h0 : c.data.toList[p]? = some 60) : decode c p = .ok ((.istore_n 1), 1) := dk_0 rfl h0 rfl
theorem dk_1061 {c : ByteArray} {p : Nat} (h0 : c.data.toList[p]? = some 61) : decode c p = .ok ((.istore_n 2), 1) := dk_0 rfl h0 rfl
theorem dk_1062 {c : ByteArray} {p : Nat} (h0 : c.data.toList[p]? = some 62) : decode c p = .ok ((.istore_n 3), 1) := dk_0 rfl h0 rfl
theorem dk_1066 {c : ByteArray} {p : Nat} (h0 : c.data.toList[p]? = some 66) : decode c p = .ok ((.lstore_n 3), 1) := dk_0 rfl h0 rfl
theorem dk_1076 {c : ByteArray} {p : Nat} (h0 : c.data.toList[p]? = some 76) : decode c p = .ok ((.astore_n 1), 1) := dk_0 rfl h0 rfl
theorem dk_1077 {c : ByteArray} {p : Nat} (h0 : c.data.toList[p]? = some 77) : decode c p = .ok ((.astore_n 2), 1) := dk_0 rfl h0 rfl
theorem dk_1078 {c : ByteArray} {p : Nat} (h0 : c.data.toList[p]? = some 78) : decode c p = .ok ((.astore_n 3), 1) := dk_0 rfl h0 rfl
theorem dk_1079 {c : ByteArray} {p : Nat} (h0 : c.data.toList[p]? = some 79) : decode c p = .ok (.iastore, 1) := dk_0 rfl h0 rfl
theorem dk_1080 {c : ByteArray} {p : Nat} (h0 : c.data.toList[p]? = some 80) : decode c p = .ok (.lastore, 1) := dk_0 rfl h0 rfl
theorem dk_1083 {c : ByteArray} {p : Nat} (h0 : c.data.toList[p]? = some 83) : decode c p = .ok (.aastore, 1) := dk_0 rfl h0 rfl
theorem dk_1084 {c : ByteArray} {p : Nat} (h0 : c.data.toList[p]? = some 84) : decode c p = .ok (.bastore, 1) := dk_0 rfl h0 rfl
theorem dk_1087 {c : ByteArray} {p : Nat} (h0 : c.data.toList[p]? = some 87) : decode c p = .ok (.pop, 1) := dk_0 rfl h0 rfl
theorem dk_1089 {c : ByteArray} {p : Nat} (h0 : c.data.toList[p]? = some 89) : decode c p = .ok (.dup, 1) := dk_0 rfl h0 rfl
theorem dk_1092 {c : ByteArray} {p : Nat} (h0 : c.data.toList[p]? = some 92) : decode c p = .ok (.dup2, 1) := dk_0 rfl h0 rfl
theorem dk_1096 {c : ByteArray} {p : Nat} (h0 : c.data.toList[p]? = some 96) : decode c p = .ok (.iadd, 1) := dk_0 rfl h0 rfl
theorem dk_1097 {c : ByteArray} {p : Nat} (h0 : c.data.toList[p]? = some 97) : decode c p = .ok (.ladd, 1) := dk_0 rfl h0 rfl
theorem dk_1100 {c : ByteArray} {p : Nat} (h0 : c.data.toList[p]? = some 100) : decode c p = .ok (.isub, 1) := dk_0 rfl h0 rfl
theorem dk_1101 {c : ByteArray} {p : Nat} (h0 : c.data.toList[p]? = some 101) : decode c p = .ok (.lsub, 1) := dk_0 rfl h0 rfl
theorem dk_1104 {c : ByteArray} {p : Nat} (h0 : c.data.toList[p]? = some 104) : decode c p = .ok (.imul, 1) := dk_0 rfl h0 rfl
theorem dk_1105 {c : ByteArray} {p : Nat} (h0 : c.data.toList[p]? = some 105) : decode c p = .ok (.lmul, 1) := dk_0 rfl h0 rfl
theorem dk_1108 {c : ByteArray} {p : Nat} (h0 : c.data.toList[p]? = some 108) : decode c p = .ok (.idiv, 1) := dk_0 rfl h0 rfl
theorem dk_1112 {c : ByteArray} {p : Nat} (h0 : c.data.toList[p]? = some 112) : decode c p = .ok (.irem, 1) := dk_0 rfl h0 rfl
theorem dk_1113 {c : ByteArray} {p : Nat} (h0 : c.data.toList[p]? = some 113) : decode c p = .ok (.lrem, 1) := dk_0 rfl h0 rfl
theorem dk_1120 {c : ByteArray} {p : Nat} (h0 : c.data.toList[p]? = some 120) : decode c p = .ok (.ishl, 1) := dk_0 rfl h0 rfl
theorem dk_1122 {c : ByteArray} {p : Nat} (h0 : c.data.toList[p]? = some 122) : decode c p = .ok (.ishr, 1) := dk_0 rfl h0 rfl
theorem dk_1124 {c : ByteArray} {p : Nat} (h0 : c.data.toList[p]? = some 124) : decode c p = .ok (.iushr, 1) := dk_0 rfl h0 rfl
theorem dk_1126 {c : ByteArray} {p : Nat} (h0 : c.data.toList[p]? = some 126) : decode c p = .ok (.iand, 1) := dk_0 rfl h0 rfl
theorem dk_1128 {c : ByteArray} {p : Nat} (h0 : c.data.toList[p]? = some 128) : decode c p = .ok (.ior, 1) := dk_0 rfl h0 rfl
theorem dk_1131 {c : ByteArray} {p : Nat} (h0 : c.data.toList[p]? = some 131) : decode c p = .ok (.lxor, 1) := dk_0 rfl h0 rfl
theorem dk_1132 {c : ByteArray} {p : Nat} {b d : UInt8} {v : Nat} {w : Int} (h0 : c.data.toList[p]? = some 132) (h1 : c.data.toList[p + 1]? = some b) (h2 : c.data.toList[p + 2]? = some d) (e : b.toNat = v) (e2 : Jvm.ClassFile.Reader.signed 8 d.toNat = w) : decode c p = .ok (.iinc v w, 3) := by
  subst e
  subst e2
  refine dk_d ?_
  rw [show Jvm.ClassFile.Decoder.instr p = (Jvm.ClassFile.Reader.u1 >>= _) from rfl, dk_m (dk_u1 h0)]
  refine (dk_m (F := fun x => Jvm.ClassFile.Reader.s1 >>= fun y => Pure.pure (.iinc x y)) (dk_u1 h1)).trans ?_
  exact (dk_m (F := fun y => Pure.pure (.iinc b.toNat y)) (dk_s1 h2)).trans rfl
theorem dk_1133 {c : ByteArray} {p : Nat} (h0 : c.data.toList[p]? = some 133) : decode c p = .ok (.i2l, 1) := dk_0 rfl h0 rfl
theorem dk_1136 {c : ByteArray} {p : Nat} (h0 : c.data.toList[p]? = some 136) : decode c p = .ok (.l2i, 1) := dk_0 rfl h0 rfl
theorem dk_1145 {c : ByteArray} {p : Nat} (h0 : c.data.toList[p]? = some 145) : decode c p = .ok (.i2b, 1) := dk_0 rfl h0 rfl
theorem dk_1146 {c : ByteArray} {p : Nat} (h0 : c.data.toList[p]? = some 146) : decode c p = .ok (.i2c, 1) := dk_0 rfl h0 rfl
theorem dk_1148 {c : ByteArray} {p : Nat} (h0 : c.data.toList[p]? = some 148) : decode c p = .ok (.lcmp, 1) := dk_0 rfl h0 rfl
theorem dk_1153 {c : ByteArray} {p : Nat} {b d : UInt8} {v : Int} (h0 : c.data.toList[p]? = some 153) (h1 : c.data.toList[p + 1]? = some b) (h2 : c.data.toList[p + 2]? = some d) (e : Jvm.ClassFile.Reader.signed 16 (b.toNat * 256 + d.toNat) = v) : decode c p = .ok ((.ifCond .eq v), 3) := by
  subst e
  exact dk_1 (n := 3) (m := Jvm.ClassFile.Reader.s2) (F := fun x => (.ifCond .eq x)) rfl h0 rfl (dk_s2 h1 h2) rfl
theorem dk_1154 {c : ByteArray} {p : Nat} {b d : UInt8} {v : Int} (h0 : c.data.toList[p]? = some 154) (h1 : c.data.toList[p + 1]? = some b) (h2 : c.data.toList[p + 2]? = some d) (e : Jvm.ClassFile.Reader.signed 16 (b.toNat * 256 + d.toNat) = v) : decode c p = .ok ((.ifCond .ne v), 3) := by
  subst e
  exact dk_1 (n := 3) (m := Jvm.ClassFile.Reader.s2) (F := fun x => (.ifCond .ne x)) rfl h0 rfl (dk_s2 h1 h2) rfl
theorem dk_1155 {c : ByteArray} {p : Nat} {b d : UInt8} {v : Int} (h0 : c.data.toList[p]? = some 155) (h1 : c.data.toList[p + 1]? = some b) (h2 : c.data.toList[p + 2]? = some d) (e : Jvm.ClassFile.Reader.signed 16 (b.toNat * 256 + d.toNat) = v) : decode c p = .ok ((.ifCond .lt v), 3) := by
  subst e
  exact dk_1 (n := 3) (m := Jvm.ClassFile.Reader.s2) (F := fun x => (.ifCond .lt x)) rfl h0 rfl (dk_s2 h1 h2) rfl
theorem dk_1156 {c : ByteArray} {p : Nat} {b d : UInt8} {v : Int} (h0 : c.data.toList[p]? = some 156) (h1 : c.data.toList[p + 1]? = some b) (h2 : c.data.toList[p + 2]? = some d) (e : Jvm.ClassFile.Reader.signed 16 (b.toNat * 256 + d.toNat) = v) : decode c p = .ok ((.ifCond .ge v), 3) := by
  subst e
  exact dk_1 (n := 3) (m := Jvm.ClassFile.Reader.s2) (F := fun x => (.ifCond .ge x)) rfl h0 rfl (dk_s2 h1 h2) rfl
theorem dk_1157 {c : ByteArray} {p : Nat} {b d : UInt8} {v : Int} (h0 : c.data.toList[p]? = some 157) (h1 : c.data.toList[p + 1]? = some b) (h2 : c.data.toList[p + 2]? = some d) (e : Jvm.ClassFile.Reader.signed 16 (b.toNat * 256 + d.toNat) = v) : decode c p = .ok ((.ifCond .gt v), 3) := by
  subst e
  exact dk_1 (n := 3) (m := Jvm.ClassFile.Reader.s2) (F := fun x => (.ifCond .gt x)) rfl h0 rfl (dk_s2 h1 h2) rfl
theorem dk_1158 {c : ByteArray} {p : Nat} {b d : UInt8} {v : Int} (h0 : c.data.toList[p]? = some 158) (h1 : c.data.toList[p + 1]? = some b) (h2 : c.data.toList[p + 2]? = some d) (e : Jvm.ClassFile.Reader.signed 16 (b.toNat * 256 + d.toNat) = v) : decode c p = .ok ((.ifCond .le v), 3) := by
  subst e
  exact dk_1 (n := 3) (m := Jvm.ClassFile.Reader.s2) (F := fun x => (.ifCond .le x)) rfl h0 rfl (dk_s2 h1 h2) rfl
theorem dk_1159 {c : ByteArray} {p : Nat} {b d : UInt8} {v : Int} (h0 : c.data.toList[p]? = some 159) (h1 : c.data.toList[p + 1]? = some b) (h2 : c.data.toList[p + 2]? = some d) (e : Jvm.ClassFile.Reader.signed 16 (b.toNat * 256 + d.toNat) = v) : decode c p = .ok ((.if_icmp .eq v), 3) := by
  subst e
  exact dk_1 (n := 3) (m := Jvm.ClassFile.Reader.s2) (F := fun x => (.if_icmp .eq x)) rfl h0 rfl (dk_s2 h1 h2) rfl
theorem dk_1160 {c : ByteArray} {p : Nat} {b d : UInt8} {v : Int} (h0 : c.data.toList[p]? = some 160) (h1 : c.data.toList[p + 1]? = some b) (h2 : c.data.toList[p + 2]? = some d) (e : Jvm.ClassFile.Reader.signed 16 (b.toNat * 256 + d.toNat) = v) : decode c p = .ok ((.if_icmp .ne v), 3) := by
  subst e
  exact dk_1 (n := 3) (m := Jvm.ClassFile.Reader.s2) (F := fun x => (.if_icmp .ne x)) rfl h0 rfl (dk_s2 h1 h2) rfl
theorem dk_1161 {c : ByteArray} {p : Nat} {b d : UInt8} {v : Int} (h0 : c.data.toList[p]? = some 161) (h1 : c.data.toList[p + 1]? = some b) (h2 : c.data.toList[p + 2]? = some d) (e : Jvm.ClassFile.Reader.signed 16 (b.toNat * 256 + d.toNat) = v) : decode c p = .ok ((.if_icmp .lt v), 3) := by
  subst e
  exact dk_1 (n := 3) (m := Jvm.ClassFile.Reader.s2) (F := fun x => (.if_icmp .lt x)) rfl h0 rfl (dk_s2 h1 h2) rfl
theorem dk_1162 {c : ByteArray} {p : Nat} {b d : UInt8} {v : Int} (h0 : c.data.toList[p]? = some 162) (h1 : c.data.toList[p + 1]? = some b) (h2 : c.data.toList[p + 2]? = some d) (e : Jvm.ClassFile.Reader.signed 16 (b.toNat * 256 + d.toNat) = v) : decode c p = .ok ((.if_icmp .ge v), 3) := by
  subst e
  exact dk_1 (n := 3) (m := Jvm.ClassFile.Reader.s2) (F := fun x => (.if_icmp .ge x)) rfl h0 rfl (dk_s2 h1 h2) rfl
theorem dk_1163 {c : ByteArray} {p : Nat} {b d : UInt8} {v : Int} (h0 : c.data.toList[p]? = some 163) (h1 : c.data.toList[p + 1]? = some b) (h2 : c.data.toList[p + 2]? = some d) (e : Jvm.ClassFile.Reader.signed 16 (b.toNat * 256 + d.toNat) = v) : decode c p = .ok ((.if_icmp .gt v), 3) := by
  subst e
  exact dk_1 (n := 3) (m := Jvm.ClassFile.Reader.s2) (F := fun x => (.if_icmp .gt x)) rfl h0 rfl (dk_s2 h1 h2) rfl
theorem dk_1164 {c : ByteArray} {p : Nat} {b d : UInt8} {v : Int} (h0 : c.data.toList[p]? = some 164) (h1 : c.data.toList[p + 1]? = some b) (h2 : c.data.toList[p + 2]? = some d) (e : Jvm.ClassFile.Reader.signed 16 (b.toNat * 256 + d.toNat) = v) : decode c p = .ok ((.if_icmp .le v), 3) := by
  subst e
  exact dk_1 (n := 3) (m := Jvm.ClassFile.Reader.s2) (F := fun x => (.if_icmp .le x)) rfl h0 rfl (dk_s2 h1 h2) rfl
theorem dk_1167 {c : ByteArray} {p : Nat} {b d : UInt8} {v : Int} (h0 : c.data.toList[p]? = some 167) (h1 : c.data.toList[p + 1]? = some b) (h2 : c.data.toList[p + 2]? = some d) (e : Jvm.ClassFile.Reader.signed 16 (b.toNat * 256 + d.toNat) = v) : decode c p = .ok ((.goto v), 3) := by
  subst e
  exact dk_1 (n := 3) (m := Jvm.ClassFile.Reader.s2) (F := fun x => (.goto x)) rfl h0 rfl (dk_s2 h1 h2) rfl
theorem dk_1172 {c : ByteArray} {p : Nat} (h0 : c.data.toList[p]? = some 172) : decode c p = .ok (.ireturn, 1) := dk_0 rfl h0 rfl
theorem dk_1173 {c : ByteArray} {p : Nat} (h0 : c.data.toList[p]? = some 173) : decode c p = .ok (.lreturn, 1) := dk_0 rfl h0 rfl
theorem dk_1176 {c : ByteArray} {p : Nat} (h0 : c.data.toList[p]? = some 176) : decode c p = .ok (.areturn, 1) := dk_0 rfl h0 rfl
theorem dk_1177 {c : ByteArray} {p : Nat} (h0 : c.data.toList[p]? = some 177) : decode c p = .ok (.return_, 1) := dk_0 rfl h0 rfl
theorem dk_1178 {c : ByteArray} {p : Nat} {b d : UInt8} {v : Nat} (h0 : c.data.toList[p]? = some 178) (h1 : c.data.toList[p + 1]? = some b) (h2 : c.data.toList[p + 2]? = some d) (e : b.toNat * 256 + d.toNat = v) : decode c p = .ok ((.getstatic v), 3) := by
  subst e
  exact dk_1 (n := 3) (m := Jvm.ClassFile.Reader.u2) (F := fun x => (.getstatic x)) rfl h0 rfl (dk_u2 h1 h2) rfl
theorem dk_1180 {c : ByteArray} {p : Nat} {b d : UInt8} {v : Nat} (h0 : c.data.toList[p]? = some 180) (h1 : c.data.toList[p + 1]? = some b) (h2 : c.data.toList[p + 2]? = some d) (e : b.toNat * 256 + d.toNat = v) : decode c p = .ok ((.getfield v), 3) := by
  subst e
  exact dk_1 (n := 3) (m := Jvm.ClassFile.Reader.u2) (F := fun x => (.getfield x)) rfl h0 rfl (dk_u2 h1 h2) rfl
theorem dk_1181 {c : ByteArray} {p : Nat} {b d : UInt8} {v : Nat} (h0 : c.data.toList[p]? = some 181) (h1 : c.data.toList[p + 1]? = some b) (h2 : c.data.toList[p + 2]? = some d) (e : b.toNat * 256 + d.toNat = v) : decode c p = .ok ((.putfield v), 3) := by
  subst e
  exact dk_1 (n := 3) (m := Jvm.ClassFile.Reader.u2) (F := fun x => (.putfield x)) rfl h0 rfl (dk_u2 h1 h2) rfl
theorem dk_1182 {c : ByteArray} {p : Nat} {b d : UInt8} {v : Nat} (h0 : c.data.toList[p]? = some 182) (h1 : c.data.toList[p + 1]? = some b) (h2 : c.data.toList[p + 2]? = some d) (e : b.toNat * 256 + d.toNat = v) : decode c p = .ok ((.invokevirtual v), 3) := by
  subst e
  exact dk_1 (n := 3) (m := Jvm.ClassFile.Reader.u2) (F := fun x => (.invokevirtual x)) rfl h0 rfl (dk_u2 h1 h2) rfl
theorem dk_1183 {c : ByteArray} {p : Nat} {b d : UInt8} {v : Nat} (h0 : c.data.toList[p]? = some 183) (h1 : c.data.toList[p + 1]? = some b) (h2 : c.data.toList[p + 2]? = some d) (e : b.toNat * 256 + d.toNat = v) : decode c p = .ok ((.invokespecial v), 3) := by
  subst e
  exact dk_1 (n := 3) (m := Jvm.ClassFile.Reader.u2) (F := fun x => (.invokespecial x)) rfl h0 rfl (dk_u2 h1 h2) rfl
theorem dk_1184 {c : ByteArray} {p : Nat} {b d : UInt8} {v : Nat} (h0 : c.data.toList[p]? = some 184) (h1 : c.data.toList[p + 1]? = some b) (h2 : c.data.toList[p + 2]? = some d) (e : b.toNat * 256 + d.toNat = v) : decode c p = .ok ((.invokestatic v), 3) := by
  subst e
  exact dk_1 (n := 3) (m := Jvm.ClassFile.Reader.u2) (F := fun x => (.invokestatic x)) rfl h0 rfl (dk_u2 h1 h2) rfl
theorem dk_1187 {c : ByteArray} {p : Nat} {b d : UInt8} {v : Nat} (h0 : c.data.toList[p]? = some 187) (h1 : c.data.toList[p + 1]? = some b) (h2 : c.data.toList[p + 2]? = some d) (e : b.toNat * 256 + d.toNat = v) : decode c p = .ok ((.new v), 3) := by
  subst e
  exact dk_1 (n := 3) (m := Jvm.ClassFile.Reader.u2) (F := fun x => (.new x)) rfl h0 rfl (dk_u2 h1 h2) rfl
theorem dk_1189 {c : ByteArray} {p : Nat} {b d : UInt8} {v : Nat} (h0 : c.data.toList[p]? = some 189) (h1 : c.data.toList[p + 1]? = some b) (h2 : c.data.toList[p + 2]? = some d) (e : b.toNat * 256 + d.toNat = v) : decode c p = .ok ((.anewarray v), 3) := by
  subst e
  exact dk_1 (n := 3) (m := Jvm.ClassFile.Reader.u2) (F := fun x => (.anewarray x)) rfl h0 rfl (dk_u2 h1 h2) rfl
theorem dk_1190 {c : ByteArray} {p : Nat} (h0 : c.data.toList[p]? = some 190) : decode c p = .ok (.arraylength, 1) := dk_0 rfl h0 rfl
theorem dk_1198 {c : ByteArray} {p : Nat} {b d : UInt8} {v : Int} (h0 : c.data.toList[p]? = some 198) (h1 : c.data.toList[p + 1]? = some b) (h2 : c.data.toList[p + 2]? = some d) (e : Jvm.ClassFile.Reader.signed 16 (b.toNat * 256 + d.toNat) = v) : decode c p = .ok ((.ifnull v), 3) := by
  subst e
  exact dk_1 (n := 3) (m := Jvm.ClassFile.Reader.s2) (F := fun x => (.ifnull x)) rfl h0 rfl (dk_s2 h1 h2) rfl
theorem dk_1199 {c : ByteArray} {p : Nat} {b d : UInt8} {v : Int} (h0 : c.data.toList[p]? = some 199) (h1 : c.data.toList[p + 1]? = some b) (h2 : c.data.toList[p + 2]? = some d) (e : Jvm.ClassFile.Reader.signed 16 (b.toNat * 256 + d.toNat) = v) : decode c p = .ok ((.ifnonnull v), 3) := by
  subst e
  exact dk_1 (n := 3) (m := Jvm.ClassFile.Reader.s2) (F := fun x => (.ifnonnull x)) rfl h0 rfl (dk_s2 h1 h2) rfl
theorem dk_2017 {c : ByteArray} {p : Nat} {b d : UInt8} {v : Nat} (h0 : c.data.toList[p]? = some 17) (h1 : c.data.toList[p + 1]? = some b) (h2 : c.data.toList[p + 2]? = some d) (e : b.toNat * 256 + d.toNat = v) (l : Nat.blt v 32768 = true) : decode c p = .ok ((.sipush (Int.ofNat v)), 3) := by
  subst e
  have hl := of_decide_eq_true (show decide (b.toNat * 256 + d.toNat < 32768) = true from decide_eq_true (Nat.le_of_ble_eq_true l))
  refine dk_1017 h0 h1 h2 ?_
  unfold Jvm.ClassFile.Reader.signed
  rw [if_pos hl]; rfl
theorem dk_2153 {c : ByteArray} {p : Nat} {b d : UInt8} {v : Nat} (h0 : c.data.toList[p]? = some 153) (h1 : c.data.toList[p + 1]? = some b) (h2 : c.data.toList[p + 2]? = some d) (e : b.toNat * 256 + d.toNat = v) (l : Nat.blt v 32768 = true) : decode c p = .ok ((.ifCond .eq (Int.ofNat v)), 3) := by
  subst e
  have hl := of_decide_eq_true (show decide (b.toNat * 256 + d.toNat < 32768) = true from decide_eq_true (Nat.le_of_ble_eq_true l))
  refine dk_1153 h0 h1 h2 ?_
  unfold Jvm.ClassFile.Reader.signed
  rw [if_pos hl]; rfl
theorem dk_2154 {c : ByteArray} {p : Nat} {b d : UInt8} {v : Nat} (h0 : c.data.toList[p]? = some 154) (h1 : c.data.toList[p + 1]? = some b) (h2 : c.data.toList[p + 2]? = some d) (e : b.toNat * 256 + d.toNat = v) (l : Nat.blt v 32768 = true) : decode c p = .ok ((.ifCond .ne (Int.ofNat v)), 3) := by
  subst e
  have hl := of_decide_eq_true (show decide (b.toNat * 256 + d.toNat < 32768) = true from decide_eq_true (Nat.le_of_ble_eq_true l))
  refine dk_1154 h0 h1 h2 ?_
  unfold Jvm.ClassFile.Reader.signed
  rw [if_pos hl]; rfl
theorem dk_2155 {c : ByteArray} {p : Nat} {b d : UInt8} {v : Nat} (h0 : c.data.toList[p]? = some 155) (h1 : c.data.toList[p + 1]? = some b) (h2 : c.data.toList[p + 2]? = some d) (e : b.toNat * 256 + d.toNat = v) (l : Nat.blt v 32768 = true) : decode c p = .ok ((.ifCond .lt (Int.ofNat v)), 3) := by
  subst e
  have hl := of_decide_eq_true (show decide (b.toNat * 256 + d.toNat < 32768) = true from decide_eq_true (Nat.le_of_ble_eq_true l))
  refine dk_1155 h0 h1 h2 ?_
  unfold Jvm.ClassFile.Reader.signed
  rw [if_pos hl]; rfl
theorem dk_2156 {c : ByteArray} {p : Nat} {b d : UInt8} {v : Nat} (h0 : c.data.toList[p]? = some 156) (h1 : c.data.toList[p + 1]? = some b) (h2 : c.data.toList[p + 2]? = some d) (e : b.toNat * 256 + d.toNat = v) (l : Nat.blt v 32768 = true) : decode c p = .ok ((.ifCond .ge (Int.ofNat v)), 3) := by
  subst e
  have hl := of_decide_eq_true (show decide (b.toNat * 256 + d.toNat < 32768) = true from decide_eq_true (Nat.le_of_ble_eq_true l))
  refine dk_1156 h0 h1 h2 ?_
  unfold Jvm.ClassFile.Reader.signed
  rw [if_pos hl]; rfl
theorem dk_2157 {c : ByteArray} {p : Nat} {b d : UInt8} {v : Nat} (h0 : c.data.toList[p]? = some 157) (h1 : c.data.toList[p + 1]? = some b) (h2 : c.data.toList[p + 2]? = some d) (e : b.toNat * 256 + d.toNat = v) (l : Nat.blt v 32768 = true) : decode c p = .ok ((.ifCond .gt (Int.ofNat v)), 3) := by
  subst e
  have hl := of_decide_eq_true (show decide (b.toNat * 256 + d.toNat < 32768) = true from decide_eq_true (Nat.le_of_ble_eq_true l))
  refine dk_1157 h0 h1 h2 ?_
  unfold Jvm.ClassFile.Reader.signed
  rw [if_pos hl]; rfl
theorem dk_2158 {c : ByteArray} {p : Nat} {b d : UInt8} {v : Nat} (h0 : c.data.toList[p]? = some 158) (h1 : c.data.toList[p + 1]? = some b) (h2 : c.data.toList[p + 2]? = some d) (e : b.toNat * 256 + d.toNat = v) (l : Nat.blt v 32768 = true) : decode c p = .ok ((.ifCond .le (Int.ofNat v)), 3) := by
  subst e
  have hl := of_decide_eq_true (show decide (b.toNat * 256 + d.toNat < 32768) = true from decide_eq_true (Nat.le_of_ble_eq_true l))
  refine dk_1158 h0 h1 h2 ?_
  unfold Jvm.ClassFile.Reader.signed
  rw [if_pos hl]; rfl
theorem dk_2159 {c : ByteArray} {p : Nat} {b d : UInt8} {v : Nat} (h0 : c.data.toList[p]? = some 159) (h1 : c.data.toList[p + 1]? = some b) (h2 : c.data.toList[p + 2]? = some d) (e : b.toNat * 256 + d.toNat = v) (l : Nat.blt v 32768 = true) : decode c p = .ok ((.if_icmp .eq (Int.ofNat v)), 3) := by
  subst e
  have hl := of_decide_eq_true (show decide (b.toNat * 256 + d.toNat < 32768) = true from decide_eq_true (Nat.le_of_ble_eq_true l))
  refine dk_1159 h0 h1 h2 ?_
  unfold Jvm.ClassFile.Reader.signed
  rw [if_pos hl]; rfl
theorem dk_2160 {c : ByteArray} {p : Nat} {b d : UInt8} {v : Nat} (h0 : c.data.toList[p]? = some 160) (h1 : c.data.toList[p + 1]? = some b) (h2 : c.data.toList[p + 2]? = some d) (e : b.toNat * 256 + d.toNat = v) (l : Nat.blt v 32768 = true) : decode c p = .ok ((.if_icmp .ne (Int.ofNat v)), 3) := by
  subst e
  have hl := of_decide_eq_true (show decide (b.toNat * 256 + d.toNat < 32768) = true from decide_eq_true (Nat.le_of_ble_eq_true l))
  refine dk_1160 h0 h1 h2 ?_
  unfold Jvm.ClassFile.Reader.signed
  rw [if_pos hl]; rfl
theorem dk_2161 {c : ByteArray} {p : Nat} {b d : UInt8} {v : Nat} (h0 : c.data.toList[p]? = some 161) (h1 : c.data.toList[p + 1]? = some b) (h2 : c.data.toList[p + 2]? = some d) (e : b.toNat * 256 + d.toNat = v) (l : Nat.blt v 32768 = true) : decode c p = .ok ((.if_icmp .lt (Int.ofNat v)), 3) := by
  subst e
  have hl := of_decide_eq_true (show decide (b.toNat * 256 + d.toNat < 32768) = true from decide_eq_true (Nat.le_of_ble_eq_true l))
  refine dk_1161 h0 h1 h2 ?_
  unfold Jvm.ClassFile.Reader.signed
  rw [if_pos hl]; rfl
theorem dk_2162 {c : ByteArray} {p : Nat} {b d : UInt8} {v : Nat} (h0 : c.data.toList[p]? = some 162) (h1 : c.data.toList[p + 1]? = some b) (h2 : c.data.toList[p + 2]? = some d) (e : b.toNat * 256 + d.toNat = v) (l : Nat.blt v 32768 = true) : decode c p = .ok ((.if_icmp .ge (Int.ofNat v)), 3) := by
  subst e
  have hl := of_decide_eq_true (show decide (b.toNat * 256 + d.toNat < 32768) = true from decide_eq_true (Nat.le_of_ble_eq_true l))
  refine dk_1162 h0 h1 h2 ?_
  unfold Jvm.ClassFile.Reader.signed
  rw [if_pos hl]; rfl
theorem dk_2163 {c : ByteArray} {p : Nat} {b d : UInt8} {v : Nat} (h0 : c.data.toList[p]? = some 163) (h1 : c.data.toList[p + 1]? = some b) (h2 : c.data.toList[p + 2]? = some d) (e : b.toNat * 256 + d.toNat = v) (l : Nat.blt v 32768 = true) : decode c p = .ok ((.if_icmp .gt (Int.ofNat v)), 3) := by
  subst e
  have hl := of_decide_eq_true (show decide (b.toNat * 256 + d.toNat < 32768) = true from decide_eq_true (Nat.le_of_ble_eq_true l))
  refine dk_1163 h0 h1 h2 ?_
  unfold Jvm.ClassFile.Reader.signed
  rw [if_pos hl]; rfl
theorem dk_2164 {c : ByteArray} {p : Nat} {b d : UInt8} {v : Nat} (h0 : c.data.toList[p]? = some 164) (h1 : c.data.toList[p + 1]? = some b) (h2 : c.data.toList[p + 2]? = some d) (e : b.toNat * 256 + d.toNat = v) (l : Nat.blt v 32768 = true) : decode c p = .ok ((.if_icmp .le (Int.ofNat v)), 3) := by
  subst e
  have hl := of_decide_eq_true (show decide (b.toNat * 256 + d.toNat < 32768) = true from decide_eq_true (Nat.le_of_ble_eq_true l))
  refine dk_1164 h0 h1 h2 ?_
  unfold Jvm.ClassFile.Reader.signed
  rw [if_pos hl]; rfl
theorem dk_2167 {c : ByteArray} {p : Nat} {b d : UInt8} {v : Nat} (h0 : c.data.toList[p]? = some 167) (h1 : c.data.toList[p + 1]? = some b) (h2 : c.data.toList[p + 2]? = some d) (e : b.toNat * 256 + d.toNat = v) (l : Nat.blt v 32768 = true) : decode c p = .ok ((.goto (Int.ofNat v)), 3) := by
  subst e
  have hl := of_decide_eq_true (show decide (b.toNat * 256 + d.toNat < 32768) = true from decide_eq_true (Nat.le_of_ble_eq_true l))
  refine dk_1167 h0 h1 h2 ?_
  unfold Jvm.ClassFile.Reader.signed
  rw [if_pos hl]; rfl
theorem dk_2198 {c : ByteArray} {p : Nat} {b d : UInt8} {v : Nat} (h0 : c.data.toList[p]? = some 198) (h1 : c.data.toList[p + 1]? = some b) (h2 : c.data.toList[p + 2]? = some d) (e : b.toNat * 256 + d.toNat = v) (l : Nat.blt v 32768 = true) : decode c p = .ok ((.ifnull (Int.ofNat v)), 3) := by
  subst e
  have hl := of_decide_eq_true (show decide (b.toNat * 256 + d.toNat < 32768) = true from decide_eq_true (Nat.le_of_ble_eq_true l))
  refine dk_1198 h0 h1 h2 ?_
  unfold Jvm.ClassFile.Reader.signed
  rw [if_pos hl]; rfl
theorem dk_2199 {c : ByteArray} {p : Nat} {b d : UInt8} {v : Nat} (h0 : c.data.toList[p]? = some 199) (h1 : c.data.toList[p + 1]? = some b) (h2 : c.data.toList[p + 2]? = some d) (e : b.toNat * 256 + d.toNat = v) (l : Nat.blt v 32768 = true) : decode c p = .ok ((.ifnonnull (Int.ofNat v)), 3) := by
  subst e
  have hl := of_decide_eq_true (show decide (b.toNat * 256 + d.toNat < 32768) = true from decide_eq_true (Nat.le_of_ble_eq_true l))
  refine dk_1199 h0 h1 h2 ?_
  unfold Jvm.ClassFile.Reader.signed
  rw [if_pos hl]; rfl
theorem dk_1188_4 {c : ByteArray} {p : Nat} (h0 : c.data.toList[p]? = some 188) (h1 : c.data.toList[p + 1]? = some 4) : decode c p = .ok (.newarray .boolean, 2) := by
  refine dk_d ?_
  rw [show Jvm.ClassFile.Decoder.instr p = (Jvm.ClassFile.Reader.u1 >>= _) from rfl, dk_m (dk_u1 h0)]
  refine (dk_m (F := fun x => _) (dk_u1 h1)).trans ?_
  rfl
theorem dk_1188_8 {c : ByteArray} {p : Nat} (h0 : c.data.toList[p]? = some 188) (h1 : c.data.toList[p + 1]? = some 8) : decode c p = .ok (.newarray .byte, 2) := by
  refine dk_d ?_
  rw [show Jvm.ClassFile.Decoder.instr p = (Jvm.ClassFile.Reader.u1 >>= _) from rfl, dk_m (dk_u1 h0)]
  refine (dk_m (F := fun x => _) (dk_u1 h1)).trans ?_
  rfl
theorem dk_1188_10 {c : ByteArray} {p : Nat} (h0 : c.data.toList[p]? = some 188) (h1 : c.data.toList[p + 1]? = some 10) : decode c p = .ok (.newarray .int, 2) := by
  refine dk_d ?_
  rw [show Jvm.ClassFile.Decoder.instr p = (Jvm.ClassFile.Reader.u1 >>= _) from rfl, dk_m (dk_u1 h0)]
  refine (dk_m (F := fun x => _) (dk_u1 h1)).trans ?_
  rfl
theorem dk_1188_11 {c : ByteArray} {p : Nat} (h0 : c.data.toList[p]? = some 188) (h1 : c.data.toList[p + 1]? = some 11) : decode c p = .ok (.newarray .long, 2) := by
  refine dk_d ?_
  rw [show Jvm.ClassFile.Decoder.instr p = (Jvm.ClassFile.Reader.u1 >>= _) from rfl, dk_m (dk_u1 h0)]
  refine (dk_m (F := fun x => _) (dk_u1 h1)).trans ?_
  rfl
end JN1_2
