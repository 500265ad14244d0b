theorem tmd {α : Type} {a : α} : ∀ (n : Nat) (l : List α), a ∈ l.drop n → a ∈ l
  | 0, _, h => h
  | _ + 1, [], h => h
  | n + 1, _ :: t, h => List.mem_cons_of_mem _ (tmd n t h)
theorem ta_1 {w : Cond} (h : w ∈ tables_1_1) : w ∈ tables_1 := List.mem_append_left _ h
theorem ta_2 {w : Cond} (h : w ∈ tables_1_2) : w ∈ tables_1 := List.mem_append_right _ (List.mem_append_left _ h)
theorem ta_3 {w : Cond} (h : w ∈ tables_1_3) : w ∈ tables_1 := List.mem_append_right _ (List.mem_append_right _ (List.mem_append_left _ h))
theorem ta_4 {w : Cond} (h : w ∈ tables_1_4) : w ∈ tables_1 := List.mem_append_right _ (List.mem_append_right _ (List.mem_append_right _ (List.mem_append_left _ h)))
theorem ta_5 {w : Cond} (h : w ∈ tables_1_5) : w ∈ tables_1 := List.mem_append_right _ (List.mem_append_right _ (List.mem_append_right _ (List.mem_append_right _ (List.mem_append_left _ h))))
theorem ta_6 {w : Cond} (h : w ∈ tables_1_6) : w ∈ tables_1 := List.mem_append_right _ (List.mem_append_right _ (List.mem_append_right _ (List.mem_append_right _ (List.mem_append_right _ (List.mem_append_left _ h)))))
theorem ta_7 {w : Cond} (h : w ∈ tables_1_7) : w ∈ tables_1 := List.mem_append_right _ (List.mem_append_right _ (List.mem_append_right _ (List.mem_append_right _ (List.mem_append_right _ (List.mem_append_right _ (List.mem_append_left _ h))))))
theorem ta_8 {w : Cond} (h : w ∈ tables_1_8) : w ∈ tables_1 := List.mem_append_right _ (List.mem_append_right _ (List.mem_append_right _ (List.mem_append_right _ (List.mem_append_right _ (List.mem_append_right _ (List.mem_append_right _ (List.mem_append_left _ h)))))))
theorem ta_9 {w : Cond} (h : w ∈ tables_1_9) : w ∈ tables_1 := List.mem_append_right _ (List.mem_append_right _ (List.mem_append_right _ (List.mem_append_right _ (List.mem_append_right _ (List.mem_append_right _ (List.mem_append_right _ (List.mem_append_right _ (h))))))))
set_option maxRecDepth 100000 in
noncomputable def td_1_1 : { l : List Cond // List.drop 16 (tables_1_1) = l } := by
  constructor
  conv => lhs; whnf
theorem tt_1_1 {w : Cond} (h : w ∈ td_1_1.1) : w ∈ tables_1 := ta_1 (tmd 16 _ (by rw [td_1_1.2]; exact h))
set_option maxRecDepth 100000 in
noncomputable def td_1_2 : { l : List Cond // List.drop 16 (td_1_1.1) = l } := by
  constructor
  conv => lhs; whnf
theorem tt_1_2 {w : Cond} (h : w ∈ td_1_2.1) : w ∈ tables_1 := tt_1_1 (tmd 16 _ (by rw [td_1_2.2]; exact h))
set_option maxRecDepth 100000 in
noncomputable def td_1_3 : { l : List Cond // List.drop 16 (td_1_2.1) = l } := by
  constructor
  conv => lhs; whnf
theorem tt_1_3 {w : Cond} (h : w ∈ td_1_3.1) : w ∈ tables_1 := tt_1_2 (tmd 16 _ (by rw [td_1_3.2]; exact h))
set_option maxRecDepth 100000 in
noncomputable def td_1_4 : { l : List Cond // List.drop 16 (td_1_3.1) = l } := by
  constructor
  conv => lhs; whnf
theorem tt_1_4 {w : Cond} (h : w ∈ td_1_4.1) : w ∈ tables_1 := tt_1_3 (tmd 16 _ (by rw [td_1_4.2]; exact h))
set_option maxRecDepth 100000 in
noncomputable def td_1_5 : { l : List Cond // List.drop 16 (td_1_4.1) = l } := by
  constructor
  conv => lhs; whnf
theorem tt_1_5 {w : Cond} (h : w ∈ td_1_5.1) : w ∈ tables_1 := tt_1_4 (tmd 16 _ (by rw [td_1_5.2]; exact h))
set_option maxRecDepth 100000 in
noncomputable def td_1_6 : { l : List Cond // List.drop 16 (td_1_5.1) = l } := by
  constructor
  conv => lhs; whnf
theorem tt_1_6 {w : Cond} (h : w ∈ td_1_6.1) : w ∈ tables_1 := tt_1_5 (tmd 16 _ (by rw [td_1_6.2]; exact h))
set_option maxRecDepth 100000 in
noncomputable def td_1_7 : { l : List Cond // List.drop 16 (td_1_6.1) = l } := by
  constructor
  conv => lhs; whnf
theorem tt_1_7 {w : Cond} (h : w ∈ td_1_7.1) : w ∈ tables_1 := tt_1_6 (tmd 16 _ (by rw [td_1_7.2]; exact h))
set_option maxRecDepth 100000 in
noncomputable def td_1_8 : { l : List Cond // List.drop 16 (td_1_7.1) = l } := by
  constructor
  conv => lhs; whnf
theorem tt_1_8 {w : Cond} (h : w ∈ td_1_8.1) : w ∈ tables_1 := tt_1_7 (tmd 16 _ (by rw [td_1_8.2]; exact h))
set_option maxRecDepth 100000 in
noncomputable def td_1_9 : { l : List Cond // List.drop 16 (td_1_8.1) = l } := by
  constructor
  conv => lhs; whnf
theorem tt_1_9 {w : Cond} (h : w ∈ td_1_9.1) : w ∈ tables_1 := tt_1_8 (tmd 16 _ (by rw [td_1_9.2]; exact h))
set_option maxRecDepth 100000 in
noncomputable def td_1_10 : { l : List Cond // List.drop 16 (td_1_9.1) = l } := by
  constructor
  conv => lhs; whnf
theorem tt_1_10 {w : Cond} (h : w ∈ td_1_10.1) : w ∈ tables_1 := tt_1_9 (tmd 16 _ (by rw [td_1_10.2]; exact h))
set_option maxRecDepth 100000 in
noncomputable def td_1_11 : { l : List Cond // List.drop 16 (td_1_10.1) = l } := by
  constructor
  conv => lhs; whnf
theorem tt_1_11 {w : Cond} (h : w ∈ td_1_11.1) : w ∈ tables_1 := tt_1_10 (tmd 16 _ (by rw [td_1_11.2]; exact h))
set_option maxRecDepth 100000 in
noncomputable def td_1_12 : { l : List Cond // List.drop 16 (td_1_11.1) = l } := by
  constructor
  conv => lhs; whnf
theorem tt_1_12 {w : Cond} (h : w ∈ td_1_12.1) : w ∈ tables_1 := tt_1_11 (tmd 16 _ (by rw [td_1_12.2]; exact h))
set_option maxRecDepth 100000 in
noncomputable def td_1_13 : { l : List Cond // List.drop 16 (td_1_12.1) = l } := by
  constructor
  conv => lhs; whnf
theorem tt_1_13 {w : Cond} (h : w ∈ td_1_13.1) : w ∈ tables_1 := tt_1_12 (tmd 16 _ (by rw [td_1_13.2]; exact h))
set_option maxRecDepth 100000 in
noncomputable def td_1_14 : { l : List Cond // List.drop 16 (td_1_13.1) = l } := by
  constructor
  conv => lhs; whnf
theorem tt_1_14 {w : Cond} (h : w ∈ td_1_14.1) : w ∈ tables_1 := tt_1_13 (tmd 16 _ (by rw [td_1_14.2]; exact h))
set_option maxRecDepth 100000 in
noncomputable def td_2_1 : { l : List Cond // List.drop 16 (tables_1_2) = l } := by
  constructor
  conv => lhs; whnf
theorem tt_2_1 {w : Cond} (h : w ∈ td_2_1.1) : w ∈ tables_1 := ta_2 (tmd 16 _ (by rw [td_2_1.2]; exact h))
set_option maxRecDepth 100000 in
noncomputable def td_2_2 : { l : List Cond // List.drop 16 (td_2_1.1) = l } := by
  constructor
  conv => lhs; whnf
theorem tt_2_2 {w : Cond} (h : w ∈ td_2_2.1) : w ∈ tables_1 := tt_2_1 (tmd 16 _ (by rw [td_2_2.2]; exact h))
set_option maxRecDepth 100000 in
noncomputable def td_2_3 : { l : List Cond // List.drop 16 (td_2_2.1) = l } := by
  constructor
  conv => lhs; whnf
theorem tt_2_3 {w : Cond} (h : w ∈ td_2_3.1) : w ∈ tables_1 := tt_2_2 (tmd 16 _ (by rw [td_2_3.2]; exact h))
set_option maxRecDepth 100000 in
noncomputable def td_2_4 : { l : List Cond // List.drop 16 (td_2_3.1) = l } := by
  constructor
  conv => lhs; whnf
theorem tt_2_4 {w : Cond} (h : w ∈ td_2_4.1) : w ∈ tables_1 := tt_2_3 (tmd 16 _ (by rw [td_2_4.2]; exact h))
set_option maxRecDepth 100000 in
noncomputable def td_2_5 : { l : List Cond // List.drop 16 (td_2_4.1) = l } := by
  constructor
  conv => lhs; whnf
theorem tt_2_5 {w : Cond} (h : w ∈ td_2_5.1) : w ∈ tables_1 := tt_2_4 (tmd 16 _ (by rw [td_2_5.2]; exact h))
set_option maxRecDepth 100000 in
noncomputable def td_2_6 : { l : List Cond // List.drop 16 (td_2_5.1) = l } := by
  constructor
  conv => lhs; whnf
theorem tt_2_6 {w : Cond} (h : w ∈ td_2_6.1) : w ∈ tables_1 := tt_2_5 (tmd 16 _ (by rw [td_2_6.2]; exact h))
set_option maxRecDepth 100000 in
noncomputable def td_2_7 : { l : List Cond // List.drop 16 (td_2_6.1) = l } := by
  constructor
  conv => lhs; whnf
theorem tt_2_7 {w : Cond} (h : w ∈ td_2_7.1) : w ∈ tables_1 := tt_2_6 (tmd 16 _ (by rw [td_2_7.2]; exact h))
set_option maxRecDepth 100000 in
noncomputable def td_2_8 : { l : List Cond // List.drop 16 (td_2_7.1) = l } := by
  constructor
  conv => lhs; whnf
theorem tt_2_8 {w : Cond} (h : w ∈ td_2_8.1) : w ∈ tables_1 := tt_2_7 (tmd 16 _ (by rw [td_2_8.2]; exact h))
set_option maxRecDepth 100000 in
noncomputable def td_2_9 : { l : List Cond // List.drop 16 (td_2_8.1) = l } := by
  constructor
  conv => lhs; whnf
theorem tt_2_9 {w : Cond} (h : w ∈ td_2_9.1) : w ∈ tables_1 := tt_2_8 (tmd 16 _ (by rw [td_2_9.2]; exact h))
set_option maxRecDepth 100000 in
noncomputable def td_2_10 : { l : List Cond // List.drop 16 (td_2_9.1) = l } := by
  constructor
  conv => lhs; whnf
theorem tt_2_10 {w : Cond} (h : w ∈ td_2_10.1) : w ∈ tables_1 := tt_2_9 (tmd 16 _ (by rw [td_2_10.2]; exact h))
set_option maxRecDepth 100000 in
noncomputable def td_2_11 : { l : List Cond // List.drop 16 (td_2_10.1) = l } := by
  constructor
  conv => lhs; whnf
theorem tt_2_11 {w : Cond} (h : w ∈ td_2_11.1) : w ∈ tables_1 := tt_2_10 (tmd 16 _ (by rw [td_2_11.2]; exact h))
set_option maxRecDepth 100000 in
noncomputable def td_2_12 : { l : List Cond // List.drop 16 (td_2_11.1) = l } := by
  constructor
  conv => lhs; whnf
theorem tt_2_12 {w : Cond} (h : w ∈ td_2_12.1) : w ∈ tables_1 := tt_2_11 (tmd 16 _ (by rw [td_2_12.2]; exact h))
set_option maxRecDepth 100000 in
noncomputable def td_2_13 : { l : List Cond // List.drop 16 (td_2_12.1) = l } := by
  constructor
  conv => lhs; whnf
theorem tt_2_13 {w : Cond} (h : w ∈ td_2_13.1) : w ∈ tables_1 := tt_2_12 (tmd 16 _ (by rw [td_2_13.2]; exact h))
set_option maxRecDepth 100000 in
noncomputable def td_2_14 : { l : List Cond // List.drop 16 (td_2_13.1) = l } := by
  constructor
  conv => lhs; whnf
theorem tt_2_14 {w : Cond} (h : w ∈ td_2_14.1) : w ∈ tables_1 := tt_2_13 (tmd 16 _ (by rw [td_2_14.2]; exact h))
set_option maxRecDepth 100000 in
noncomputable def td_3_1 : { l : List Cond // List.drop 16 (tables_1_3) = l } := by
  constructor
  conv => lhs; whnf
theorem tt_3_1 {w : Cond} (h : w ∈ td_3_1.1) : w ∈ tables_1 := ta_3 (tmd 16 _ (by rw [td_3_1.2]; exact h))
set_option maxRecDepth 100000 in
noncomputable def td_3_2 : { l : List Cond // List.drop 16 (td_3_1.1) = l } := by
  constructor
  conv => lhs; whnf
theorem tt_3_2 {w : Cond} (h : w ∈ td_3_2.1) : w ∈ tables_1 := tt_3_1 (tmd 16 _ (by rw [td_3_2.2]; exact h))
set_option maxRecDepth 100000 in
noncomputable def td_3_3 : { l : List Cond // List.drop 16 (td_3_2.1) = l } := by
  constructor
  conv => lhs; whnf
theorem tt_3_3 {w : Cond} (h : w ∈ td_3_3.1) : w ∈ tables_1 := tt_3_2 (tmd 16 _ (by rw [td_3_3.2]; exact h))
set_option maxRecDepth 100000 in
noncomputable def td_3_4 : { l : List Cond // List.drop 16 (td_3_3.1) = l } := by
  constructor
  conv => lhs; whnf
theorem tt_3_4 {w : Cond} (h : w ∈ td_3_4.1) : w ∈ tables_1 := tt_3_3 (tmd 16 _ (by rw [td_3_4.2]; exact h))
set_option maxRecDepth 100000 in
noncomputable def td_3_5 : { l : List Cond // List.drop 16 (td_3_4.1) = l } := by
  constructor
  conv => lhs; whnf
theorem tt_3_5 {w : Cond} (h : w ∈ td_3_5.1) : w ∈ tables_1 := tt_3_4 (tmd 16 _ (by rw [td_3_5.2]; exact h))
set_option maxRecDepth 100000 in
noncomputable def td_3_6 : { l : List Cond // List.drop 16 (td_3_5.1) = l } := by
  constructor
  conv => lhs; whnf
theorem tt_3_6 {w : Cond} (h : w ∈ td_3_6.1) : w ∈ tables_1 := tt_3_5 (tmd 16 _ (by rw [td_3_6.2]; exact h))
set_option maxRecDepth 100000 in
noncomputable def td_3_7 : { l : List Cond // List.drop 16 (td_3_6.1) = l } := by
  constructor
  conv => lhs; whnf
theorem tt_3_7 {w : Cond} (h : w ∈ td_3_7.1) : w ∈ tables_1 := tt_3_6 (tmd 16 _ (by rw [td_3_7.2]; exact h))
set_option maxRecDepth 100000 in
noncomputable def td_3_8 : { l : List Cond // List.drop 16 (td_3_7.1) = l } := by
  constructor
  conv => lhs; whnf
theorem tt_3_8 {w : Cond} (h : w ∈ td_3_8.1) : w ∈ tables_1 := tt_3_7 (tmd 16 _ (by rw [td_3_8.2]; exact h))
set_option maxRecDepth 100000 in
noncomputable def td_3_9 : { l : List Cond // List.drop 16 (td_3_8.1) = l } := by
  constructor
  conv => lhs; whnf
theorem tt_3_9 {w : Cond} (h : w ∈ td_3_9.1) : w ∈ tables_1 := tt_3_8 (tmd 16 _ (by rw [td_3_9.2]; exact h))
set_option maxRecDepth 100000 in
noncomputable def td_3_10 : { l : List Cond // List.drop 16 (td_3_9.1) = l } := by
  constructor
  conv => lhs; whnf
theorem tt_3_10 {w : Cond} (h : w ∈ td_3_10.1) : w ∈ tables_1 := tt_3_9 (tmd 16 _ (by rw [td_3_10.2]; exact h))
set_option maxRecDepth 100000 in
noncomputable def td_3_11 : { l : List Cond // List.drop 16 (td_3_10.1) = l } := by
  constructor
  conv => lhs; whnf
theorem tt_3_11 {w : Cond} (h : w ∈ td_3_11.1) : w ∈ tables_1 := tt_3_10 (tmd 16 _ (by rw [td_3_11.2]; exact h))
set_option maxRecDepth 100000 in
noncomputable def td_3_12 : { l : List Cond // List.drop 16 (td_3_11.1) = l } := by
  constructor
  conv => lhs; whnf
theorem tt_3_12 {w : Cond} (h : w ∈ td_3_12.1) : w ∈ tables_1 := tt_3_11 (tmd 16 _ (by rw [td_3_12.2]; exact h))
set_option maxRecDepth 100000 in
noncomputable def td_3_13 : { l : List Cond // List.drop 16 (td_3_12.1) = l } := by
  constructor
  conv => lhs; whnf
theorem tt_3_13 {w : Cond} (h : w ∈ td_3_13.1) : w ∈ tables_1 := tt_3_12 (tmd 16 _ (by rw [td_3_13.2]; exact h))
set_option maxRecDepth 100000 in
noncomputable def td_3_14 : { l : List Cond // List.drop 16 (td_3_13.1) = l } := by
  constructor
  conv => lhs; whnf
theorem tt_3_14 {w : Cond} (h : w ∈ td_3_14.1) : w ∈ tables_1 := tt_3_13 (tmd 16 _ (by rw [td_3_14.2]; exact h))
set_option maxRecDepth 100000 in
noncomputable def td_4_1 : { l : List Cond // List.drop 16 (tables_1_4) = l } := by
  constructor
  conv => lhs; whnf
theorem tt_4_1 {w : Cond} (h : w ∈ td_4_1.1) : w ∈ tables_1 := ta_4 (tmd 16 _ (by rw [td_4_1.2]; exact h))
set_option maxRecDepth 100000 in
noncomputable def td_4_2 : { l : List Cond // List.drop 16 (td_4_1.1) = l } := by
  constructor
  conv => lhs; whnf
theorem tt_4_2 {w : Cond} (h : w ∈ td_4_2.1) : w ∈ tables_1 := tt_4_1 (tmd 16 _ (by rw [td_4_2.2]; exact h))
set_option maxRecDepth 100000 in
noncomputable def td_4_3 : { l : List Cond // List.drop 16 (td_4_2.1) = l } := by
  constructor
  conv => lhs; whnf
theorem tt_4_3 {w : Cond} (h : w ∈ td_4_3.1) : w ∈ tables_1 := tt_4_2 (tmd 16 _ (by rw [td_4_3.2]; exact h))
set_option maxRecDepth 100000 in
noncomputable def td_4_4 : { l : List Cond // List.drop 16 (td_4_3.1) = l } := by
  constructor
  conv => lhs; whnf
theorem tt_4_4 {w : Cond} (h : w ∈ td_4_4.1) : w ∈ tables_1 := tt_4_3 (tmd 16 _ (by rw [td_4_4.2]; exact h))
set_option maxRecDepth 100000 in
noncomputable def td_4_5 : { l : List Cond // List.drop 16 (td_4_4.1) = l } := by
  constructor
  conv => lhs; whnf
theorem tt_4_5 {w : Cond} (h : w ∈ td_4_5.1) : w ∈ tables_1 := tt_4_4 (tmd 16 _ (by rw [td_4_5.2]; exact h))
set_option maxRecDepth 100000 in
noncomputable def td_4_6 : { l : List Cond // List.drop 16 (td_4_5.1) = l } := by
  constructor
  conv => lhs; whnf
theorem tt_4_6 {w : Cond} (h : w ∈ td_4_6.1) : w ∈ tables_1 := tt_4_5 (tmd 16 _ (by rw [td_4_6.2]; exact h))
set_option maxRecDepth 100000 in
noncomputable def td_4_7 : { l : List Cond // List.drop 16 (td_4_6.1) = l } := by
  constructor
  conv => lhs; whnf
theorem tt_4_7 {w : Cond} (h : w ∈ td_4_7.1) : w ∈ tables_1 := tt_4_6 (tmd 16 _ (by rw [td_4_7.2]; exact h))
set_option maxRecDepth 100000 in
noncomputable def td_4_8 : { l : List Cond // List.drop 16 (td_4_7.1) = l } := by
  constructor
  conv => lhs; whnf
theorem tt_4_8 {w : Cond} (h : w ∈ td_4_8.1) : w ∈ tables_1 := tt_4_7 (tmd 16 _ (by rw [td_4_8.2]; exact h))
set_option maxRecDepth 100000 in
noncomputable def td_4_9 : { l : List Cond // List.drop 16 (td_4_8.1) = l } := by
  constructor
  conv => lhs; whnf
theorem tt_4_9 {w : Cond} (h : w ∈ td_4_9.1) : w ∈ tables_1 := tt_4_8 (tmd 16 _ (by rw [td_4_9.2]; exact h))
set_option maxRecDepth 100000 in
noncomputable def td_4_10 : { l : List Cond // List.drop 16 (td_4_9.1) = l } := by
  constructor
  conv => lhs; whnf
theorem tt_4_10 {w : Cond} (h : w ∈ td_4_10.1) : w ∈ tables_1 := tt_4_9 (tmd 16 _ (by rw [td_4_10.2]; exact h))
set_option maxRecDepth 100000 in
noncomputable def td_4_11 : { l : List Cond // List.drop 16 (td_4_10.1) = l } := by
  constructor
  conv => lhs; whnf
theorem tt_4_11 {w : Cond} (h : w ∈ td_4_11.1) : w ∈ tables_1 := tt_4_10 (tmd 16 _ (by rw [td_4_11.2]; exact h))
set_option maxRecDepth 100000 in
noncomputable def td_4_12 : { l : List Cond // List.drop 16 (td_4_11.1) = l } := by
  constructor
  conv => lhs; whnf
theorem tt_4_12 {w : Cond} (h : w ∈ td_4_12.1) : w ∈ tables_1 := tt_4_11 (tmd 16 _ (by rw [td_4_12.2]; exact h))
set_option maxRecDepth 100000 in
noncomputable def td_4_13 : { l : List Cond // List.drop 16 (td_4_12.1) = l } := by
  constructor
  conv => lhs; whnf
theorem tt_4_13 {w : Cond} (h : w ∈ td_4_13.1) : w ∈ tables_1 := tt_4_12 (tmd 16 _ (by rw [td_4_13.2]; exact h))
set_option maxRecDepth 100000 in
noncomputable def td_4_14 : { l : List Cond // List.drop 16 (td_4_13.1) = l } := by
  constructor
  conv => lhs; whnf
theorem tt_4_14 {w : Cond} (h : w ∈ td_4_14.1) : w ∈ tables_1 := tt_4_13 (tmd 16 _ (by rw [td_4_14.2]; exact h))
set_option maxRecDepth 100000 in
noncomputable def td_5_1 : { l : List Cond // List.drop 16 (tables_1_5) = l } := by
  constructor
  conv => lhs; whnf
theorem tt_5_1 {w : Cond} (h : w ∈ td_5_1.1) : w ∈ tables_1 := ta_5 (tmd 16 _ (by rw [td_5_1.2]; exact h))
set_option maxRecDepth 100000 in
noncomputable def td_5_2 : { l : List Cond // List.drop 16 (td_5_1.1) = l } := by
  constructor
  conv => lhs; whnf
theorem tt_5_2 {w : Cond} (h : w ∈ td_5_2.1) : w ∈ tables_1 := tt_5_1 (tmd 16 _ (by rw [td_5_2.2]; exact h))
set_option maxRecDepth 100000 in
noncomputable def td_5_3 : { l : List Cond // List.drop 16 (td_5_2.1) = l } := by
  constructor
  conv => lhs; whnf
theorem tt_5_3 {w : Cond} (h : w ∈ td_5_3.1) : w ∈ tables_1 := tt_5_2 (tmd 16 _ (by rw [td_5_3.2]; exact h))
set_option maxRecDepth 100000 in
noncomputable def td_5_4 : { l : List Cond // List.drop 16 (td_5_3.1) = l } := by
  constructor
  conv => lhs; whnf
theorem tt_5_4 {w : Cond} (h : w ∈ td_5_4.1) : w ∈ tables_1 := tt_5_3 (tmd 16 _ (by rw [td_5_4.2]; exact h))
set_option maxRecDepth 100000 in
noncomputable def td_5_5 : { l : List Cond // List.drop 16 (td_5_4.1) = l } := by
  constructor
  conv => lhs; whnf
theorem tt_5_5 {w : Cond} (h : w ∈ td_5_5.1) : w ∈ tables_1 := tt_5_4 (tmd 16 _ (by rw [td_5_5.2]; exact h))
set_option maxRecDepth 100000 in
noncomputable def td_5_6 : { l : List Cond // List.drop 16 (td_5_5.1) = l } := by
  constructor
  conv => lhs; whnf
theorem tt_5_6 {w : Cond} (h : w ∈ td_5_6.1) : w ∈ tables_1 := tt_5_5 (tmd 16 _ (by rw [td_5_6.2]; exact h))
set_option maxRecDepth 100000 in
noncomputable def td_5_7 : { l : List Cond // List.drop 16 (td_5_6.1) = l } := by
  constructor
  conv => lhs; whnf
theorem tt_5_7 {w : Cond} (h : w ∈ td_5_7.1) : w ∈ tables_1 := tt_5_6 (tmd 16 _ (by rw [td_5_7.2]; exact h))
set_option maxRecDepth 100000 in
noncomputable def td_5_8 : { l : List Cond // List.drop 16 (td_5_7.1) = l } := by
  constructor
  conv => lhs; whnf
theorem tt_5_8 {w : Cond} (h : w ∈ td_5_8.1) : w ∈ tables_1 := tt_5_7 (tmd 16 _ (by rw [td_5_8.2]; exact h))
set_option maxRecDepth 100000 in
noncomputable def td_5_9 : { l : List Cond // List.drop 16 (td_5_8.1) = l } := by
  constructor
  conv => lhs; whnf
theorem tt_5_9 {w : Cond} (h : w ∈ td_5_9.1) : w ∈ tables_1 := tt_5_8 (tmd 16 _ (by rw [td_5_9.2]; exact h))
set_option maxRecDepth 100000 in
noncomputable def td_5_10 : { l : List Cond // List.drop 16 (td_5_9.1) = l } := by
  constructor
  conv => lhs; whnf
theorem tt_5_10 {w : Cond} (h : w ∈ td_5_10.1) : w ∈ tables_1 := tt_5_9 (tmd 16 _ (by rw [td_5_10.2]; exact h))
set_option maxRecDepth 100000 in
noncomputable def td_5_11 : { l : List Cond // List.drop 16 (td_5_10.1) = l } := by
  constructor
  conv => lhs; whnf
theorem tt_5_11 {w : Cond} (h : w ∈ td_5_11.1) : w ∈ tables_1 := tt_5_10 (tmd 16 _ (by rw [td_5_11.2]; exact h))
set_option maxRecDepth 100000 in
noncomputable def td_5_12 : { l : List Cond // List.drop 16 (td_5_11.1) = l } := by
  constructor
  conv => lhs; whnf
theorem tt_5_12 {w : Cond} (h : w ∈ td_5_12.1) : w ∈ tables_1 := tt_5_11 (tmd 16 _ (by rw [td_5_12.2]; exact h))
set_option maxRecDepth 100000 in
noncomputable def td_5_13 : { l : List Cond // List.drop 16 (td_5_12.1) = l } := by
  constructor
  conv => lhs; whnf
theorem tt_5_13 {w : Cond} (h : w ∈ td_5_13.1) : w ∈ tables_1 := tt_5_12 (tmd 16 _ (by rw [td_5_13.2]; exact h))
set_option maxRecDepth 100000 in
noncomputable def td_5_14 : { l : List Cond // List.drop 16 (td_5_13.1) = l } := by
  constructor
  conv => lhs; whnf
theorem tt_5_14 {w : Cond} (h : w ∈ td_5_14.1) : w ∈ tables_1 := tt_5_13 (tmd 16 _ (by rw [td_5_14.2]; exact h))
set_option maxRecDepth 100000 in
noncomputable def td_6_1 : { l : List Cond // List.drop 16 (tables_1_6) = l } := by
  constructor
  conv => lhs; whnf
theorem tt_6_1 {w : Cond} (h : w ∈ td_6_1.1) : w ∈ tables_1 := ta_6 (tmd 16 _ (by rw [td_6_1.2]; exact h))
set_option maxRecDepth 100000 in
noncomputable def td_6_2 : { l : List Cond // List.drop 16 (td_6_1.1) = l } := by
  constructor
  conv => lhs; whnf
theorem tt_6_2 {w : Cond} (h : w ∈ td_6_2.1) : w ∈ tables_1 := tt_6_1 (tmd 16 _ (by rw [td_6_2.2]; exact h))
set_option maxRecDepth 100000 in
noncomputable def td_6_3 : { l : List Cond // List.drop 16 (td_6_2.1) = l } := by
  constructor
  conv => lhs; whnf
theorem tt_6_3 {w : Cond} (h : w ∈ td_6_3.1) : w ∈ tables_1 := tt_6_2 (tmd 16 _ (by rw [td_6_3.2]; exact h))
set_option maxRecDepth 100000 in
noncomputable def td_6_4 : { l : List Cond // List.drop 16 (td_6_3.1) = l } := by
  constructor
  conv => lhs; whnf
theorem tt_6_4 {w : Cond} (h : w ∈ td_6_4.1) : w ∈ tables_1 := tt_6_3 (tmd 16 _ (by rw [td_6_4.2]; exact h))
set_option maxRecDepth 100000 in
noncomputable def td_6_5 : { l : List Cond // List.drop 16 (td_6_4.1) = l } := by
  constructor
  conv => lhs; whnf
theorem tt_6_5 {w : Cond} (h : w ∈ td_6_5.1) : w ∈ tables_1 := tt_6_4 (tmd 16 _ (by rw [td_6_5.2]; exact h))
set_option maxRecDepth 100000 in
noncomputable def td_6_6 : { l : List Cond // List.drop 16 (td_6_5.1) = l } := by
  constructor
  conv => lhs; whnf
theorem tt_6_6 {w : Cond} (h : w ∈ td_6_6.1) : w ∈ tables_1 := tt_6_5 (tmd 16 _ (by rw [td_6_6.2]; exact h))
set_option maxRecDepth 100000 in
noncomputable def td_6_7 : { l : List Cond // List.drop 16 (td_6_6.1) = l } := by
  constructor
  conv => lhs; whnf
theorem tt_6_7 {w : Cond} (h : w ∈ td_6_7.1) : w ∈ tables_1 := tt_6_6 (tmd 16 _ (by rw [td_6_7.2]; exact h))
set_option maxRecDepth 100000 in
noncomputable def td_6_8 : { l : List Cond // List.drop 16 (td_6_7.1) = l } := by
  constructor
  conv => lhs; whnf
theorem tt_6_8 {w : Cond} (h : w ∈ td_6_8.1) : w ∈ tables_1 := tt_6_7 (tmd 16 _ (by rw [td_6_8.2]; exact h))
set_option maxRecDepth 100000 in
noncomputable def td_6_9 : { l : List Cond // List.drop 16 (td_6_8.1) = l } := by
  constructor
  conv => lhs; whnf
theorem tt_6_9 {w : Cond} (h : w ∈ td_6_9.1) : w ∈ tables_1 := tt_6_8 (tmd 16 _ (by rw [td_6_9.2]; exact h))
set_option maxRecDepth 100000 in
noncomputable def td_6_10 : { l : List Cond // List.drop 16 (td_6_9.1) = l } := by
  constructor
  conv => lhs; whnf
theorem tt_6_10 {w : Cond} (h : w ∈ td_6_10.1) : w ∈ tables_1 := tt_6_9 (tmd 16 _ (by rw [td_6_10.2]; exact h))
set_option maxRecDepth 100000 in
noncomputable def td_6_11 : { l : List Cond // List.drop 16 (td_6_10.1) = l } := by
  constructor
  conv => lhs; whnf
theorem tt_6_11 {w : Cond} (h : w ∈ td_6_11.1) : w ∈ tables_1 := tt_6_10 (tmd 16 _ (by rw [td_6_11.2]; exact h))
set_option maxRecDepth 100000 in
noncomputable def td_6_12 : { l : List Cond // List.drop 16 (td_6_11.1) = l } := by
  constructor
  conv => lhs; whnf
theorem tt_6_12 {w : Cond} (h : w ∈ td_6_12.1) : w ∈ tables_1 := tt_6_11 (tmd 16 _ (by rw [td_6_12.2]; exact h))
set_option maxRecDepth 100000 in
noncomputable def td_6_13 : { l : List Cond // List.drop 16 (td_6_12.1) = l } := by
  constructor
  conv => lhs; whnf
theorem tt_6_13 {w : Cond} (h : w ∈ td_6_13.1) : w ∈ tables_1 := tt_6_12 (tmd 16 _ (by rw [td_6_13.2]; exact h))
set_option maxRecDepth 100000 in
noncomputable def td_6_14 : { l : List Cond // List.drop 16 (td_6_13.1) = l } := by
  constructor
  conv => lhs; whnf
theorem tt_6_14 {w : Cond} (h : w ∈ td_6_14.1) : w ∈ tables_1 := tt_6_13 (tmd 16 _ (by rw [td_6_14.2]; exact h))
set_option maxRecDepth 100000 in
noncomputable def td_7_1 : { l : List Cond // List.drop 16 (tables_1_7) = l } := by
  constructor
  conv => lhs; whnf
theorem tt_7_1 {w : Cond} (h : w ∈ td_7_1.1) : w ∈ tables_1 := ta_7 (tmd 16 _ (by rw [td_7_1.2]; exact h))
set_option maxRecDepth 100000 in
noncomputable def td_7_2 : { l : List Cond // List.drop 16 (td_7_1.1) = l } := by
  constructor
  conv => lhs; whnf
theorem tt_7_2 {w : Cond} (h : w ∈ td_7_2.1) : w ∈ tables_1 := tt_7_1 (tmd 16 _ (by rw [td_7_2.2]; exact h))
set_option maxRecDepth 100000 in
noncomputable def td_7_3 : { l : List Cond // List.drop 16 (td_7_2.1) = l } := by
  constructor
  conv => lhs; whnf
theorem tt_7_3 {w : Cond} (h : w ∈ td_7_3.1) : w ∈ tables_1 := tt_7_2 (tmd 16 _ (by rw [td_7_3.2]; exact h))
set_option maxRecDepth 100000 in
noncomputable def td_7_4 : { l : List Cond // List.drop 16 (td_7_3.1) = l } := by
  constructor
  conv => lhs; whnf
theorem tt_7_4 {w : Cond} (h : w ∈ td_7_4.1) : w ∈ tables_1 := tt_7_3 (tmd 16 _ (by rw [td_7_4.2]; exact h))
set_option maxRecDepth 100000 in
noncomputable def td_7_5 : { l : List Cond // List.drop 16 (td_7_4.1) = l } := by
  constructor
  conv => lhs; whnf
theorem tt_7_5 {w : Cond} (h : w ∈ td_7_5.1) : w ∈ tables_1 := tt_7_4 (tmd 16 _ (by rw [td_7_5.2]; exact h))
set_option maxRecDepth 100000 in
noncomputable def td_7_6 : { l : List Cond // List.drop 16 (td_7_5.1) = l } := by
  constructor
  conv => lhs; whnf
theorem tt_7_6 {w : Cond} (h : w ∈ td_7_6.1) : w ∈ tables_1 := tt_7_5 (tmd 16 _ (by rw [td_7_6.2]; exact h))
set_option maxRecDepth 100000 in
noncomputable def td_7_7 : { l : List Cond // List.drop 16 (td_7_6.1) = l } := by
  constructor
  conv => lhs; whnf
theorem tt_7_7 {w : Cond} (h : w ∈ td_7_7.1) : w ∈ tables_1 := tt_7_6 (tmd 16 _ (by rw [td_7_7.2]; exact h))
set_option maxRecDepth 100000 in
noncomputable def td_7_8 : { l : List Cond // List.drop 16 (td_7_7.1) = l } := by
  constructor
  conv => lhs; whnf
theorem tt_7_8 {w : Cond} (h : w ∈ td_7_8.1) : w ∈ tables_1 := tt_7_7 (tmd 16 _ (by rw [td_7_8.2]; exact h))
set_option maxRecDepth 100000 in
noncomputable def td_7_9 : { l : List Cond // List.drop 16 (td_7_8.1) = l } := by
  constructor
  conv => lhs; whnf
theorem tt_7_9 {w : Cond} (h : w ∈ td_7_9.1) : w ∈ tables_1 := tt_7_8 (tmd 16 _ (by rw [td_7_9.2]; exact h))
set_option maxRecDepth 100000 in
noncomputable def td_7_10 : { l : List Cond // List.drop 16 (td_7_9.1) = l } := by
  constructor
  conv => lhs; whnf
theorem tt_7_10 {w : Cond} (h : w ∈ td_7_10.1) : w ∈ tables_1 := tt_7_9 (tmd 16 _ (by rw [td_7_10.2]; exact h))
set_option maxRecDepth 100000 in
noncomputable def td_7_11 : { l : List Cond // List.drop 16 (td_7_10.1) = l } := by
  constructor
  conv => lhs; whnf
theorem tt_7_11 {w : Cond} (h : w ∈ td_7_11.1) : w ∈ tables_1 := tt_7_10 (tmd 16 _ (by rw [td_7_11.2]; exact h))
set_option maxRecDepth 100000 in
noncomputable def td_7_12 : { l : List Cond // List.drop 16 (td_7_11.1) = l } := by
  constructor
  conv => lhs; whnf
theorem tt_7_12 {w : Cond} (h : w ∈ td_7_12.1) : w ∈ tables_1 := tt_7_11 (tmd 16 _ (by rw [td_7_12.2]; exact h))
set_option maxRecDepth 100000 in
noncomputable def td_7_13 : { l : List Cond // List.drop 16 (td_7_12.1) = l } := by
  constructor
  conv => lhs; whnf
theorem tt_7_13 {w : Cond} (h : w ∈ td_7_13.1) : w ∈ tables_1 := tt_7_12 (tmd 16 _ (by rw [td_7_13.2]; exact h))
set_option maxRecDepth 100000 in
noncomputable def td_7_14 : { l : List Cond // List.drop 16 (td_7_13.1) = l } := by
  constructor
  conv => lhs; whnf
theorem tt_7_14 {w : Cond} (h : w ∈ td_7_14.1) : w ∈ tables_1 := tt_7_13 (tmd 16 _ (by rw [td_7_14.2]; exact h))
set_option maxRecDepth 100000 in
noncomputable def td_8_1 : { l : List Cond // List.drop 16 (tables_1_8) = l } := by
  constructor
  conv => lhs; whnf
theorem tt_8_1 {w : Cond} (h : w ∈ td_8_1.1) : w ∈ tables_1 := ta_8 (tmd 16 _ (by rw [td_8_1.2]; exact h))
set_option maxRecDepth 100000 in
noncomputable def td_8_2 : { l : List Cond // List.drop 16 (td_8_1.1) = l } := by
  constructor
  conv => lhs; whnf
theorem tt_8_2 {w : Cond} (h : w ∈ td_8_2.1) : w ∈ tables_1 := tt_8_1 (tmd 16 _ (by rw [td_8_2.2]; exact h))
set_option maxRecDepth 100000 in
noncomputable def td_8_3 : { l : List Cond // List.drop 16 (td_8_2.1) = l } := by
  constructor
  conv => lhs; whnf
theorem tt_8_3 {w : Cond} (h : w ∈ td_8_3.1) : w ∈ tables_1 := tt_8_2 (tmd 16 _ (by rw [td_8_3.2]; exact h))
set_option maxRecDepth 100000 in
noncomputable def td_8_4 : { l : List Cond // List.drop 16 (td_8_3.1) = l } := by
  constructor
  conv => lhs; whnf
theorem tt_8_4 {w : Cond} (h : w ∈ td_8_4.1) : w ∈ tables_1 := tt_8_3 (tmd 16 _ (by rw [td_8_4.2]; exact h))
set_option maxRecDepth 100000 in
noncomputable def td_8_5 : { l : List Cond // List.drop 16 (td_8_4.1) = l } := by
  constructor
  conv => lhs; whnf
theorem tt_8_5 {w : Cond} (h : w ∈ td_8_5.1) : w ∈ tables_1 := tt_8_4 (tmd 16 _ (by rw [td_8_5.2]; exact h))
set_option maxRecDepth 100000 in
noncomputable def td_8_6 : { l : List Cond // List.drop 16 (td_8_5.1) = l } := by
  constructor
  conv => lhs; whnf
theorem tt_8_6 {w : Cond} (h : w ∈ td_8_6.1) : w ∈ tables_1 := tt_8_5 (tmd 16 _ (by rw [td_8_6.2]; exact h))
set_option maxRecDepth 100000 in
noncomputable def td_8_7 : { l : List Cond // List.drop 16 (td_8_6.1) = l } := by
  constructor
  conv => lhs; whnf
theorem tt_8_7 {w : Cond} (h : w ∈ td_8_7.1) : w ∈ tables_1 := tt_8_6 (tmd 16 _ (by rw [td_8_7.2]; exact h))
set_option maxRecDepth 100000 in
noncomputable def td_8_8 : { l : List Cond // List.drop 16 (td_8_7.1) = l } := by
  constructor
  conv => lhs; whnf
theorem tt_8_8 {w : Cond} (h : w ∈ td_8_8.1) : w ∈ tables_1 := tt_8_7 (tmd 16 _ (by rw [td_8_8.2]; exact h))
set_option maxRecDepth 100000 in
noncomputable def td_8_9 : { l : List Cond // List.drop 16 (td_8_8.1) = l } := by
  constructor
  conv => lhs; whnf
theorem tt_8_9 {w : Cond} (h : w ∈ td_8_9.1) : w ∈ tables_1 := tt_8_8 (tmd 16 _ (by rw [td_8_9.2]; exact h))
set_option maxRecDepth 100000 in
noncomputable def td_8_10 : { l : List Cond // List.drop 16 (td_8_9.1) = l } := by
  constructor
  conv => lhs; whnf
theorem tt_8_10 {w : Cond} (h : w ∈ td_8_10.1) : w ∈ tables_1 := tt_8_9 (tmd 16 _ (by rw [td_8_10.2]; exact h))
set_option maxRecDepth 100000 in
noncomputable def td_8_11 : { l : List Cond // List.drop 16 (td_8_10.1) = l } := by
  constructor
  conv => lhs; whnf
theorem tt_8_11 {w : Cond} (h : w ∈ td_8_11.1) : w ∈ tables_1 := tt_8_10 (tmd 16 _ (by rw [td_8_11.2]; exact h))
set_option maxRecDepth 100000 in
noncomputable def td_8_12 : { l : List Cond // List.drop 16 (td_8_11.1) = l } := by
  constructor
  conv => lhs; whnf
theorem tt_8_12 {w : Cond} (h : w ∈ td_8_12.1) : w ∈ tables_1 := tt_8_11 (tmd 16 _ (by rw [td_8_12.2]; exact h))
set_option maxRecDepth 100000 in
noncomputable def td_8_13 : { l : List Cond // List.drop 16 (td_8_12.1) = l } := by
  constructor
  conv => lhs; whnf
theorem tt_8_13 {w : Cond} (h : w ∈ td_8_13.1) : w ∈ tables_1 := tt_8_12 (tmd 16 _ (by rw [td_8_13.2]; exact h))
set_option maxRecDepth 100000 in
noncomputable def td_8_14 : { l : List Cond // List.drop 16 (td_8_13.1) = l } := by
  constructor
  conv => lhs; whnf
theorem tt_8_14 {w : Cond} (h : w ∈ td_8_14.1) : w ∈ tables_1 := tt_8_13 (tmd 16 _ (by rw [td_8_14.2]; exact h))
set_option maxRecDepth 100000 in
noncomputable def td_9_1 : { l : List Cond // List.drop 16 (tables_1_9) = l } := by
  constructor
  conv => lhs; whnf
theorem tt_9_1 {w : Cond} (h : w ∈ td_9_1.1) : w ∈ tables_1 := ta_9 (tmd 16 _ (by rw [td_9_1.2]; exact h))
set_option maxRecDepth 100000 in
noncomputable def td_9_2 : { l : List Cond // List.drop 16 (td_9_1.1) = l } := by
  constructor
  conv => lhs; whnf
theorem tt_9_2 {w : Cond} (h : w ∈ td_9_2.1) : w ∈ tables_1 := tt_9_1 (tmd 16 _ (by rw [td_9_2.2]; exact h))
set_option maxRecDepth 100000 in
noncomputable def td_9_3 : { l : List Cond // List.drop 16 (td_9_2.1) = l } := by
  constructor
  conv => lhs; whnf
theorem tt_9_3 {w : Cond} (h : w ∈ td_9_3.1) : w ∈ tables_1 := tt_9_2 (tmd 16 _ (by rw [td_9_3.2]; exact h))
set_option maxRecDepth 100000 in
noncomputable def td_9_4 : { l : List Cond // List.drop 16 (td_9_3.1) = l } := by
  constructor
  conv => lhs; whnf
theorem tt_9_4 {w : Cond} (h : w ∈ td_9_4.1) : w ∈ tables_1 := tt_9_3 (tmd 16 _ (by rw [td_9_4.2]; exact h))
set_option maxRecDepth 100000 in
noncomputable def td_9_5 : { l : List Cond // List.drop 16 (td_9_4.1) = l } := by
  constructor
  conv => lhs; whnf
theorem tt_9_5 {w : Cond} (h : w ∈ td_9_5.1) : w ∈ tables_1 := tt_9_4 (tmd 16 _ (by rw [td_9_5.2]; exact h))
set_option maxRecDepth 100000 in
noncomputable def td_9_6 : { l : List Cond // List.drop 16 (td_9_5.1) = l } := by
  constructor
  conv => lhs; whnf
theorem tt_9_6 {w : Cond} (h : w ∈ td_9_6.1) : w ∈ tables_1 := tt_9_5 (tmd 16 _ (by rw [td_9_6.2]; exact h))
set_option maxRecDepth 100000 in
noncomputable def td_9_7 : { l : List Cond // List.drop 16 (td_9_6.1) = l } := by
  constructor
  conv => lhs; whnf
theorem tt_9_7 {w : Cond} (h : w ∈ td_9_7.1) : w ∈ tables_1 := tt_9_6 (tmd 16 _ (by rw [td_9_7.2]; exact h))
-- ===== PART A: goes FIRST, ahead of the names: the tables' words, and 'selects' of the private methods out of them =====
/-- a private method of a class that the tables say can be made, by its rows of tables_1 -/
def lw_okq (q : MethodName × Nat) : Prop := (q.1.cls ≠ "java/lang/invoke/MethodHandle" ∧ q.1.cls ≠ "java/lang/invoke/VarHandle") ∧ Cond.instantiable q.1.cls q.2 ∈ tables_1 ∧ Cond.privateMethod q.1 ∈ tables_1 ∧ Cond.instanceMethod q.1 ∈ tables_1
theorem lw_p0 : lw_okq (⟨"ProvenRecord", "putOnTape", "(I)V"⟩, 19) := ⟨⟨by decide +kernel, by decide +kernel⟩, tt_1_1 (List.mem_of_getElem? (i := 5) rfl), tt_2_9 (List.mem_of_getElem? (i := 11) rfl), tt_2_9 (List.mem_of_getElem? (i := 12) rfl)⟩
theorem lw_p1 : lw_okq (⟨"ProvenRecord", "refuse", "(I)I"⟩, 19) := ⟨⟨by decide +kernel, by decide +kernel⟩, tt_1_1 (List.mem_of_getElem? (i := 5) rfl), tt_2_10 (List.mem_of_getElem? (i := 3) rfl), tt_2_10 (List.mem_of_getElem? (i := 4) rfl)⟩
theorem lw_p2 : lw_okq (⟨"ProvenRecord", "loadLines", "(I)Z"⟩, 19) := ⟨⟨by decide +kernel, by decide +kernel⟩, tt_1_1 (List.mem_of_getElem? (i := 5) rfl), tt_2_11 (List.mem_of_getElem? (i := 11) rfl), tt_2_11 (List.mem_of_getElem? (i := 12) rfl)⟩
theorem lw_p3 : lw_okq (⟨"ProvenRecord$Scanner", "byteAt", "(I)I"⟩, 7) := ⟨⟨by decide +kernel, by decide +kernel⟩, ta_2 (List.mem_of_getElem? (i := 13) rfl), tt_2_13 (List.mem_of_getElem? (i := 1) rfl), tt_2_13 (List.mem_of_getElem? (i := 2) rfl)⟩
theorem lw_p4 : lw_okq (⟨"ProvenRecord$Reader", "readNumber", "(II)Z"⟩, 10) := ⟨⟨by decide +kernel, by decide +kernel⟩, ta_2 (List.mem_of_getElem? (i := 7) rfl), tt_3_2 (List.mem_of_getElem? (i := 4) rfl), tt_3_2 (List.mem_of_getElem? (i := 5) rfl)⟩
theorem lw_p5 : lw_okq (⟨"ProvenRecord$Reader", "stray", "()Z"⟩, 10) := ⟨⟨by decide +kernel, by decide +kernel⟩, ta_2 (List.mem_of_getElem? (i := 7) rfl), tt_3_2 (List.mem_of_getElem? (i := 8) rfl), tt_3_2 (List.mem_of_getElem? (i := 9) rfl)⟩
theorem lw_p6 : lw_okq (⟨"ProvenRecord$Reader", "fail", "(I)Z"⟩, 10) := ⟨⟨by decide +kernel, by decide +kernel⟩, ta_2 (List.mem_of_getElem? (i := 7) rfl), tt_3_2 (List.mem_of_getElem? (i := 12) rfl), tt_3_2 (List.mem_of_getElem? (i := 13) rfl)⟩
theorem lw_p7 : lw_okq (⟨"ProvenRecord$Reader", "readSign", "()Z"⟩, 10) := ⟨⟨by decide +kernel, by decide +kernel⟩, ta_2 (List.mem_of_getElem? (i := 7) rfl), tt_3_3 (List.mem_of_getElem? (i := 0) rfl), tt_3_3 (List.mem_of_getElem? (i := 1) rfl)⟩
theorem lw_p8 : lw_okq (⟨"ProvenRecord$Reader", "readAdd", "(LProvenRecord$Log;)Z"⟩, 10) := ⟨⟨by decide +kernel, by decide +kernel⟩, ta_2 (List.mem_of_getElem? (i := 7) rfl), tt_3_3 (List.mem_of_getElem? (i := 14) rfl), tt_3_3 (List.mem_of_getElem? (i := 15) rfl)⟩
theorem lw_p9 : lw_okq (⟨"ProvenRecord$Reader", "hasRoom", "(II)Z"⟩, 10) := ⟨⟨by decide +kernel, by decide +kernel⟩, ta_2 (List.mem_of_getElem? (i := 7) rfl), tt_3_4 (List.mem_of_getElem? (i := 2) rfl), tt_3_4 (List.mem_of_getElem? (i := 3) rfl)⟩
theorem lw_p10 : lw_okq (⟨"ProvenRecord$Reader", "readShow", "(LProvenRecord$Log;)Z"⟩, 10) := ⟨⟨by decide +kernel, by decide +kernel⟩, ta_2 (List.mem_of_getElem? (i := 7) rfl), tt_3_5 (List.mem_of_getElem? (i := 7) rfl), tt_3_5 (List.mem_of_getElem? (i := 8) rfl)⟩
theorem lw_p11 : lw_okq (⟨"ProvenRecord$Way", "clear", "()V"⟩, 5) := ⟨⟨by decide +kernel, by decide +kernel⟩, tt_1_3 (List.mem_of_getElem? (i := 13) rfl), tt_3_10 (List.mem_of_getElem? (i := 12) rfl), tt_3_10 (List.mem_of_getElem? (i := 13) rfl)⟩
theorem lw_p12 : lw_okq (⟨"ProvenRecord$Way", "put", "(IIZ)V"⟩, 5) := ⟨⟨by decide +kernel, by decide +kernel⟩, tt_1_3 (List.mem_of_getElem? (i := 13) rfl), tt_3_11 (List.mem_of_getElem? (i := 11) rfl), tt_3_11 (List.mem_of_getElem? (i := 12) rfl)⟩
theorem lw_p13 : lw_okq (⟨"ProvenRecord$Way", "turnRound", "()V"⟩, 5) := ⟨⟨by decide +kernel, by decide +kernel⟩, tt_1_3 (List.mem_of_getElem? (i := 13) rfl), tt_3_11 (List.mem_of_getElem? (i := 15) rfl), tt_3_12 (List.mem_of_getElem? (i := 0) rfl)⟩
theorem lw_p14 : lw_okq (⟨"ProvenRecord", "answer", "(I)I"⟩, 19) := ⟨⟨by decide +kernel, by decide +kernel⟩, tt_1_1 (List.mem_of_getElem? (i := 5) rfl), tt_3_14 (List.mem_of_getElem? (i := 7) rfl), tt_3_14 (List.mem_of_getElem? (i := 8) rfl)⟩
theorem lw_p15 : lw_okq (⟨"ProvenRecord$Reader", "readInclusion", "(LProvenRecord$Row;)Z"⟩, 10) := ⟨⟨by decide +kernel, by decide +kernel⟩, ta_2 (List.mem_of_getElem? (i := 7) rfl), ta_4 (List.mem_of_getElem? (i := 7) rfl), ta_4 (List.mem_of_getElem? (i := 8) rfl)⟩
def lw_privs_1 : List (MethodName × Nat) := [(⟨"ProvenRecord", "putOnTape", "(I)V"⟩, 19), (⟨"ProvenRecord", "refuse", "(I)I"⟩, 19), (⟨"ProvenRecord", "loadLines", "(I)Z"⟩, 19), (⟨"ProvenRecord$Scanner", "byteAt", "(I)I"⟩, 7), (⟨"ProvenRecord$Reader", "readNumber", "(II)Z"⟩, 10), (⟨"ProvenRecord$Reader", "stray", "()Z"⟩, 10), (⟨"ProvenRecord$Reader", "fail", "(I)Z"⟩, 10), (⟨"ProvenRecord$Reader", "readSign", "()Z"⟩, 10), (⟨"ProvenRecord$Reader", "readAdd", "(LProvenRecord$Log;)Z"⟩, 10), (⟨"ProvenRecord$Reader", "hasRoom", "(II)Z"⟩, 10), (⟨"ProvenRecord$Reader", "readShow", "(LProvenRecord$Log;)Z"⟩, 10), (⟨"ProvenRecord$Way", "clear", "()V"⟩, 5), (⟨"ProvenRecord$Way", "put", "(IIZ)V"⟩, 5), (⟨"ProvenRecord$Way", "turnRound", "()V"⟩, 5), (⟨"ProvenRecord", "answer", "(I)I"⟩, 19), (⟨"ProvenRecord$Reader", "readInclusion", "(LProvenRecord$Row;)Z"⟩, 10)]
theorem lw_r1 : ∀ q ∈ lw_privs_1, lw_okq q := List.forall_mem_cons.mpr ⟨lw_p0, List.forall_mem_cons.mpr ⟨lw_p1, List.forall_mem_cons.mpr ⟨lw_p2, List.forall_mem_cons.mpr ⟨lw_p3, List.forall_mem_cons.mpr ⟨lw_p4, List.forall_mem_cons.mpr ⟨lw_p5, List.forall_mem_cons.mpr ⟨lw_p6, List.forall_mem_cons.mpr ⟨lw_p7, List.forall_mem_cons.mpr ⟨lw_p8, List.forall_mem_cons.mpr ⟨lw_p9, List.forall_mem_cons.mpr ⟨lw_p10, List.forall_mem_cons.mpr ⟨lw_p11, List.forall_mem_cons.mpr ⟨lw_p12, List.forall_mem_cons.mpr ⟨lw_p13, List.forall_mem_cons.mpr ⟨lw_p14, List.forall_mem_cons.mpr ⟨lw_p15, fun _ h => absurd h List.not_mem_nil⟩⟩⟩⟩⟩⟩⟩⟩⟩⟩⟩⟩⟩⟩⟩⟩
theorem lw_p16 : lw_okq (⟨"ProvenRecord$Reader", "readWord", "(Ljava/lang/String;)Z"⟩, 10) := ⟨⟨by decide +kernel, by decide +kernel⟩, ta_2 (List.mem_of_getElem? (i := 7) rfl), ta_4 (List.mem_of_getElem? (i := 13) rfl), ta_4 (List.mem_of_getElem? (i := 14) rfl)⟩
theorem lw_p17 : lw_okq (⟨"ProvenRecord$Reader", "readMark", "(Ljava/lang/String;)Z"⟩, 10) := ⟨⟨by decide +kernel, by decide +kernel⟩, ta_2 (List.mem_of_getElem? (i := 7) rfl), tt_4_1 (List.mem_of_getElem? (i := 2) rfl), tt_4_1 (List.mem_of_getElem? (i := 3) rfl)⟩
theorem lw_p18 : lw_okq (⟨"ProvenRecord$Reader", "readRow", "()Z"⟩, 10) := ⟨⟨by decide +kernel, by decide +kernel⟩, ta_2 (List.mem_of_getElem? (i := 7) rfl), tt_4_1 (List.mem_of_getElem? (i := 7) rfl), tt_4_1 (List.mem_of_getElem? (i := 8) rfl)⟩
theorem lw_p19 : lw_okq (⟨"ProvenRecord$Reader", "readGrowth", "(LProvenRecord$Row;)Z"⟩, 10) := ⟨⟨by decide +kernel, by decide +kernel⟩, ta_2 (List.mem_of_getElem? (i := 7) rfl), tt_4_2 (List.mem_of_getElem? (i := 9) rfl), tt_4_2 (List.mem_of_getElem? (i := 10) rfl)⟩
theorem lw_p20 : lw_okq (⟨"ProvenRecord", "isMark", "(I)Z"⟩, 19) := ⟨⟨by decide +kernel, by decide +kernel⟩, tt_1_1 (List.mem_of_getElem? (i := 5) rfl), tt_4_6 (List.mem_of_getElem? (i := 1) rfl), tt_4_6 (List.mem_of_getElem? (i := 2) rfl)⟩
theorem lw_p21 : lw_okq (⟨"ProvenRecord$Way", "putGreatestWithout", "(III)I"⟩, 5) := ⟨⟨by decide +kernel, by decide +kernel⟩, tt_1_3 (List.mem_of_getElem? (i := 13) rfl), tt_4_13 (List.mem_of_getElem? (i := 14) rfl), tt_4_13 (List.mem_of_getElem? (i := 15) rfl)⟩
theorem lw_p22 : lw_okq (⟨"ProvenRecord$World", "partingTrees", "(LProvenRecord$Log;LProvenRecord$Log;IZ)I"⟩, 10) := ⟨⟨by decide +kernel, by decide +kernel⟩, tt_1_1 (List.mem_of_getElem? (i := 13) rfl), tt_5_6 (List.mem_of_getElem? (i := 10) rfl), tt_5_6 (List.mem_of_getElem? (i := 11) rfl)⟩
theorem lw_p23 : lw_okq (⟨"ProvenRecord", "preparedRoots", "()LProvenRecord$Roots;"⟩, 19) := ⟨⟨by decide +kernel, by decide +kernel⟩, tt_1_1 (List.mem_of_getElem? (i := 5) rfl), tt_5_8 (List.mem_of_getElem? (i := 10) rfl), tt_5_8 (List.mem_of_getElem? (i := 11) rfl)⟩
theorem lw_p24 : lw_okq (⟨"ProvenRecord$Roots", "seek", "(I)V"⟩, 11) := ⟨⟨by decide +kernel, by decide +kernel⟩, tt_5_8 (List.mem_of_getElem? (i := 14) rfl), tt_5_12 (List.mem_of_getElem? (i := 6) rfl), tt_5_12 (List.mem_of_getElem? (i := 7) rfl)⟩
theorem lw_p25 : lw_okq (⟨"ProvenRecord$Roots", "take", "(I)V"⟩, 11) := ⟨⟨by decide +kernel, by decide +kernel⟩, tt_5_8 (List.mem_of_getElem? (i := 14) rfl), tt_5_12 (List.mem_of_getElem? (i := 13) rfl), tt_5_12 (List.mem_of_getElem? (i := 14) rfl)⟩
theorem lw_p26 : lw_okq (⟨"ProvenRecord$Roots", "secondOf", "(II)I"⟩, 11) := ⟨⟨by decide +kernel, by decide +kernel⟩, tt_5_8 (List.mem_of_getElem? (i := 14) rfl), tt_5_13 (List.mem_of_getElem? (i := 4) rfl), tt_5_13 (List.mem_of_getElem? (i := 5) rfl)⟩
theorem lw_p27 : lw_okq (⟨"ProvenRecord$Roots", "restOf", "(J)I"⟩, 11) := ⟨⟨by decide +kernel, by decide +kernel⟩, tt_5_8 (List.mem_of_getElem? (i := 14) rfl), tt_5_13 (List.mem_of_getElem? (i := 9) rfl), tt_5_13 (List.mem_of_getElem? (i := 10) rfl)⟩
theorem lw_p28 : lw_okq (⟨"ProvenRecord$Roots", "leastRoot", "(II)I"⟩, 11) := ⟨⟨by decide +kernel, by decide +kernel⟩, tt_5_8 (List.mem_of_getElem? (i := 14) rfl), tt_5_14 (List.mem_of_getElem? (i := 0) rfl), tt_5_14 (List.mem_of_getElem? (i := 1) rfl)⟩
theorem lw_p29 : lw_okq (⟨"ProvenRecord$Roots", "firstOf", "(I)I"⟩, 11) := ⟨⟨by decide +kernel, by decide +kernel⟩, tt_5_8 (List.mem_of_getElem? (i := 14) rfl), tt_5_14 (List.mem_of_getElem? (i := 4) rfl), tt_5_14 (List.mem_of_getElem? (i := 5) rfl)⟩
theorem lw_p30 : lw_okq (⟨"ProvenRecord", "clashingStep", "(II)I"⟩, 19) := ⟨⟨by decide +kernel, by decide +kernel⟩, tt_1_1 (List.mem_of_getElem? (i := 5) rfl), tt_5_14 (List.mem_of_getElem? (i := 13) rfl), tt_5_14 (List.mem_of_getElem? (i := 14) rfl)⟩
theorem lw_p31 : lw_okq (⟨"ProvenRecord", "treeOfWay", "(II)I"⟩, 19) := ⟨⟨by decide +kernel, by decide +kernel⟩, tt_1_1 (List.mem_of_getElem? (i := 5) rfl), tt_6_1 (List.mem_of_getElem? (i := 4) rfl), tt_6_1 (List.mem_of_getElem? (i := 5) rfl)⟩
def lw_privs_2 : List (MethodName × Nat) := [(⟨"ProvenRecord$Reader", "readWord", "(Ljava/lang/String;)Z"⟩, 10), (⟨"ProvenRecord$Reader", "readMark", "(Ljava/lang/String;)Z"⟩, 10), (⟨"ProvenRecord$Reader", "readRow", "()Z"⟩, 10), (⟨"ProvenRecord$Reader", "readGrowth", "(LProvenRecord$Row;)Z"⟩, 10), (⟨"ProvenRecord", "isMark", "(I)Z"⟩, 19), (⟨"ProvenRecord$Way", "putGreatestWithout", "(III)I"⟩, 5), (⟨"ProvenRecord$World", "partingTrees", "(LProvenRecord$Log;LProvenRecord$Log;IZ)I"⟩, 10), (⟨"ProvenRecord", "preparedRoots", "()LProvenRecord$Roots;"⟩, 19), (⟨"ProvenRecord$Roots", "seek", "(I)V"⟩, 11), (⟨"ProvenRecord$Roots", "take", "(I)V"⟩, 11), (⟨"ProvenRecord$Roots", "secondOf", "(II)I"⟩, 11), (⟨"ProvenRecord$Roots", "restOf", "(J)I"⟩, 11), (⟨"ProvenRecord$Roots", "leastRoot", "(II)I"⟩, 11), (⟨"ProvenRecord$Roots", "firstOf", "(I)I"⟩, 11), (⟨"ProvenRecord", "clashingStep", "(II)I"⟩, 19), (⟨"ProvenRecord", "treeOfWay", "(II)I"⟩, 19)]
theorem lw_r2 : ∀ q ∈ lw_privs_2, lw_okq q := List.forall_mem_cons.mpr ⟨lw_p16, List.forall_mem_cons.mpr ⟨lw_p17, List.forall_mem_cons.mpr ⟨lw_p18, List.forall_mem_cons.mpr ⟨lw_p19, List.forall_mem_cons.mpr ⟨lw_p20, List.forall_mem_cons.mpr ⟨lw_p21, List.forall_mem_cons.mpr ⟨lw_p22, List.forall_mem_cons.mpr ⟨lw_p23, List.forall_mem_cons.mpr ⟨lw_p24, List.forall_mem_cons.mpr ⟨lw_p25, List.forall_mem_cons.mpr ⟨lw_p26, List.forall_mem_cons.mpr ⟨lw_p27, List.forall_mem_cons.mpr ⟨lw_p28, List.forall_mem_cons.mpr ⟨lw_p29, List.forall_mem_cons.mpr ⟨lw_p30, List.forall_mem_cons.mpr ⟨lw_p31, fun _ h => absurd h List.not_mem_nil⟩⟩⟩⟩⟩⟩⟩⟩⟩⟩⟩⟩⟩⟩⟩⟩
theorem lw_p32 : lw_okq (⟨"ProvenRecord", "addLinks", "(I)I"⟩, 19) := ⟨⟨by decide +kernel, by decide +kernel⟩, tt_1_1 (List.mem_of_getElem? (i := 5) rfl), tt_6_3 (List.mem_of_getElem? (i := 7) rfl), tt_6_3 (List.mem_of_getElem? (i := 8) rfl)⟩
theorem lw_p33 : lw_okq (⟨"ProvenRecord", "isLink", "(II)Z"⟩, 19) := ⟨⟨by decide +kernel, by decide +kernel⟩, tt_1_1 (List.mem_of_getElem? (i := 5) rfl), tt_6_3 (List.mem_of_getElem? (i := 11) rfl), tt_6_3 (List.mem_of_getElem? (i := 12) rfl)⟩
theorem lw_p34 : lw_okq (⟨"ProvenRecord", "tellText", "(Ljava/lang/String;)V"⟩, 19) := ⟨⟨by decide +kernel, by decide +kernel⟩, tt_1_1 (List.mem_of_getElem? (i := 5) rfl), tt_6_4 (List.mem_of_getElem? (i := 8) rfl), tt_6_4 (List.mem_of_getElem? (i := 9) rfl)⟩
theorem lw_p35 : lw_okq (⟨"ProvenRecord", "tellByte", "(I)V"⟩, 19) := ⟨⟨by decide +kernel, by decide +kernel⟩, tt_1_1 (List.mem_of_getElem? (i := 5) rfl), tt_6_4 (List.mem_of_getElem? (i := 14) rfl), tt_6_4 (List.mem_of_getElem? (i := 15) rfl)⟩
theorem lw_p36 : lw_okq (⟨"ProvenRecord", "tellNumber", "(I)V"⟩, 19) := ⟨⟨by decide +kernel, by decide +kernel⟩, tt_1_1 (List.mem_of_getElem? (i := 5) rfl), tt_6_5 (List.mem_of_getElem? (i := 2) rfl), tt_6_5 (List.mem_of_getElem? (i := 3) rfl)⟩
theorem lw_p37 : lw_okq (⟨"ProvenRecord", "tellProof", "()V"⟩, 19) := ⟨⟨by decide +kernel, by decide +kernel⟩, tt_1_1 (List.mem_of_getElem? (i := 5) rfl), tt_6_5 (List.mem_of_getElem? (i := 9) rfl), tt_6_5 (List.mem_of_getElem? (i := 10) rfl)⟩
theorem lw_p38 : lw_okq (⟨"ProvenRecordModel", "clears", "()V"⟩, 48) := ⟨⟨by decide +kernel, by decide +kernel⟩, tt_6_7 (List.mem_of_getElem? (i := 8) rfl), tt_6_8 (List.mem_of_getElem? (i := 10) rfl), tt_6_8 (List.mem_of_getElem? (i := 11) rfl)⟩
theorem lw_p39 : lw_okq (⟨"ProvenRecordModel", "puts", "(I)V"⟩, 48) := ⟨⟨by decide +kernel, by decide +kernel⟩, tt_6_7 (List.mem_of_getElem? (i := 8) rfl), tt_7_3 (List.mem_of_getElem? (i := 13) rfl), tt_7_3 (List.mem_of_getElem? (i := 14) rfl)⟩
theorem lw_p40 : lw_okq (⟨"ProvenRecordModel", "is", "(I)Z"⟩, 48) := ⟨⟨by decide +kernel, by decide +kernel⟩, tt_6_7 (List.mem_of_getElem? (i := 8) rfl), tt_7_4 (List.mem_of_getElem? (i := 8) rfl), tt_7_4 (List.mem_of_getElem? (i := 9) rfl)⟩
theorem lw_p41 : lw_okq (⟨"ProvenRecordModel", "begins", "(I)V"⟩, 48) := ⟨⟨by decide +kernel, by decide +kernel⟩, tt_6_7 (List.mem_of_getElem? (i := 8) rfl), tt_7_4 (List.mem_of_getElem? (i := 12) rfl), tt_7_4 (List.mem_of_getElem? (i := 13) rfl)⟩
theorem lw_p42 : lw_okq (⟨"ProvenRecordModel", "reads", "()V"⟩, 48) := ⟨⟨by decide +kernel, by decide +kernel⟩, tt_6_7 (List.mem_of_getElem? (i := 8) rfl), tt_7_5 (List.mem_of_getElem? (i := 0) rfl), tt_7_5 (List.mem_of_getElem? (i := 1) rfl)⟩
theorem lw_p43 : lw_okq (⟨"ProvenRecordModel", "isOf", "(III)Z"⟩, 48) := ⟨⟨by decide +kernel, by decide +kernel⟩, tt_6_7 (List.mem_of_getElem? (i := 8) rfl), tt_7_5 (List.mem_of_getElem? (i := 4) rfl), tt_7_5 (List.mem_of_getElem? (i := 5) rfl)⟩
theorem lw_p44 : lw_okq (⟨"ProvenRecordModel", "isWord", "(I)Z"⟩, 48) := ⟨⟨by decide +kernel, by decide +kernel⟩, tt_6_7 (List.mem_of_getElem? (i := 8) rfl), tt_7_5 (List.mem_of_getElem? (i := 10) rfl), tt_7_5 (List.mem_of_getElem? (i := 11) rfl)⟩
theorem lw_p45 : lw_okq (⟨"ProvenRecordModel", "takesNumber", "(II)I"⟩, 48) := ⟨⟨by decide +kernel, by decide +kernel⟩, tt_6_7 (List.mem_of_getElem? (i := 8) rfl), tt_7_5 (List.mem_of_getElem? (i := 14) rfl), tt_7_5 (List.mem_of_getElem? (i := 15) rfl)⟩
theorem lw_p46 : lw_okq (⟨"ProvenRecordModel", "must", "(ZI)V"⟩, 48) := ⟨⟨by decide +kernel, by decide +kernel⟩, tt_6_7 (List.mem_of_getElem? (i := 8) rfl), tt_7_6 (List.mem_of_getElem? (i := 2) rfl), tt_7_6 (List.mem_of_getElem? (i := 3) rfl)⟩
theorem lw_p47 : lw_okq (⟨"ProvenRecordModel", "takesEnd", "()V"⟩, 48) := ⟨⟨by decide +kernel, by decide +kernel⟩, tt_6_7 (List.mem_of_getElem? (i := 8) rfl), tt_7_6 (List.mem_of_getElem? (i := 6) rfl), tt_7_6 (List.mem_of_getElem? (i := 7) rfl)⟩
def lw_privs_3 : List (MethodName × Nat) := [(⟨"ProvenRecord", "addLinks", "(I)I"⟩, 19), (⟨"ProvenRecord", "isLink", "(II)Z"⟩, 19), (⟨"ProvenRecord", "tellText", "(Ljava/lang/String;)V"⟩, 19), (⟨"ProvenRecord", "tellByte", "(I)V"⟩, 19), (⟨"ProvenRecord", "tellNumber", "(I)V"⟩, 19), (⟨"ProvenRecord", "tellProof", "()V"⟩, 19), (⟨"ProvenRecordModel", "clears", "()V"⟩, 48), (⟨"ProvenRecordModel", "puts", "(I)V"⟩, 48), (⟨"ProvenRecordModel", "is", "(I)Z"⟩, 48), (⟨"ProvenRecordModel", "begins", "(I)V"⟩, 48), (⟨"ProvenRecordModel", "reads", "()V"⟩, 48), (⟨"ProvenRecordModel", "isOf", "(III)Z"⟩, 48), (⟨"ProvenRecordModel", "isWord", "(I)Z"⟩, 48), (⟨"ProvenRecordModel", "takesNumber", "(II)I"⟩, 48), (⟨"ProvenRecordModel", "must", "(ZI)V"⟩, 48), (⟨"ProvenRecordModel", "takesEnd", "()V"⟩, 48)]
theorem lw_r3 : ∀ q ∈ lw_privs_3, lw_okq q := List.forall_mem_cons.mpr ⟨lw_p32, List.forall_mem_cons.mpr ⟨lw_p33, List.forall_mem_cons.mpr ⟨lw_p34, List.forall_mem_cons.mpr ⟨lw_p35, List.forall_mem_cons.mpr ⟨lw_p36, List.forall_mem_cons.mpr ⟨lw_p37, List.forall_mem_cons.mpr ⟨lw_p38, List.forall_mem_cons.mpr ⟨lw_p39, List.forall_mem_cons.mpr ⟨lw_p40, List.forall_mem_cons.mpr ⟨lw_p41, List.forall_mem_cons.mpr ⟨lw_p42, List.forall_mem_cons.mpr ⟨lw_p43, List.forall_mem_cons.mpr ⟨lw_p44, List.forall_mem_cons.mpr ⟨lw_p45, List.forall_mem_cons.mpr ⟨lw_p46, List.forall_mem_cons.mpr ⟨lw_p47, fun _ h => absurd h List.not_mem_nil⟩⟩⟩⟩⟩⟩⟩⟩⟩⟩⟩⟩⟩⟩⟩⟩
theorem lw_p48 : lw_okq (⟨"ProvenRecordModel", "line", "()V"⟩, 48) := ⟨⟨by decide +kernel, by decide +kernel⟩, tt_6_7 (List.mem_of_getElem? (i := 8) rfl), tt_7_6 (List.mem_of_getElem? (i := 10) rfl), tt_7_6 (List.mem_of_getElem? (i := 11) rfl)⟩
theorem lw_p49 : lw_okq (⟨"ProvenRecordModel", "addLine", "()V"⟩, 48) := ⟨⟨by decide +kernel, by decide +kernel⟩, tt_6_7 (List.mem_of_getElem? (i := 8) rfl), tt_7_6 (List.mem_of_getElem? (i := 14) rfl), tt_7_6 (List.mem_of_getElem? (i := 15) rfl)⟩
theorem lw_p50 : lw_okq (⟨"ProvenRecordModel", "sizeOf", "(I)I"⟩, 48) := ⟨⟨by decide +kernel, by decide +kernel⟩, tt_6_7 (List.mem_of_getElem? (i := 8) rfl), tt_7_7 (List.mem_of_getElem? (i := 2) rfl), tt_7_7 (List.mem_of_getElem? (i := 3) rfl)⟩
theorem lw_p51 : lw_okq (⟨"ProvenRecordModel", "adds", "(I)I"⟩, 48) := ⟨⟨by decide +kernel, by decide +kernel⟩, tt_6_7 (List.mem_of_getElem? (i := 8) rfl), tt_7_7 (List.mem_of_getElem? (i := 6) rfl), tt_7_7 (List.mem_of_getElem? (i := 7) rfl)⟩
theorem lw_p52 : lw_okq (⟨"ProvenRecordModel", "refuse", "(I)I"⟩, 48) := ⟨⟨by decide +kernel, by decide +kernel⟩, tt_6_7 (List.mem_of_getElem? (i := 8) rfl), tt_7_7 (List.mem_of_getElem? (i := 10) rfl), tt_7_7 (List.mem_of_getElem? (i := 11) rfl)⟩
theorem lw_p53 : lw_okq (⟨"ProvenRecordModel", "forkLine", "()V"⟩, 48) := ⟨⟨by decide +kernel, by decide +kernel⟩, tt_6_7 (List.mem_of_getElem? (i := 8) rfl), tt_7_7 (List.mem_of_getElem? (i := 14) rfl), tt_7_7 (List.mem_of_getElem? (i := 15) rfl)⟩
theorem lw_p54 : lw_okq (⟨"ProvenRecordModel", "forks", "(II)I"⟩, 48) := ⟨⟨by decide +kernel, by decide +kernel⟩, tt_6_7 (List.mem_of_getElem? (i := 8) rfl), tt_7_8 (List.mem_of_getElem? (i := 2) rfl), tt_7_8 (List.mem_of_getElem? (i := 3) rfl)⟩
theorem lw_p55 : lw_okq (⟨"ProvenRecordModel", "freezes", "(I)I"⟩, 48) := ⟨⟨by decide +kernel, by decide +kernel⟩, tt_6_7 (List.mem_of_getElem? (i := 8) rfl), tt_7_8 (List.mem_of_getElem? (i := 6) rfl), tt_7_8 (List.mem_of_getElem? (i := 7) rfl)⟩
theorem lw_p56 : lw_okq (⟨"ProvenRecordModel", "headOf", "(II)I"⟩, 48) := ⟨⟨by decide +kernel, by decide +kernel⟩, tt_6_7 (List.mem_of_getElem? (i := 8) rfl), tt_7_8 (List.mem_of_getElem? (i := 10) rfl), tt_7_8 (List.mem_of_getElem? (i := 11) rfl)⟩
theorem lw_p57 : lw_okq (⟨"ProvenRecordModel", "treeMark", "(III)I"⟩, 48) := ⟨⟨by decide +kernel, by decide +kernel⟩, tt_6_7 (List.mem_of_getElem? (i := 8) rfl), tt_7_8 (List.mem_of_getElem? (i := 14) rfl), tt_7_8 (List.mem_of_getElem? (i := 15) rfl)⟩
theorem lw_p58 : lw_okq (⟨"ProvenRecordModel", "entryMark", "(II)I"⟩, 48) := ⟨⟨by decide +kernel, by decide +kernel⟩, tt_6_7 (List.mem_of_getElem? (i := 8) rfl), tt_7_9 (List.mem_of_getElem? (i := 2) rfl), tt_7_9 (List.mem_of_getElem? (i := 3) rfl)⟩
theorem lw_p59 : lw_okq (⟨"ProvenRecordModel", "mixed", "(II)I"⟩, 48) := ⟨⟨by decide +kernel, by decide +kernel⟩, tt_6_7 (List.mem_of_getElem? (i := 8) rfl), tt_7_9 (List.mem_of_getElem? (i := 6) rfl), tt_7_9 (List.mem_of_getElem? (i := 7) rfl)⟩
theorem lw_p60 : lw_okq (⟨"ProvenRecordModel", "both", "(II)I"⟩, 48) := ⟨⟨by decide +kernel, by decide +kernel⟩, tt_6_7 (List.mem_of_getElem? (i := 8) rfl), tt_7_9 (List.mem_of_getElem? (i := 15) rfl), tt_7_10 (List.mem_of_getElem? (i := 0) rfl)⟩
theorem lw_p61 : lw_okq (⟨"ProvenRecordModel", "peaksOf", "(I)V"⟩, 48) := ⟨⟨by decide +kernel, by decide +kernel⟩, tt_6_7 (List.mem_of_getElem? (i := 8) rfl), tt_7_10 (List.mem_of_getElem? (i := 3) rfl), tt_7_10 (List.mem_of_getElem? (i := 4) rfl)⟩
theorem lw_p62 : lw_okq (⟨"ProvenRecordModel", "asks", "(II)V"⟩, 48) := ⟨⟨by decide +kernel, by decide +kernel⟩, tt_6_7 (List.mem_of_getElem? (i := 8) rfl), tt_7_10 (List.mem_of_getElem? (i := 8) rfl), tt_7_10 (List.mem_of_getElem? (i := 9) rfl)⟩
theorem lw_p63 : lw_okq (⟨"ProvenRecordModel", "fetches", "(I)V"⟩, 48) := ⟨⟨by decide +kernel, by decide +kernel⟩, tt_6_7 (List.mem_of_getElem? (i := 8) rfl), tt_7_10 (List.mem_of_getElem? (i := 12) rfl), tt_7_10 (List.mem_of_getElem? (i := 13) rfl)⟩
def lw_privs_4 : List (MethodName × Nat) := [(⟨"ProvenRecordModel", "line", "()V"⟩, 48), (⟨"ProvenRecordModel", "addLine", "()V"⟩, 48), (⟨"ProvenRecordModel", "sizeOf", "(I)I"⟩, 48), (⟨"ProvenRecordModel", "adds", "(I)I"⟩, 48), (⟨"ProvenRecordModel", "refuse", "(I)I"⟩, 48), (⟨"ProvenRecordModel", "forkLine", "()V"⟩, 48), (⟨"ProvenRecordModel", "forks", "(II)I"⟩, 48), (⟨"ProvenRecordModel", "freezes", "(I)I"⟩, 48), (⟨"ProvenRecordModel", "headOf", "(II)I"⟩, 48), (⟨"ProvenRecordModel", "treeMark", "(III)I"⟩, 48), (⟨"ProvenRecordModel", "entryMark", "(II)I"⟩, 48), (⟨"ProvenRecordModel", "mixed", "(II)I"⟩, 48), (⟨"ProvenRecordModel", "both", "(II)I"⟩, 48), (⟨"ProvenRecordModel", "peaksOf", "(I)V"⟩, 48), (⟨"ProvenRecordModel", "asks", "(II)V"⟩, 48), (⟨"ProvenRecordModel", "fetches", "(I)V"⟩, 48)]
theorem lw_r4 : ∀ q ∈ lw_privs_4, lw_okq q := List.forall_mem_cons.mpr ⟨lw_p48, List.forall_mem_cons.mpr ⟨lw_p49, List.forall_mem_cons.mpr ⟨lw_p50, List.forall_mem_cons.mpr ⟨lw_p51, List.forall_mem_cons.mpr ⟨lw_p52, List.forall_mem_cons.mpr ⟨lw_p53, List.forall_mem_cons.mpr ⟨lw_p54, List.forall_mem_cons.mpr ⟨lw_p55, List.forall_mem_cons.mpr ⟨lw_p56, List.forall_mem_cons.mpr ⟨lw_p57, List.forall_mem_cons.mpr ⟨lw_p58, List.forall_mem_cons.mpr ⟨lw_p59, List.forall_mem_cons.mpr ⟨lw_p60, List.forall_mem_cons.mpr ⟨lw_p61, List.forall_mem_cons.mpr ⟨lw_p62, List.forall_mem_cons.mpr ⟨lw_p63, fun _ h => absurd h List.not_mem_nil⟩⟩⟩⟩⟩⟩⟩⟩⟩⟩⟩⟩⟩⟩⟩⟩
theorem lw_p64 : lw_okq (⟨"ProvenRecordModel", "takes", "(I)V"⟩, 48) := ⟨⟨by decide +kernel, by decide +kernel⟩, tt_6_7 (List.mem_of_getElem? (i := 8) rfl), tt_7_11 (List.mem_of_getElem? (i := 0) rfl), tt_7_11 (List.mem_of_getElem? (i := 1) rfl)⟩
theorem lw_p65 : lw_okq (⟨"ProvenRecordModel", "shows", "(III)I"⟩, 48) := ⟨⟨by decide +kernel, by decide +kernel⟩, tt_6_7 (List.mem_of_getElem? (i := 8) rfl), tt_7_11 (List.mem_of_getElem? (i := 4) rfl), tt_7_11 (List.mem_of_getElem? (i := 5) rfl)⟩
theorem lw_p66 : lw_okq (⟨"ProvenRecordModel", "trust", "(II)I"⟩, 48) := ⟨⟨by decide +kernel, by decide +kernel⟩, tt_6_7 (List.mem_of_getElem? (i := 8) rfl), tt_7_11 (List.mem_of_getElem? (i := 8) rfl), tt_7_11 (List.mem_of_getElem? (i := 9) rfl)⟩
theorem lw_p67 : lw_okq (⟨"ProvenRecordModel", "whyByRecord", "(IIIII)I"⟩, 48) := ⟨⟨by decide +kernel, by decide +kernel⟩, tt_6_7 (List.mem_of_getElem? (i := 8) rfl), tt_7_11 (List.mem_of_getElem? (i := 12) rfl), tt_7_11 (List.mem_of_getElem? (i := 13) rfl)⟩
theorem lw_p68 : lw_okq (⟨"ProvenRecordModel", "growth", "(II)V"⟩, 48) := ⟨⟨by decide +kernel, by decide +kernel⟩, tt_6_7 (List.mem_of_getElem? (i := 8) rfl), tt_7_12 (List.mem_of_getElem? (i := 0) rfl), tt_7_12 (List.mem_of_getElem? (i := 1) rfl)⟩
theorem lw_p69 : lw_okq (⟨"ProvenRecordModel", "growsIn", "(IIIZ)V"⟩, 48) := ⟨⟨by decide +kernel, by decide +kernel⟩, tt_6_7 (List.mem_of_getElem? (i := 8) rfl), tt_7_12 (List.mem_of_getElem? (i := 4) rfl), tt_7_12 (List.mem_of_getElem? (i := 5) rfl)⟩
theorem lw_p70 : lw_okq (⟨"ProvenRecordModel", "whyGrown", "(IIIII)I"⟩, 48) := ⟨⟨by decide +kernel, by decide +kernel⟩, tt_6_7 (List.mem_of_getElem? (i := 8) rfl), tt_7_12 (List.mem_of_getElem? (i := 8) rfl), tt_7_12 (List.mem_of_getElem? (i := 9) rfl)⟩
theorem lw_p71 : lw_okq (⟨"ProvenRecordModel", "foldsGrowth", "(IIIZ)V"⟩, 48) := ⟨⟨by decide +kernel, by decide +kernel⟩, tt_6_7 (List.mem_of_getElem? (i := 8) rfl), tt_7_12 (List.mem_of_getElem? (i := 12) rfl), tt_7_12 (List.mem_of_getElem? (i := 13) rfl)⟩
theorem lw_p72 : lw_okq (⟨"ProvenRecordModel", "trusts", "(III)V"⟩, 48) := ⟨⟨by decide +kernel, by decide +kernel⟩, tt_6_7 (List.mem_of_getElem? (i := 8) rfl), tt_7_13 (List.mem_of_getElem? (i := 0) rfl), tt_7_13 (List.mem_of_getElem? (i := 1) rfl)⟩
theorem lw_p73 : lw_okq (⟨"ProvenRecordModel", "ends", "()V"⟩, 48) := ⟨⟨by decide +kernel, by decide +kernel⟩, tt_6_7 (List.mem_of_getElem? (i := 8) rfl), tt_7_13 (List.mem_of_getElem? (i := 4) rfl), tt_7_13 (List.mem_of_getElem? (i := 5) rfl)⟩
theorem lw_p74 : lw_okq (⟨"ProvenRecordModel", "statementIn", "()I"⟩, 48) := ⟨⟨by decide +kernel, by decide +kernel⟩, tt_6_7 (List.mem_of_getElem? (i := 8) rfl), tt_7_13 (List.mem_of_getElem? (i := 12) rfl), tt_7_13 (List.mem_of_getElem? (i := 13) rfl)⟩
theorem lw_p75 : lw_okq (⟨"ProvenRecordModel", "takesMark", "()I"⟩, 48) := ⟨⟨by decide +kernel, by decide +kernel⟩, tt_6_7 (List.mem_of_getElem? (i := 8) rfl), tt_7_14 (List.mem_of_getElem? (i := 1) rfl), tt_7_14 (List.mem_of_getElem? (i := 2) rfl)⟩
theorem lw_p76 : lw_okq (⟨"ProvenRecordModel", "takesMarks", "()I"⟩, 48) := ⟨⟨by decide +kernel, by decide +kernel⟩, tt_6_7 (List.mem_of_getElem? (i := 8) rfl), tt_7_14 (List.mem_of_getElem? (i := 5) rfl), tt_7_14 (List.mem_of_getElem? (i := 6) rfl)⟩
theorem lw_p77 : lw_okq (⟨"ProvenRecordModel", "isMark", "(I)Z"⟩, 48) := ⟨⟨by decide +kernel, by decide +kernel⟩, tt_6_7 (List.mem_of_getElem? (i := 8) rfl), tt_7_14 (List.mem_of_getElem? (i := 9) rfl), tt_7_14 (List.mem_of_getElem? (i := 10) rfl)⟩
theorem lw_p78 : lw_okq (⟨"ProvenRecordModel", "whyIn", "(IIIII)I"⟩, 48) := ⟨⟨by decide +kernel, by decide +kernel⟩, tt_6_7 (List.mem_of_getElem? (i := 8) rfl), tt_7_14 (List.mem_of_getElem? (i := 13) rfl), tt_7_14 (List.mem_of_getElem? (i := 14) rfl)⟩
theorem lw_p79 : lw_okq (⟨"ProvenRecordModel", "inclusion", "(II)V"⟩, 48) := ⟨⟨by decide +kernel, by decide +kernel⟩, tt_6_7 (List.mem_of_getElem? (i := 8) rfl), ta_8 (List.mem_of_getElem? (i := 1) rfl), ta_8 (List.mem_of_getElem? (i := 2) rfl)⟩
def lw_privs_5 : List (MethodName × Nat) := [(⟨"ProvenRecordModel", "takes", "(I)V"⟩, 48), (⟨"ProvenRecordModel", "shows", "(III)I"⟩, 48), (⟨"ProvenRecordModel", "trust", "(II)I"⟩, 48), (⟨"ProvenRecordModel", "whyByRecord", "(IIIII)I"⟩, 48), (⟨"ProvenRecordModel", "growth", "(II)V"⟩, 48), (⟨"ProvenRecordModel", "growsIn", "(IIIZ)V"⟩, 48), (⟨"ProvenRecordModel", "whyGrown", "(IIIII)I"⟩, 48), (⟨"ProvenRecordModel", "foldsGrowth", "(IIIZ)V"⟩, 48), (⟨"ProvenRecordModel", "trusts", "(III)V"⟩, 48), (⟨"ProvenRecordModel", "ends", "()V"⟩, 48), (⟨"ProvenRecordModel", "statementIn", "()I"⟩, 48), (⟨"ProvenRecordModel", "takesMark", "()I"⟩, 48), (⟨"ProvenRecordModel", "takesMarks", "()I"⟩, 48), (⟨"ProvenRecordModel", "isMark", "(I)Z"⟩, 48), (⟨"ProvenRecordModel", "whyIn", "(IIIII)I"⟩, 48), (⟨"ProvenRecordModel", "inclusion", "(II)V"⟩, 48)]
theorem lw_r5 : ∀ q ∈ lw_privs_5, lw_okq q := List.forall_mem_cons.mpr ⟨lw_p64, List.forall_mem_cons.mpr ⟨lw_p65, List.forall_mem_cons.mpr ⟨lw_p66, List.forall_mem_cons.mpr ⟨lw_p67, List.forall_mem_cons.mpr ⟨lw_p68, List.forall_mem_cons.mpr ⟨lw_p69, List.forall_mem_cons.mpr ⟨lw_p70, List.forall_mem_cons.mpr ⟨lw_p71, List.forall_mem_cons.mpr ⟨lw_p72, List.forall_mem_cons.mpr ⟨lw_p73, List.forall_mem_cons.mpr ⟨lw_p74, List.forall_mem_cons.mpr ⟨lw_p75, List.forall_mem_cons.mpr ⟨lw_p76, List.forall_mem_cons.mpr ⟨lw_p77, List.forall_mem_cons.mpr ⟨lw_p78, List.forall_mem_cons.mpr ⟨lw_p79, fun _ h => absurd h List.not_mem_nil⟩⟩⟩⟩⟩⟩⟩⟩⟩⟩⟩⟩⟩⟩⟩⟩
theorem lw_p80 : lw_okq (⟨"ProvenRecordModel", "waysIn", "(III)V"⟩, 48) := ⟨⟨by decide +kernel, by decide +kernel⟩, tt_6_7 (List.mem_of_getElem? (i := 8) rfl), ta_8 (List.mem_of_getElem? (i := 5) rfl), ta_8 (List.mem_of_getElem? (i := 6) rfl)⟩
theorem lw_p81 : lw_okq (⟨"ProvenRecordModel", "folded", "(III)I"⟩, 48) := ⟨⟨by decide +kernel, by decide +kernel⟩, tt_6_7 (List.mem_of_getElem? (i := 8) rfl), ta_8 (List.mem_of_getElem? (i := 9) rfl), ta_8 (List.mem_of_getElem? (i := 10) rfl)⟩
theorem lw_p82 : lw_okq (⟨"ProvenRecordModel", "foldsIn", "(III)I"⟩, 48) := ⟨⟨by decide +kernel, by decide +kernel⟩, tt_6_7 (List.mem_of_getElem? (i := 8) rfl), ta_8 (List.mem_of_getElem? (i := 13) rfl), ta_8 (List.mem_of_getElem? (i := 14) rfl)⟩
theorem lw_p83 : lw_okq (⟨"ProvenRecordModel", "why", "(IIZ)I"⟩, 48) := ⟨⟨by decide +kernel, by decide +kernel⟩, tt_6_7 (List.mem_of_getElem? (i := 8) rfl), tt_8_1 (List.mem_of_getElem? (i := 1) rfl), tt_8_1 (List.mem_of_getElem? (i := 2) rfl)⟩
theorem lw_p84 : lw_okq (⟨"ProvenRecordModel", "statementGrow", "()I"⟩, 48) := ⟨⟨by decide +kernel, by decide +kernel⟩, tt_6_7 (List.mem_of_getElem? (i := 8) rfl), tt_8_1 (List.mem_of_getElem? (i := 5) rfl), tt_8_1 (List.mem_of_getElem? (i := 6) rfl)⟩
theorem lw_p85 : lw_okq (⟨"ProvenRecordModel", "isRecord", "(I)Z"⟩, 48) := ⟨⟨by decide +kernel, by decide +kernel⟩, tt_6_7 (List.mem_of_getElem? (i := 8) rfl), tt_8_2 (List.mem_of_getElem? (i := 9) rfl), tt_8_2 (List.mem_of_getElem? (i := 10) rfl)⟩
theorem lw_p86 : lw_okq (⟨"ProvenRecordModel", "noSize", "(II)I"⟩, 48) := ⟨⟨by decide +kernel, by decide +kernel⟩, tt_6_7 (List.mem_of_getElem? (i := 8) rfl), tt_8_3 (List.mem_of_getElem? (i := 5) rfl), tt_8_3 (List.mem_of_getElem? (i := 6) rfl)⟩
theorem lw_p87 : lw_okq (⟨"ProvenRecordModel", "froze", "(II)I"⟩, 48) := ⟨⟨by decide +kernel, by decide +kernel⟩, tt_6_7 (List.mem_of_getElem? (i := 8) rfl), tt_8_4 (List.mem_of_getElem? (i := 5) rfl), tt_8_4 (List.mem_of_getElem? (i := 6) rfl)⟩
theorem lw_p88 : lw_okq (⟨"ProvenRecordModel", "isSound", "(I)Z"⟩, 48) := ⟨⟨by decide +kernel, by decide +kernel⟩, tt_6_7 (List.mem_of_getElem? (i := 8) rfl), tt_8_4 (List.mem_of_getElem? (i := 9) rfl), tt_8_4 (List.mem_of_getElem? (i := 10) rfl)⟩
theorem lw_p89 : lw_okq (⟨"ProvenRecordModel", "hand", "()V"⟩, 48) := ⟨⟨by decide +kernel, by decide +kernel⟩, tt_6_7 (List.mem_of_getElem? (i := 8) rfl), tt_8_5 (List.mem_of_getElem? (i := 8) rfl), tt_8_5 (List.mem_of_getElem? (i := 9) rfl)⟩
theorem lw_p90 : lw_okq (⟨"ProvenRecordModel", "noEntry", "(III)I"⟩, 48) := ⟨⟨by decide +kernel, by decide +kernel⟩, tt_6_7 (List.mem_of_getElem? (i := 8) rfl), tt_8_8 (List.mem_of_getElem? (i := 4) rfl), tt_8_8 (List.mem_of_getElem? (i := 5) rfl)⟩
theorem lw_p91 : lw_okq (⟨"ProvenRecordModel", "pads", "(I)I"⟩, 48) := ⟨⟨by decide +kernel, by decide +kernel⟩, tt_6_7 (List.mem_of_getElem? (i := 8) rfl), tt_8_8 (List.mem_of_getElem? (i := 8) rfl), tt_8_8 (List.mem_of_getElem? (i := 9) rfl)⟩
theorem lw_p92 : lw_okq (⟨"ProvenRecordModel", "bundleOf", "(II)V"⟩, 48) := ⟨⟨by decide +kernel, by decide +kernel⟩, tt_6_7 (List.mem_of_getElem? (i := 8) rfl), tt_8_9 (List.mem_of_getElem? (i := 7) rfl), tt_8_9 (List.mem_of_getElem? (i := 8) rfl)⟩
theorem lw_p93 : lw_okq (⟨"ProvenRecordModel", "bundlesIn", "(III)V"⟩, 48) := ⟨⟨by decide +kernel, by decide +kernel⟩, tt_6_7 (List.mem_of_getElem? (i := 8) rfl), tt_8_9 (List.mem_of_getElem? (i := 11) rfl), tt_8_9 (List.mem_of_getElem? (i := 12) rfl)⟩
theorem lw_p94 : lw_okq (⟨"ProvenRecordModel", "isThing", "(II)Z"⟩, 48) := ⟨⟨by decide +kernel, by decide +kernel⟩, tt_6_7 (List.mem_of_getElem? (i := 8) rfl), tt_8_11 (List.mem_of_getElem? (i := 0) rfl), tt_8_11 (List.mem_of_getElem? (i := 1) rfl)⟩
theorem lw_p95 : lw_okq (⟨"ProvenRecordModel", "fromPad", "()I"⟩, 48) := ⟨⟨by decide +kernel, by decide +kernel⟩, tt_6_7 (List.mem_of_getElem? (i := 8) rfl), tt_8_11 (List.mem_of_getElem? (i := 4) rfl), tt_8_11 (List.mem_of_getElem? (i := 5) rfl)⟩
def lw_privs_6 : List (MethodName × Nat) := [(⟨"ProvenRecordModel", "waysIn", "(III)V"⟩, 48), (⟨"ProvenRecordModel", "folded", "(III)I"⟩, 48), (⟨"ProvenRecordModel", "foldsIn", "(III)I"⟩, 48), (⟨"ProvenRecordModel", "why", "(IIZ)I"⟩, 48), (⟨"ProvenRecordModel", "statementGrow", "()I"⟩, 48), (⟨"ProvenRecordModel", "isRecord", "(I)Z"⟩, 48), (⟨"ProvenRecordModel", "noSize", "(II)I"⟩, 48), (⟨"ProvenRecordModel", "froze", "(II)I"⟩, 48), (⟨"ProvenRecordModel", "isSound", "(I)Z"⟩, 48), (⟨"ProvenRecordModel", "hand", "()V"⟩, 48), (⟨"ProvenRecordModel", "noEntry", "(III)I"⟩, 48), (⟨"ProvenRecordModel", "pads", "(I)I"⟩, 48), (⟨"ProvenRecordModel", "bundleOf", "(II)V"⟩, 48), (⟨"ProvenRecordModel", "bundlesIn", "(III)V"⟩, 48), (⟨"ProvenRecordModel", "isThing", "(II)Z"⟩, 48), (⟨"ProvenRecordModel", "fromPad", "()I"⟩, 48)]
theorem lw_r6 : ∀ q ∈ lw_privs_6, lw_okq q := List.forall_mem_cons.mpr ⟨lw_p80, List.forall_mem_cons.mpr ⟨lw_p81, List.forall_mem_cons.mpr ⟨lw_p82, List.forall_mem_cons.mpr ⟨lw_p83, List.forall_mem_cons.mpr ⟨lw_p84, List.forall_mem_cons.mpr ⟨lw_p85, List.forall_mem_cons.mpr ⟨lw_p86, List.forall_mem_cons.mpr ⟨lw_p87, List.forall_mem_cons.mpr ⟨lw_p88, List.forall_mem_cons.mpr ⟨lw_p89, List.forall_mem_cons.mpr ⟨lw_p90, List.forall_mem_cons.mpr ⟨lw_p91, List.forall_mem_cons.mpr ⟨lw_p92, List.forall_mem_cons.mpr ⟨lw_p93, List.forall_mem_cons.mpr ⟨lw_p94, List.forall_mem_cons.mpr ⟨lw_p95, fun _ h => absurd h List.not_mem_nil⟩⟩⟩⟩⟩⟩⟩⟩⟩⟩⟩⟩⟩⟩⟩⟩
theorem lw_p96 : lw_okq (⟨"ProvenRecordModel", "foldsBundle", "(III)I"⟩, 48) := ⟨⟨by decide +kernel, by decide +kernel⟩, tt_6_7 (List.mem_of_getElem? (i := 8) rfl), tt_8_12 (List.mem_of_getElem? (i := 0) rfl), tt_8_12 (List.mem_of_getElem? (i := 1) rfl)⟩
theorem lw_p97 : lw_okq (⟨"ProvenRecordModel", "isAgreed", "(II)Z"⟩, 48) := ⟨⟨by decide +kernel, by decide +kernel⟩, tt_6_7 (List.mem_of_getElem? (i := 8) rfl), tt_8_13 (List.mem_of_getElem? (i := 4) rfl), tt_8_13 (List.mem_of_getElem? (i := 5) rfl)⟩
theorem lw_p98 : lw_okq (⟨"ProvenRecordModel", "isHead", "(III)Z"⟩, 48) := ⟨⟨by decide +kernel, by decide +kernel⟩, tt_6_7 (List.mem_of_getElem? (i := 8) rfl), tt_8_13 (List.mem_of_getElem? (i := 8) rfl), tt_8_13 (List.mem_of_getElem? (i := 9) rfl)⟩
theorem lw_p99 : lw_okq (⟨"ProvenRecordModel", "isTyped", "(I)Z"⟩, 48) := ⟨⟨by decide +kernel, by decide +kernel⟩, tt_6_7 (List.mem_of_getElem? (i := 8) rfl), tt_8_14 (List.mem_of_getElem? (i := 0) rfl), tt_8_14 (List.mem_of_getElem? (i := 1) rfl)⟩
theorem lw_p100 : lw_okq (⟨"ProvenRecordModel", "seeks", "(II)V"⟩, 48) := ⟨⟨by decide +kernel, by decide +kernel⟩, tt_6_7 (List.mem_of_getElem? (i := 8) rfl), tt_8_14 (List.mem_of_getElem? (i := 8) rfl), tt_8_14 (List.mem_of_getElem? (i := 9) rfl)⟩
theorem lw_p101 : lw_okq (⟨"ProvenRecordModel", "stepsIn", "(III)I"⟩, 48) := ⟨⟨by decide +kernel, by decide +kernel⟩, tt_6_7 (List.mem_of_getElem? (i := 8) rfl), tt_9_1 (List.mem_of_getElem? (i := 4) rfl), tt_9_1 (List.mem_of_getElem? (i := 5) rfl)⟩
theorem lw_p102 : lw_okq (⟨"ProvenRecordModel", "wayAt", "(II)I"⟩, 48) := ⟨⟨by decide +kernel, by decide +kernel⟩, tt_6_7 (List.mem_of_getElem? (i := 8) rfl), tt_9_2 (List.mem_of_getElem? (i := 4) rfl), tt_9_2 (List.mem_of_getElem? (i := 5) rfl)⟩
theorem lw_p103 : lw_okq (⟨"ProvenRecordModel", "notes", "()V"⟩, 48) := ⟨⟨by decide +kernel, by decide +kernel⟩, tt_6_7 (List.mem_of_getElem? (i := 8) rfl), tt_9_3 (List.mem_of_getElem? (i := 0) rfl), tt_9_3 (List.mem_of_getElem? (i := 1) rfl)⟩
theorem lw_p104 : lw_okq (⟨"ProvenRecordModel", "had", "(II)Z"⟩, 48) := ⟨⟨by decide +kernel, by decide +kernel⟩, tt_6_7 (List.mem_of_getElem? (i := 8) rfl), tt_9_3 (List.mem_of_getElem? (i := 4) rfl), tt_9_3 (List.mem_of_getElem? (i := 5) rfl)⟩
theorem lw_p105 : lw_okq (⟨"ProvenRecordModel", "sizeAbove", "(II)I"⟩, 48) := ⟨⟨by decide +kernel, by decide +kernel⟩, tt_6_7 (List.mem_of_getElem? (i := 8) rfl), tt_9_4 (List.mem_of_getElem? (i := 0) rfl), tt_9_4 (List.mem_of_getElem? (i := 1) rfl)⟩
theorem lw_p106 : lw_okq (⟨"ProvenRecordModel", "says", "(Ljava/lang/String;I)V"⟩, 48) := ⟨⟨by decide +kernel, by decide +kernel⟩, tt_6_7 (List.mem_of_getElem? (i := 8) rfl), tt_9_4 (List.mem_of_getElem? (i := 13) rfl), tt_9_4 (List.mem_of_getElem? (i := 14) rfl)⟩
theorem lw_p107 : lw_okq (⟨"ProvenRecordModel", "tells", "(I)V"⟩, 48) := ⟨⟨by decide +kernel, by decide +kernel⟩, tt_6_7 (List.mem_of_getElem? (i := 8) rfl), tt_9_5 (List.mem_of_getElem? (i := 1) rfl), tt_9_5 (List.mem_of_getElem? (i := 2) rfl)⟩
theorem lw_p108 : lw_okq (⟨"ProvenRecordModel", "tellsNumber", "(I)V"⟩, 48) := ⟨⟨by decide +kernel, by decide +kernel⟩, tt_6_7 (List.mem_of_getElem? (i := 8) rfl), tt_9_5 (List.mem_of_getElem? (i := 7) rfl), tt_9_5 (List.mem_of_getElem? (i := 8) rfl)⟩
theorem lw_p109 : lw_okq (⟨"ProvenRecordModel", "tellsMarks", "(I)I"⟩, 48) := ⟨⟨by decide +kernel, by decide +kernel⟩, tt_6_7 (List.mem_of_getElem? (i := 8) rfl), tt_9_5 (List.mem_of_getElem? (i := 14) rfl), tt_9_5 (List.mem_of_getElem? (i := 15) rfl)⟩
def lw_privs_7 : List (MethodName × Nat) := [(⟨"ProvenRecordModel", "foldsBundle", "(III)I"⟩, 48), (⟨"ProvenRecordModel", "isAgreed", "(II)Z"⟩, 48), (⟨"ProvenRecordModel", "isHead", "(III)Z"⟩, 48), (⟨"ProvenRecordModel", "isTyped", "(I)Z"⟩, 48), (⟨"ProvenRecordModel", "seeks", "(II)V"⟩, 48), (⟨"ProvenRecordModel", "stepsIn", "(III)I"⟩, 48), (⟨"ProvenRecordModel", "wayAt", "(II)I"⟩, 48), (⟨"ProvenRecordModel", "notes", "()V"⟩, 48), (⟨"ProvenRecordModel", "had", "(II)Z"⟩, 48), (⟨"ProvenRecordModel", "sizeAbove", "(II)I"⟩, 48), (⟨"ProvenRecordModel", "says", "(Ljava/lang/String;I)V"⟩, 48), (⟨"ProvenRecordModel", "tells", "(I)V"⟩, 48), (⟨"ProvenRecordModel", "tellsNumber", "(I)V"⟩, 48), (⟨"ProvenRecordModel", "tellsMarks", "(I)I"⟩, 48)]
theorem lw_r7 : ∀ q ∈ lw_privs_7, lw_okq q := List.forall_mem_cons.mpr ⟨lw_p96, List.forall_mem_cons.mpr ⟨lw_p97, List.forall_mem_cons.mpr ⟨lw_p98, List.forall_mem_cons.mpr ⟨lw_p99, List.forall_mem_cons.mpr ⟨lw_p100, List.forall_mem_cons.mpr ⟨lw_p101, List.forall_mem_cons.mpr ⟨lw_p102, List.forall_mem_cons.mpr ⟨lw_p103, List.forall_mem_cons.mpr ⟨lw_p104, List.forall_mem_cons.mpr ⟨lw_p105, List.forall_mem_cons.mpr ⟨lw_p106, List.forall_mem_cons.mpr ⟨lw_p107, List.forall_mem_cons.mpr ⟨lw_p108, List.forall_mem_cons.mpr ⟨lw_p109, fun _ h => absurd h List.not_mem_nil⟩⟩⟩⟩⟩⟩⟩⟩⟩⟩⟩⟩⟩⟩
def lw_privs : List (MethodName × Nat) := lw_privs_1 ++ (lw_privs_2 ++ (lw_privs_3 ++ (lw_privs_4 ++ (lw_privs_5 ++ (lw_privs_6 ++ (lw_privs_7))))))
def lw_tbl : List Cond := k2_sels lw_privs ++ tables_1
theorem lw_privs_ok : ∀ q ∈ lw_privs, lw_okq q := by
  show ∀ q ∈ lw_privs_1 ++ (lw_privs_2 ++ (lw_privs_3 ++ (lw_privs_4 ++ (lw_privs_5 ++ (lw_privs_6 ++ (lw_privs_7)))))), lw_okq q
  exact List.forall_mem_append.mpr ⟨lw_r1, List.forall_mem_append.mpr ⟨lw_r2, List.forall_mem_append.mpr ⟨lw_r3, List.forall_mem_append.mpr ⟨lw_r4, List.forall_mem_append.mpr ⟨lw_r5, List.forall_mem_append.mpr ⟨lw_r6, lw_r7⟩⟩⟩⟩⟩⟩
