theorem tb_0 {w : Cond} (h : w ∈ k2_sels lw_privs) : w ∈ lw_tbl := List.mem_append_left _ h
set_option maxRecDepth 100000 in
noncomputable def td_0_1 : { l : List Cond // List.drop 16 (k2_sels lw_privs) = l } := by
  constructor
  conv => lhs; whnf
theorem tm_0_1 {w : Cond} (h : w ∈ td_0_1.1) : w ∈ lw_tbl := tb_0 (tmd 16 _ (by rw [td_0_1.2]; exact h))
set_option maxRecDepth 100000 in
noncomputable def td_0_2 : { l : List Cond // List.drop 16 (td_0_1.1) = l } := by
  constructor
  conv => lhs; whnf
theorem tm_0_2 {w : Cond} (h : w ∈ td_0_2.1) : w ∈ lw_tbl := tm_0_1 (tmd 16 _ (by rw [td_0_2.2]; exact h))
set_option maxRecDepth 100000 in
noncomputable def td_0_3 : { l : List Cond // List.drop 16 (td_0_2.1) = l } := by
  constructor
  conv => lhs; whnf
theorem tm_0_3 {w : Cond} (h : w ∈ td_0_3.1) : w ∈ lw_tbl := tm_0_2 (tmd 16 _ (by rw [td_0_3.2]; exact h))
set_option maxRecDepth 100000 in
noncomputable def td_0_4 : { l : List Cond // List.drop 16 (td_0_3.1) = l } := by
  constructor
  conv => lhs; whnf
theorem tm_0_4 {w : Cond} (h : w ∈ td_0_4.1) : w ∈ lw_tbl := tm_0_3 (tmd 16 _ (by rw [td_0_4.2]; exact h))
set_option maxRecDepth 100000 in
noncomputable def td_0_5 : { l : List Cond // List.drop 16 (td_0_4.1) = l } := by
  constructor
  conv => lhs; whnf
theorem tm_0_5 {w : Cond} (h : w ∈ td_0_5.1) : w ∈ lw_tbl := tm_0_4 (tmd 16 _ (by rw [td_0_5.2]; exact h))
set_option maxRecDepth 100000 in
noncomputable def td_0_6 : { l : List Cond // List.drop 16 (td_0_5.1) = l } := by
  constructor
  conv => lhs; whnf
theorem tm_0_6 {w : Cond} (h : w ∈ td_0_6.1) : w ∈ lw_tbl := tm_0_5 (tmd 16 _ (by rw [td_0_6.2]; exact h))
theorem tb_1 {w : Cond} (h : w ∈ tables_1_1) : w ∈ lw_tbl := List.mem_append_right _ (ta_1 h)
theorem tm_1_1 {w : Cond} (h : w ∈ td_1_1.1) : w ∈ lw_tbl := List.mem_append_right _ (tt_1_1 h)
theorem tm_1_2 {w : Cond} (h : w ∈ td_1_2.1) : w ∈ lw_tbl := List.mem_append_right _ (tt_1_2 h)
theorem tm_1_3 {w : Cond} (h : w ∈ td_1_3.1) : w ∈ lw_tbl := List.mem_append_right _ (tt_1_3 h)
theorem tm_1_4 {w : Cond} (h : w ∈ td_1_4.1) : w ∈ lw_tbl := List.mem_append_right _ (tt_1_4 h)
theorem tm_1_5 {w : Cond} (h : w ∈ td_1_5.1) : w ∈ lw_tbl := List.mem_append_right _ (tt_1_5 h)
theorem tm_1_6 {w : Cond} (h : w ∈ td_1_6.1) : w ∈ lw_tbl := List.mem_append_right _ (tt_1_6 h)
theorem tm_1_7 {w : Cond} (h : w ∈ td_1_7.1) : w ∈ lw_tbl := List.mem_append_right _ (tt_1_7 h)
theorem tm_1_8 {w : Cond} (h : w ∈ td_1_8.1) : w ∈ lw_tbl := List.mem_append_right _ (tt_1_8 h)
theorem tm_1_9 {w : Cond} (h : w ∈ td_1_9.1) : w ∈ lw_tbl := List.mem_append_right _ (tt_1_9 h)
theorem tm_1_10 {w : Cond} (h : w ∈ td_1_10.1) : w ∈ lw_tbl := List.mem_append_right _ (tt_1_10 h)
theorem tm_1_11 {w : Cond} (h : w ∈ td_1_11.1) : w ∈ lw_tbl := List.mem_append_right _ (tt_1_11 h)
theorem tm_1_12 {w : Cond} (h : w ∈ td_1_12.1) : w ∈ lw_tbl := List.mem_append_right _ (tt_1_12 h)
theorem tm_1_13 {w : Cond} (h : w ∈ td_1_13.1) : w ∈ lw_tbl := List.mem_append_right _ (tt_1_13 h)
theorem tm_1_14 {w : Cond} (h : w ∈ td_1_14.1) : w ∈ lw_tbl := List.mem_append_right _ (tt_1_14 h)
theorem tb_2 {w : Cond} (h : w ∈ tables_1_2) : w ∈ lw_tbl := List.mem_append_right _ (ta_2 h)
theorem tm_2_1 {w : Cond} (h : w ∈ td_2_1.1) : w ∈ lw_tbl := List.mem_append_right _ (tt_2_1 h)
theorem tm_2_2 {w : Cond} (h : w ∈ td_2_2.1) : w ∈ lw_tbl := List.mem_append_right _ (tt_2_2 h)
theorem tm_2_3 {w : Cond} (h : w ∈ td_2_3.1) : w ∈ lw_tbl := List.mem_append_right _ (tt_2_3 h)
theorem tm_2_4 {w : Cond} (h : w ∈ td_2_4.1) : w ∈ lw_tbl := List.mem_append_right _ (tt_2_4 h)
theorem tm_2_5 {w : Cond} (h : w ∈ td_2_5.1) : w ∈ lw_tbl := List.mem_append_right _ (tt_2_5 h)
theorem tm_2_6 {w : Cond} (h : w ∈ td_2_6.1) : w ∈ lw_tbl := List.mem_append_right _ (tt_2_6 h)
theorem tm_2_7 {w : Cond} (h : w ∈ td_2_7.1) : w ∈ lw_tbl := List.mem_append_right _ (tt_2_7 h)
theorem tm_2_8 {w : Cond} (h : w ∈ td_2_8.1) : w ∈ lw_tbl := List.mem_append_right _ (tt_2_8 h)
theorem tm_2_9 {w : Cond} (h : w ∈ td_2_9.1) : w ∈ lw_tbl := List.mem_append_right _ (tt_2_9 h)
theorem tm_2_10 {w : Cond} (h : w ∈ td_2_10.1) : w ∈ lw_tbl := List.mem_append_right _ (tt_2_10 h)
theorem tm_2_11 {w : Cond} (h : w ∈ td_2_11.1) : w ∈ lw_tbl := List.mem_append_right _ (tt_2_11 h)
theorem tm_2_12 {w : Cond} (h : w ∈ td_2_12.1) : w ∈ lw_tbl := List.mem_append_right _ (tt_2_12 h)
theorem tm_2_13 {w : Cond} (h : w ∈ td_2_13.1) : w ∈ lw_tbl := List.mem_append_right _ (tt_2_13 h)
theorem tm_2_14 {w : Cond} (h : w ∈ td_2_14.1) : w ∈ lw_tbl := List.mem_append_right _ (tt_2_14 h)
theorem tb_3 {w : Cond} (h : w ∈ tables_1_3) : w ∈ lw_tbl := List.mem_append_right _ (ta_3 h)
theorem tm_3_2 {w : Cond} (h : w ∈ td_3_2.1) : w ∈ lw_tbl := List.mem_append_right _ (tt_3_2 h)
theorem tm_3_3 {w : Cond} (h : w ∈ td_3_3.1) : w ∈ lw_tbl := List.mem_append_right _ (tt_3_3 h)
theorem tm_3_4 {w : Cond} (h : w ∈ td_3_4.1) : w ∈ lw_tbl := List.mem_append_right _ (tt_3_4 h)
theorem tm_3_5 {w : Cond} (h : w ∈ td_3_5.1) : w ∈ lw_tbl := List.mem_append_right _ (tt_3_5 h)
theorem tm_3_6 {w : Cond} (h : w ∈ td_3_6.1) : w ∈ lw_tbl := List.mem_append_right _ (tt_3_6 h)
theorem tm_3_7 {w : Cond} (h : w ∈ td_3_7.1) : w ∈ lw_tbl := List.mem_append_right _ (tt_3_7 h)
theorem tm_3_8 {w : Cond} (h : w ∈ td_3_8.1) : w ∈ lw_tbl := List.mem_append_right _ (tt_3_8 h)
theorem tm_3_9 {w : Cond} (h : w ∈ td_3_9.1) : w ∈ lw_tbl := List.mem_append_right _ (tt_3_9 h)
theorem tm_3_10 {w : Cond} (h : w ∈ td_3_10.1) : w ∈ lw_tbl := List.mem_append_right _ (tt_3_10 h)
theorem tm_3_11 {w : Cond} (h : w ∈ td_3_11.1) : w ∈ lw_tbl := List.mem_append_right _ (tt_3_11 h)
theorem tm_3_12 {w : Cond} (h : w ∈ td_3_12.1) : w ∈ lw_tbl := List.mem_append_right _ (tt_3_12 h)
theorem tm_3_13 {w : Cond} (h : w ∈ td_3_13.1) : w ∈ lw_tbl := List.mem_append_right _ (tt_3_13 h)
theorem tm_3_14 {w : Cond} (h : w ∈ td_3_14.1) : w ∈ lw_tbl := List.mem_append_right _ (tt_3_14 h)
theorem tb_4 {w : Cond} (h : w ∈ tables_1_4) : w ∈ lw_tbl := List.mem_append_right _ (ta_4 h)
theorem tm_4_1 {w : Cond} (h : w ∈ td_4_1.1) : w ∈ lw_tbl := List.mem_append_right _ (tt_4_1 h)
theorem tm_4_2 {w : Cond} (h : w ∈ td_4_2.1) : w ∈ lw_tbl := List.mem_append_right _ (tt_4_2 h)
theorem tm_4_3 {w : Cond} (h : w ∈ td_4_3.1) : w ∈ lw_tbl := List.mem_append_right _ (tt_4_3 h)
theorem tm_4_4 {w : Cond} (h : w ∈ td_4_4.1) : w ∈ lw_tbl := List.mem_append_right _ (tt_4_4 h)
theorem tm_4_5 {w : Cond} (h : w ∈ td_4_5.1) : w ∈ lw_tbl := List.mem_append_right _ (tt_4_5 h)
theorem tm_4_6 {w : Cond} (h : w ∈ td_4_6.1) : w ∈ lw_tbl := List.mem_append_right _ (tt_4_6 h)
theorem tm_4_7 {w : Cond} (h : w ∈ td_4_7.1) : w ∈ lw_tbl := List.mem_append_right _ (tt_4_7 h)
theorem tm_4_8 {w : Cond} (h : w ∈ td_4_8.1) : w ∈ lw_tbl := List.mem_append_right _ (tt_4_8 h)
theorem tm_4_9 {w : Cond} (h : w ∈ td_4_9.1) : w ∈ lw_tbl := List.mem_append_right _ (tt_4_9 h)
theorem tm_4_10 {w : Cond} (h : w ∈ td_4_10.1) : w ∈ lw_tbl := List.mem_append_right _ (tt_4_10 h)
theorem tm_4_11 {w : Cond} (h : w ∈ td_4_11.1) : w ∈ lw_tbl := List.mem_append_right _ (tt_4_11 h)
theorem tm_4_12 {w : Cond} (h : w ∈ td_4_12.1) : w ∈ lw_tbl := List.mem_append_right _ (tt_4_12 h)
theorem tm_4_13 {w : Cond} (h : w ∈ td_4_13.1) : w ∈ lw_tbl := List.mem_append_right _ (tt_4_13 h)
theorem tm_4_14 {w : Cond} (h : w ∈ td_4_14.1) : w ∈ lw_tbl := List.mem_append_right _ (tt_4_14 h)
theorem tb_5 {w : Cond} (h : w ∈ tables_1_5) : w ∈ lw_tbl := List.mem_append_right _ (ta_5 h)
theorem tm_5_1 {w : Cond} (h : w ∈ td_5_1.1) : w ∈ lw_tbl := List.mem_append_right _ (tt_5_1 h)
theorem tm_5_2 {w : Cond} (h : w ∈ td_5_2.1) : w ∈ lw_tbl := List.mem_append_right _ (tt_5_2 h)
theorem tm_5_3 {w : Cond} (h : w ∈ td_5_3.1) : w ∈ lw_tbl := List.mem_append_right _ (tt_5_3 h)
theorem tm_5_4 {w : Cond} (h : w ∈ td_5_4.1) : w ∈ lw_tbl := List.mem_append_right _ (tt_5_4 h)
theorem tm_5_5 {w : Cond} (h : w ∈ td_5_5.1) : w ∈ lw_tbl := List.mem_append_right _ (tt_5_5 h)
theorem tm_5_6 {w : Cond} (h : w ∈ td_5_6.1) : w ∈ lw_tbl := List.mem_append_right _ (tt_5_6 h)
theorem tm_5_7 {w : Cond} (h : w ∈ td_5_7.1) : w ∈ lw_tbl := List.mem_append_right _ (tt_5_7 h)
theorem tm_5_8 {w : Cond} (h : w ∈ td_5_8.1) : w ∈ lw_tbl := List.mem_append_right _ (tt_5_8 h)
theorem tm_5_9 {w : Cond} (h : w ∈ td_5_9.1) : w ∈ lw_tbl := List.mem_append_right _ (tt_5_9 h)
theorem tm_5_10 {w : Cond} (h : w ∈ td_5_10.1) : w ∈ lw_tbl := List.mem_append_right _ (tt_5_10 h)
theorem tm_5_11 {w : Cond} (h : w ∈ td_5_11.1) : w ∈ lw_tbl := List.mem_append_right _ (tt_5_11 h)
theorem tm_5_12 {w : Cond} (h : w ∈ td_5_12.1) : w ∈ lw_tbl := List.mem_append_right _ (tt_5_12 h)
theorem tm_5_13 {w : Cond} (h : w ∈ td_5_13.1) : w ∈ lw_tbl := List.mem_append_right _ (tt_5_13 h)
theorem tm_5_14 {w : Cond} (h : w ∈ td_5_14.1) : w ∈ lw_tbl := List.mem_append_right _ (tt_5_14 h)
theorem tb_6 {w : Cond} (h : w ∈ tables_1_6) : w ∈ lw_tbl := List.mem_append_right _ (ta_6 h)
theorem tm_6_1 {w : Cond} (h : w ∈ td_6_1.1) : w ∈ lw_tbl := List.mem_append_right _ (tt_6_1 h)
theorem tm_6_2 {w : Cond} (h : w ∈ td_6_2.1) : w ∈ lw_tbl := List.mem_append_right _ (tt_6_2 h)
theorem tm_6_3 {w : Cond} (h : w ∈ td_6_3.1) : w ∈ lw_tbl := List.mem_append_right _ (tt_6_3 h)
theorem tm_6_4 {w : Cond} (h : w ∈ td_6_4.1) : w ∈ lw_tbl := List.mem_append_right _ (tt_6_4 h)
theorem tm_6_5 {w : Cond} (h : w ∈ td_6_5.1) : w ∈ lw_tbl := List.mem_append_right _ (tt_6_5 h)
theorem tm_6_6 {w : Cond} (h : w ∈ td_6_6.1) : w ∈ lw_tbl := List.mem_append_right _ (tt_6_6 h)
theorem tm_6_7 {w : Cond} (h : w ∈ td_6_7.1) : w ∈ lw_tbl := List.mem_append_right _ (tt_6_7 h)
theorem tm_6_8 {w : Cond} (h : w ∈ td_6_8.1) : w ∈ lw_tbl := List.mem_append_right _ (tt_6_8 h)
theorem tm_6_9 {w : Cond} (h : w ∈ td_6_9.1) : w ∈ lw_tbl := List.mem_append_right _ (tt_6_9 h)
theorem tm_6_10 {w : Cond} (h : w ∈ td_6_10.1) : w ∈ lw_tbl := List.mem_append_right _ (tt_6_10 h)
theorem tm_6_11 {w : Cond} (h : w ∈ td_6_11.1) : w ∈ lw_tbl := List.mem_append_right _ (tt_6_11 h)
theorem tm_6_12 {w : Cond} (h : w ∈ td_6_12.1) : w ∈ lw_tbl := List.mem_append_right _ (tt_6_12 h)
theorem tm_6_13 {w : Cond} (h : w ∈ td_6_13.1) : w ∈ lw_tbl := List.mem_append_right _ (tt_6_13 h)
theorem tm_6_14 {w : Cond} (h : w ∈ td_6_14.1) : w ∈ lw_tbl := List.mem_append_right _ (tt_6_14 h)
theorem tb_7 {w : Cond} (h : w ∈ tables_1_7) : w ∈ lw_tbl := List.mem_append_right _ (ta_7 h)
theorem tm_7_1 {w : Cond} (h : w ∈ td_7_1.1) : w ∈ lw_tbl := List.mem_append_right _ (tt_7_1 h)
theorem tm_7_2 {w : Cond} (h : w ∈ td_7_2.1) : w ∈ lw_tbl := List.mem_append_right _ (tt_7_2 h)
theorem tm_7_3 {w : Cond} (h : w ∈ td_7_3.1) : w ∈ lw_tbl := List.mem_append_right _ (tt_7_3 h)
theorem tm_7_4 {w : Cond} (h : w ∈ td_7_4.1) : w ∈ lw_tbl := List.mem_append_right _ (tt_7_4 h)
theorem tm_7_5 {w : Cond} (h : w ∈ td_7_5.1) : w ∈ lw_tbl := List.mem_append_right _ (tt_7_5 h)
theorem tm_7_6 {w : Cond} (h : w ∈ td_7_6.1) : w ∈ lw_tbl := List.mem_append_right _ (tt_7_6 h)
theorem tm_7_7 {w : Cond} (h : w ∈ td_7_7.1) : w ∈ lw_tbl := List.mem_append_right _ (tt_7_7 h)
theorem tm_7_8 {w : Cond} (h : w ∈ td_7_8.1) : w ∈ lw_tbl := List.mem_append_right _ (tt_7_8 h)
theorem tm_7_9 {w : Cond} (h : w ∈ td_7_9.1) : w ∈ lw_tbl := List.mem_append_right _ (tt_7_9 h)
theorem tm_7_10 {w : Cond} (h : w ∈ td_7_10.1) : w ∈ lw_tbl := List.mem_append_right _ (tt_7_10 h)
theorem tm_7_11 {w : Cond} (h : w ∈ td_7_11.1) : w ∈ lw_tbl := List.mem_append_right _ (tt_7_11 h)
theorem tm_7_12 {w : Cond} (h : w ∈ td_7_12.1) : w ∈ lw_tbl := List.mem_append_right _ (tt_7_12 h)
theorem tm_7_13 {w : Cond} (h : w ∈ td_7_13.1) : w ∈ lw_tbl := List.mem_append_right _ (tt_7_13 h)
theorem tm_7_14 {w : Cond} (h : w ∈ td_7_14.1) : w ∈ lw_tbl := List.mem_append_right _ (tt_7_14 h)
theorem tb_8 {w : Cond} (h : w ∈ tables_1_8) : w ∈ lw_tbl := List.mem_append_right _ (ta_8 h)
theorem tm_8_1 {w : Cond} (h : w ∈ td_8_1.1) : w ∈ lw_tbl := List.mem_append_right _ (tt_8_1 h)
theorem tm_8_2 {w : Cond} (h : w ∈ td_8_2.1) : w ∈ lw_tbl := List.mem_append_right _ (tt_8_2 h)
theorem tm_8_3 {w : Cond} (h : w ∈ td_8_3.1) : w ∈ lw_tbl := List.mem_append_right _ (tt_8_3 h)
theorem tm_8_4 {w : Cond} (h : w ∈ td_8_4.1) : w ∈ lw_tbl := List.mem_append_right _ (tt_8_4 h)
theorem tm_8_5 {w : Cond} (h : w ∈ td_8_5.1) : w ∈ lw_tbl := List.mem_append_right _ (tt_8_5 h)
theorem tm_8_6 {w : Cond} (h : w ∈ td_8_6.1) : w ∈ lw_tbl := List.mem_append_right _ (tt_8_6 h)
theorem tm_8_7 {w : Cond} (h : w ∈ td_8_7.1) : w ∈ lw_tbl := List.mem_append_right _ (tt_8_7 h)
theorem tm_8_8 {w : Cond} (h : w ∈ td_8_8.1) : w ∈ lw_tbl := List.mem_append_right _ (tt_8_8 h)
theorem tm_8_9 {w : Cond} (h : w ∈ td_8_9.1) : w ∈ lw_tbl := List.mem_append_right _ (tt_8_9 h)
theorem tm_8_10 {w : Cond} (h : w ∈ td_8_10.1) : w ∈ lw_tbl := List.mem_append_right _ (tt_8_10 h)
theorem tm_8_11 {w : Cond} (h : w ∈ td_8_11.1) : w ∈ lw_tbl := List.mem_append_right _ (tt_8_11 h)
theorem tm_8_12 {w : Cond} (h : w ∈ td_8_12.1) : w ∈ lw_tbl := List.mem_append_right _ (tt_8_12 h)
theorem tm_8_13 {w : Cond} (h : w ∈ td_8_13.1) : w ∈ lw_tbl := List.mem_append_right _ (tt_8_13 h)
theorem tm_8_14 {w : Cond} (h : w ∈ td_8_14.1) : w ∈ lw_tbl := List.mem_append_right _ (tt_8_14 h)
theorem tb_9 {w : Cond} (h : w ∈ tables_1_9) : w ∈ lw_tbl := List.mem_append_right _ (ta_9 h)
theorem tm_9_1 {w : Cond} (h : w ∈ td_9_1.1) : w ∈ lw_tbl := List.mem_append_right _ (tt_9_1 h)
theorem tm_9_2 {w : Cond} (h : w ∈ td_9_2.1) : w ∈ lw_tbl := List.mem_append_right _ (tt_9_2 h)
theorem tm_9_3 {w : Cond} (h : w ∈ td_9_3.1) : w ∈ lw_tbl := List.mem_append_right _ (tt_9_3 h)
theorem tm_9_4 {w : Cond} (h : w ∈ td_9_4.1) : w ∈ lw_tbl := List.mem_append_right _ (tt_9_4 h)
theorem tm_9_5 {w : Cond} (h : w ∈ td_9_5.1) : w ∈ lw_tbl := List.mem_append_right _ (tt_9_5 h)
theorem tm_9_6 {w : Cond} (h : w ∈ td_9_6.1) : w ∈ lw_tbl := List.mem_append_right _ (tt_9_6 h)
theorem tm_9_7 {w : Cond} (h : w ∈ td_9_7.1) : w ∈ lw_tbl := List.mem_append_right _ (tt_9_7 h)
theorem tl_0_0 : u_lay RX0 TX0 0 ∈ lw_u := hp_mu (tm_1_14 (List.mem_of_getElem? (i := 11) rfl)) rfl
theorem tl_0_1 : u_lay RX0 TX0 1 ∈ lw_u := hp_mu (tm_1_14 (List.mem_of_getElem? (i := 13) rfl)) rfl
theorem tl_0_2 : u_lay RX0 TX0 2 ∈ lw_u := hp_mu (tm_1_14 (List.mem_of_getElem? (i := 15) rfl)) rfl
theorem tl_0_3 : u_lay RX0 TX0 3 ∈ lw_u := hp_mu (tb_2 (List.mem_of_getElem? (i := 1) rfl)) rfl
theorem tl_0_4 : u_lay RX0 TX0 4 ∈ lw_u := hp_mu (tb_2 (List.mem_of_getElem? (i := 3) rfl)) rfl
theorem in_1 : ∀ w ∈ u_ws (hp_q 1).1 (hp_q 1).2.1 (hp_q 1).2.2, w ∈ lw_u := fun w h => by
  obtain ⟨k, hk, rfl⟩ := List.mem_map.mp h
  have hk : k < 5 := List.mem_range.mp hk
  match k, hk with
  | 0, _ => exact tl_0_0
  | 1, _ => exact tl_0_1
  | 2, _ => exact tl_0_2
  | 3, _ => exact tl_0_3
  | 4, _ => exact tl_0_4
  | k + 5, h => exact absurd h (by omega)
theorem tl_1_0 : u_lay RX1 TX1 0 ∈ lw_u := hp_mu (tm_1_8 (List.mem_of_getElem? (i := 13) rfl)) rfl
theorem tl_1_1 : u_lay RX1 TX1 1 ∈ lw_u := hp_mu (tm_1_8 (List.mem_of_getElem? (i := 15) rfl)) rfl
theorem tl_1_2 : u_lay RX1 TX1 2 ∈ lw_u := hp_mu (tm_1_9 (List.mem_of_getElem? (i := 1) rfl)) rfl
theorem tl_1_3 : u_lay RX1 TX1 3 ∈ lw_u := hp_mu (tm_1_9 (List.mem_of_getElem? (i := 3) rfl)) rfl
theorem tl_1_4 : u_lay RX1 TX1 4 ∈ lw_u := hp_mu (tm_1_9 (List.mem_of_getElem? (i := 5) rfl)) rfl
theorem in_2 : ∀ w ∈ u_ws (hp_q 2).1 (hp_q 2).2.1 (hp_q 2).2.2, w ∈ lw_u := fun w h => by
  obtain ⟨k, hk, rfl⟩ := List.mem_map.mp h
  have hk : k < 5 := List.mem_range.mp hk
  match k, hk with
  | 0, _ => exact tl_1_0
  | 1, _ => exact tl_1_1
  | 2, _ => exact tl_1_2
  | 3, _ => exact tl_1_3
  | 4, _ => exact tl_1_4
  | k + 5, h => exact absurd h (by omega)
theorem tl_2_0 : u_lay RX2 TX2 0 ∈ lw_u := hp_mu (tm_1_7 (List.mem_of_getElem? (i := 1) rfl)) rfl
theorem tl_2_1 : u_lay RX2 TX2 1 ∈ lw_u := hp_mu (tm_1_7 (List.mem_of_getElem? (i := 3) rfl)) rfl
theorem tl_2_2 : u_lay RX2 TX2 2 ∈ lw_u := hp_mu (tm_1_7 (List.mem_of_getElem? (i := 5) rfl)) rfl
theorem in_3 : ∀ w ∈ u_ws (hp_q 3).1 (hp_q 3).2.1 (hp_q 3).2.2, w ∈ lw_u := fun w h => by
  obtain ⟨k, hk, rfl⟩ := List.mem_map.mp h
  have hk : k < 3 := List.mem_range.mp hk
  match k, hk with
  | 0, _ => exact tl_2_0
  | 1, _ => exact tl_2_1
  | 2, _ => exact tl_2_2
  | k + 3, h => exact absurd h (by omega)
theorem tl_3_0 : u_lay RX3 TX3 0 ∈ lw_u := hp_mu (tm_2_4 (List.mem_of_getElem? (i := 3) rfl)) rfl
theorem tl_3_1 : u_lay RX3 TX3 1 ∈ lw_u := hp_mu (tm_2_4 (List.mem_of_getElem? (i := 5) rfl)) rfl
theorem tl_3_2 : u_lay RX3 TX3 2 ∈ lw_u := hp_mu (tm_2_4 (List.mem_of_getElem? (i := 7) rfl)) rfl
theorem tl_3_3 : u_lay RX3 TX3 3 ∈ lw_u := hp_mu (tm_2_4 (List.mem_of_getElem? (i := 9) rfl)) rfl
theorem tl_3_4 : u_lay RX3 TX3 4 ∈ lw_u := hp_mu (tm_2_4 (List.mem_of_getElem? (i := 11) rfl)) rfl
theorem tl_3_5 : u_lay RX3 TX3 5 ∈ lw_u := hp_mu (tm_2_4 (List.mem_of_getElem? (i := 13) rfl)) rfl
theorem tl_3_6 : u_lay RX3 TX3 6 ∈ lw_u := hp_mu (tm_2_4 (List.mem_of_getElem? (i := 15) rfl)) rfl
theorem tl_3_7 : u_lay RX3 TX3 7 ∈ lw_u := hp_mu (tm_2_5 (List.mem_of_getElem? (i := 1) rfl)) rfl
theorem tl_3_8 : u_lay RX3 TX3 8 ∈ lw_u := hp_mu (tm_2_5 (List.mem_of_getElem? (i := 3) rfl)) rfl
theorem tl_3_9 : u_lay RX3 TX3 9 ∈ lw_u := hp_mu (tm_2_5 (List.mem_of_getElem? (i := 5) rfl)) rfl
theorem in_4 : ∀ w ∈ u_ws (hp_q 4).1 (hp_q 4).2.1 (hp_q 4).2.2, w ∈ lw_u := fun w h => by
  obtain ⟨k, hk, rfl⟩ := List.mem_map.mp h
  have hk : k < 10 := List.mem_range.mp hk
  match k, hk with
  | 0, _ => exact tl_3_0
  | 1, _ => exact tl_3_1
  | 2, _ => exact tl_3_2
  | 3, _ => exact tl_3_3
  | 4, _ => exact tl_3_4
  | 5, _ => exact tl_3_5
  | 6, _ => exact tl_3_6
  | 7, _ => exact tl_3_7
  | 8, _ => exact tl_3_8
  | 9, _ => exact tl_3_9
  | k + 10, h => exact absurd h (by omega)
theorem tl_4_0 : u_lay RX4 TX4 0 ∈ lw_u := hp_mu (tm_5_10 (List.mem_of_getElem? (i := 5) rfl)) rfl
theorem tl_4_1 : u_lay RX4 TX4 1 ∈ lw_u := hp_mu (tm_5_10 (List.mem_of_getElem? (i := 7) rfl)) rfl
theorem tl_4_2 : u_lay RX4 TX4 2 ∈ lw_u := hp_mu (tm_5_10 (List.mem_of_getElem? (i := 9) rfl)) rfl
theorem tl_4_3 : u_lay RX4 TX4 3 ∈ lw_u := hp_mu (tm_5_10 (List.mem_of_getElem? (i := 11) rfl)) rfl
theorem tl_4_4 : u_lay RX4 TX4 4 ∈ lw_u := hp_mu (tm_5_10 (List.mem_of_getElem? (i := 13) rfl)) rfl
theorem tl_4_5 : u_lay RX4 TX4 5 ∈ lw_u := hp_mu (tm_5_10 (List.mem_of_getElem? (i := 15) rfl)) rfl
theorem tl_4_6 : u_lay RX4 TX4 6 ∈ lw_u := hp_mu (tm_5_11 (List.mem_of_getElem? (i := 1) rfl)) rfl
theorem tl_4_7 : u_lay RX4 TX4 7 ∈ lw_u := hp_mu (tm_5_11 (List.mem_of_getElem? (i := 3) rfl)) rfl
theorem tl_4_8 : u_lay RX4 TX4 8 ∈ lw_u := hp_mu (tm_5_11 (List.mem_of_getElem? (i := 5) rfl)) rfl
theorem tl_4_9 : u_lay RX4 TX4 9 ∈ lw_u := hp_mu (tm_5_11 (List.mem_of_getElem? (i := 7) rfl)) rfl
theorem tl_4_10 : u_lay RX4 TX4 10 ∈ lw_u := hp_mu (tm_5_11 (List.mem_of_getElem? (i := 9) rfl)) rfl
theorem in_5 : ∀ w ∈ u_ws (hp_q 5).1 (hp_q 5).2.1 (hp_q 5).2.2, w ∈ lw_u := fun w h => by
  obtain ⟨k, hk, rfl⟩ := List.mem_map.mp h
  have hk : k < 11 := List.mem_range.mp hk
  match k, hk with
  | 0, _ => exact tl_4_0
  | 1, _ => exact tl_4_1
  | 2, _ => exact tl_4_2
  | 3, _ => exact tl_4_3
  | 4, _ => exact tl_4_4
  | 5, _ => exact tl_4_5
  | 6, _ => exact tl_4_6
  | 7, _ => exact tl_4_7
  | 8, _ => exact tl_4_8
  | 9, _ => exact tl_4_9
  | 10, _ => exact tl_4_10
  | k + 11, h => exact absurd h (by omega)
theorem tl_5_0 : u_lay RX5 TX5 0 ∈ lw_u := hp_mu (tm_1_3 (List.mem_of_getElem? (i := 6) rfl)) rfl
theorem tl_5_1 : u_lay RX5 TX5 1 ∈ lw_u := hp_mu (tm_1_3 (List.mem_of_getElem? (i := 8) rfl)) rfl
theorem in_6 : ∀ w ∈ u_ws (hp_q 6).1 (hp_q 6).2.1 (hp_q 6).2.2, w ∈ lw_u := fun w h => by
  obtain ⟨k, hk, rfl⟩ := List.mem_map.mp h
  have hk : k < 2 := List.mem_range.mp hk
  match k, hk with
  | 0, _ => exact tl_5_0
  | 1, _ => exact tl_5_1
  | k + 2, h => exact absurd h (by omega)
theorem tl_6_0 : u_lay RX6 TX6 0 ∈ lw_u := hp_mu (tm_2_1 (List.mem_of_getElem? (i := 13) rfl)) rfl
theorem tl_6_1 : u_lay RX6 TX6 1 ∈ lw_u := hp_mu (tm_2_1 (List.mem_of_getElem? (i := 15) rfl)) rfl
theorem tl_6_2 : u_lay RX6 TX6 2 ∈ lw_u := hp_mu (tm_2_2 (List.mem_of_getElem? (i := 1) rfl)) rfl
theorem tl_6_3 : u_lay RX6 TX6 3 ∈ lw_u := hp_mu (tm_2_2 (List.mem_of_getElem? (i := 3) rfl)) rfl
theorem tl_6_4 : u_lay RX6 TX6 4 ∈ lw_u := hp_mu (tm_2_2 (List.mem_of_getElem? (i := 5) rfl)) rfl
theorem tl_6_5 : u_lay RX6 TX6 5 ∈ lw_u := hp_mu (tm_2_2 (List.mem_of_getElem? (i := 7) rfl)) rfl
theorem tl_6_6 : u_lay RX6 TX6 6 ∈ lw_u := hp_mu (tm_2_2 (List.mem_of_getElem? (i := 9) rfl)) rfl
theorem in_7 : ∀ w ∈ u_ws (hp_q 7).1 (hp_q 7).2.1 (hp_q 7).2.2, w ∈ lw_u := fun w h => by
  obtain ⟨k, hk, rfl⟩ := List.mem_map.mp h
  have hk : k < 7 := List.mem_range.mp hk
  match k, hk with
  | 0, _ => exact tl_6_0
  | 1, _ => exact tl_6_1
  | 2, _ => exact tl_6_2
  | 3, _ => exact tl_6_3
  | 4, _ => exact tl_6_4
  | 5, _ => exact tl_6_5
  | 6, _ => exact tl_6_6
  | k + 7, h => exact absurd h (by omega)
theorem tl_7_0 : u_lay RX7 TX7 0 ∈ lw_u := hp_mu (tm_1_10 (List.mem_of_getElem? (i := 9) rfl)) rfl
theorem tl_7_1 : u_lay RX7 TX7 1 ∈ lw_u := hp_mu (tm_1_10 (List.mem_of_getElem? (i := 11) rfl)) rfl
theorem tl_7_2 : u_lay RX7 TX7 2 ∈ lw_u := hp_mu (tm_1_10 (List.mem_of_getElem? (i := 13) rfl)) rfl
theorem tl_7_3 : u_lay RX7 TX7 3 ∈ lw_u := hp_mu (tm_1_10 (List.mem_of_getElem? (i := 15) rfl)) rfl
theorem in_8 : ∀ w ∈ u_ws (hp_q 8).1 (hp_q 8).2.1 (hp_q 8).2.2, w ∈ lw_u := fun w h => by
  obtain ⟨k, hk, rfl⟩ := List.mem_map.mp h
  have hk : k < 4 := List.mem_range.mp hk
  match k, hk with
  | 0, _ => exact tl_7_0
  | 1, _ => exact tl_7_1
  | 2, _ => exact tl_7_2
  | 3, _ => exact tl_7_3
  | k + 4, h => exact absurd h (by omega)
theorem tl_8_0 : u_lay RX8 TX8 0 ∈ lw_u := hp_mu (tm_1_4 (List.mem_of_getElem? (i := 10) rfl)) rfl
theorem tl_8_1 : u_lay RX8 TX8 1 ∈ lw_u := hp_mu (tm_1_4 (List.mem_of_getElem? (i := 12) rfl)) rfl
theorem tl_8_2 : u_lay RX8 TX8 2 ∈ lw_u := hp_mu (tm_1_4 (List.mem_of_getElem? (i := 14) rfl)) rfl
theorem tl_8_3 : u_lay RX8 TX8 3 ∈ lw_u := hp_mu (tm_1_5 (List.mem_of_getElem? (i := 0) rfl)) rfl
theorem tl_8_4 : u_lay RX8 TX8 4 ∈ lw_u := hp_mu (tm_1_5 (List.mem_of_getElem? (i := 2) rfl)) rfl
theorem in_9 : ∀ w ∈ u_ws (hp_q 9).1 (hp_q 9).2.1 (hp_q 9).2.2, w ∈ lw_u := fun w h => by
  obtain ⟨k, hk, rfl⟩ := List.mem_map.mp h
  have hk : k < 5 := List.mem_range.mp hk
  match k, hk with
  | 0, _ => exact tl_8_0
  | 1, _ => exact tl_8_1
  | 2, _ => exact tl_8_2
  | 3, _ => exact tl_8_3
  | 4, _ => exact tl_8_4
  | k + 5, h => exact absurd h (by omega)
theorem tl_9_0 : u_lay RX9 TX9 0 ∈ lw_u := hp_mu (tm_1_6 (List.mem_of_getElem? (i := 5) rfl)) rfl
theorem tl_9_1 : u_lay RX9 TX9 1 ∈ lw_u := hp_mu (tm_1_6 (List.mem_of_getElem? (i := 7) rfl)) rfl
theorem in_10 : ∀ w ∈ u_ws (hp_q 10).1 (hp_q 10).2.1 (hp_q 10).2.2, w ∈ lw_u := fun w h => by
  obtain ⟨k, hk, rfl⟩ := List.mem_map.mp h
  have hk : k < 2 := List.mem_range.mp hk
  match k, hk with
  | 0, _ => exact tl_9_0
  | 1, _ => exact tl_9_1
  | k + 2, h => exact absurd h (by omega)
theorem tl_10_0 : u_lay RX10 TX10 0 ∈ lw_u := hp_mu (tm_1_12 (List.mem_of_getElem? (i := 3) rfl)) rfl
theorem tl_10_1 : u_lay RX10 TX10 1 ∈ lw_u := hp_mu (tm_1_12 (List.mem_of_getElem? (i := 5) rfl)) rfl
theorem tl_10_2 : u_lay RX10 TX10 2 ∈ lw_u := hp_mu (tm_1_12 (List.mem_of_getElem? (i := 7) rfl)) rfl
theorem tl_10_3 : u_lay RX10 TX10 3 ∈ lw_u := hp_mu (tm_1_12 (List.mem_of_getElem? (i := 9) rfl)) rfl
theorem tl_10_4 : u_lay RX10 TX10 4 ∈ lw_u := hp_mu (tm_1_12 (List.mem_of_getElem? (i := 11) rfl)) rfl
theorem tl_10_5 : u_lay RX10 TX10 5 ∈ lw_u := hp_mu (tm_1_12 (List.mem_of_getElem? (i := 13) rfl)) rfl
theorem tl_10_6 : u_lay RX10 TX10 6 ∈ lw_u := hp_mu (tm_1_12 (List.mem_of_getElem? (i := 15) rfl)) rfl
theorem tl_10_7 : u_lay RX10 TX10 7 ∈ lw_u := hp_mu (tm_1_13 (List.mem_of_getElem? (i := 1) rfl)) rfl
theorem tl_10_8 : u_lay RX10 TX10 8 ∈ lw_u := hp_mu (tm_1_13 (List.mem_of_getElem? (i := 3) rfl)) rfl
theorem tl_10_9 : u_lay RX10 TX10 9 ∈ lw_u := hp_mu (tm_1_13 (List.mem_of_getElem? (i := 5) rfl)) rfl
theorem in_11 : ∀ w ∈ u_ws (hp_q 11).1 (hp_q 11).2.1 (hp_q 11).2.2, w ∈ lw_u := fun w h => by
  obtain ⟨k, hk, rfl⟩ := List.mem_map.mp h
  have hk : k < 10 := List.mem_range.mp hk
  match k, hk with
  | 0, _ => exact tl_10_0
  | 1, _ => exact tl_10_1
  | 2, _ => exact tl_10_2
  | 3, _ => exact tl_10_3
  | 4, _ => exact tl_10_4
  | 5, _ => exact tl_10_5
  | 6, _ => exact tl_10_6
  | 7, _ => exact tl_10_7
  | 8, _ => exact tl_10_8
  | 9, _ => exact tl_10_9
  | k + 10, h => exact absurd h (by omega)
theorem tl_11_0 : u_lay RX11 TX11 0 ∈ lw_u := hp_mu (tm_2_6 (List.mem_of_getElem? (i := 11) rfl)) rfl
theorem tl_11_1 : u_lay RX11 TX11 1 ∈ lw_u := hp_mu (tm_2_6 (List.mem_of_getElem? (i := 13) rfl)) rfl
theorem tl_11_2 : u_lay RX11 TX11 2 ∈ lw_u := hp_mu (tm_2_6 (List.mem_of_getElem? (i := 15) rfl)) rfl
theorem tl_11_3 : u_lay RX11 TX11 3 ∈ lw_u := hp_mu (tm_2_7 (List.mem_of_getElem? (i := 1) rfl)) rfl
theorem tl_11_4 : u_lay RX11 TX11 4 ∈ lw_u := hp_mu (tm_2_7 (List.mem_of_getElem? (i := 3) rfl)) rfl
theorem tl_11_5 : u_lay RX11 TX11 5 ∈ lw_u := hp_mu (tm_2_7 (List.mem_of_getElem? (i := 5) rfl)) rfl
theorem tl_11_6 : u_lay RX11 TX11 6 ∈ lw_u := hp_mu (tm_2_7 (List.mem_of_getElem? (i := 7) rfl)) rfl
theorem tl_11_7 : u_lay RX11 TX11 7 ∈ lw_u := hp_mu (tm_2_7 (List.mem_of_getElem? (i := 9) rfl)) rfl
theorem tl_11_8 : u_lay RX11 TX11 8 ∈ lw_u := hp_mu (tm_2_7 (List.mem_of_getElem? (i := 11) rfl)) rfl
theorem tl_11_9 : u_lay RX11 TX11 9 ∈ lw_u := hp_mu (tm_2_7 (List.mem_of_getElem? (i := 13) rfl)) rfl
theorem tl_11_10 : u_lay RX11 TX11 10 ∈ lw_u := hp_mu (tm_2_7 (List.mem_of_getElem? (i := 15) rfl)) rfl
theorem tl_11_11 : u_lay RX11 TX11 11 ∈ lw_u := hp_mu (tm_2_8 (List.mem_of_getElem? (i := 1) rfl)) rfl
theorem tl_11_12 : u_lay RX11 TX11 12 ∈ lw_u := hp_mu (tm_2_8 (List.mem_of_getElem? (i := 3) rfl)) rfl
theorem tl_11_13 : u_lay RX11 TX11 13 ∈ lw_u := hp_mu (tm_2_8 (List.mem_of_getElem? (i := 5) rfl)) rfl
theorem tl_11_14 : u_lay RX11 TX11 14 ∈ lw_u := hp_mu (tm_2_8 (List.mem_of_getElem? (i := 7) rfl)) rfl
theorem tl_11_15 : u_lay RX11 TX11 15 ∈ lw_u := hp_mu (tm_2_8 (List.mem_of_getElem? (i := 9) rfl)) rfl
theorem tl_11_16 : u_lay RX11 TX11 16 ∈ lw_u := hp_mu (tm_2_8 (List.mem_of_getElem? (i := 11) rfl)) rfl
theorem tl_11_17 : u_lay RX11 TX11 17 ∈ lw_u := hp_mu (tm_2_8 (List.mem_of_getElem? (i := 13) rfl)) rfl
theorem tl_11_18 : u_lay RX11 TX11 18 ∈ lw_u := hp_mu (tm_2_8 (List.mem_of_getElem? (i := 15) rfl)) rfl
theorem in_12 : ∀ w ∈ u_ws (hp_q 12).1 (hp_q 12).2.1 (hp_q 12).2.2, w ∈ lw_u := fun w h => by
  obtain ⟨k, hk, rfl⟩ := List.mem_map.mp h
  have hk : k < 19 := List.mem_range.mp hk
  match k, hk with
  | 0, _ => exact tl_11_0
  | 1, _ => exact tl_11_1
  | 2, _ => exact tl_11_2
  | 3, _ => exact tl_11_3
  | 4, _ => exact tl_11_4
  | 5, _ => exact tl_11_5
  | 6, _ => exact tl_11_6
  | 7, _ => exact tl_11_7
  | 8, _ => exact tl_11_8
  | 9, _ => exact tl_11_9
  | 10, _ => exact tl_11_10
  | 11, _ => exact tl_11_11
  | 12, _ => exact tl_11_12
  | 13, _ => exact tl_11_13
  | 14, _ => exact tl_11_14
  | 15, _ => exact tl_11_15
  | 16, _ => exact tl_11_16
  | 17, _ => exact tl_11_17
  | 18, _ => exact tl_11_18
  | k + 19, h => exact absurd h (by omega)
theorem tl_12_0 : u_lay RX12 TX12 0 ∈ lw_u := hp_mu (tm_6_11 (List.mem_of_getElem? (i := 14) rfl)) rfl
theorem tl_12_1 : u_lay RX12 TX12 1 ∈ lw_u := hp_mu (tm_6_12 (List.mem_of_getElem? (i := 0) rfl)) rfl
theorem tl_12_2 : u_lay RX12 TX12 2 ∈ lw_u := hp_mu (tm_6_12 (List.mem_of_getElem? (i := 2) rfl)) rfl
theorem tl_12_3 : u_lay RX12 TX12 3 ∈ lw_u := hp_mu (tm_6_12 (List.mem_of_getElem? (i := 4) rfl)) rfl
theorem tl_12_4 : u_lay RX12 TX12 4 ∈ lw_u := hp_mu (tm_6_12 (List.mem_of_getElem? (i := 6) rfl)) rfl
theorem tl_12_5 : u_lay RX12 TX12 5 ∈ lw_u := hp_mu (tm_6_12 (List.mem_of_getElem? (i := 8) rfl)) rfl
theorem tl_12_6 : u_lay RX12 TX12 6 ∈ lw_u := hp_mu (tm_6_12 (List.mem_of_getElem? (i := 10) rfl)) rfl
theorem tl_12_7 : u_lay RX12 TX12 7 ∈ lw_u := hp_mu (tm_6_12 (List.mem_of_getElem? (i := 12) rfl)) rfl
theorem tl_12_8 : u_lay RX12 TX12 8 ∈ lw_u := hp_mu (tm_6_12 (List.mem_of_getElem? (i := 14) rfl)) rfl
theorem tl_12_9 : u_lay RX12 TX12 9 ∈ lw_u := hp_mu (tm_6_13 (List.mem_of_getElem? (i := 0) rfl)) rfl
theorem tl_12_10 : u_lay RX12 TX12 10 ∈ lw_u := hp_mu (tm_6_13 (List.mem_of_getElem? (i := 2) rfl)) rfl
theorem tl_12_11 : u_lay RX12 TX12 11 ∈ lw_u := hp_mu (tm_6_13 (List.mem_of_getElem? (i := 4) rfl)) rfl
theorem tl_12_12 : u_lay RX12 TX12 12 ∈ lw_u := hp_mu (tm_6_13 (List.mem_of_getElem? (i := 6) rfl)) rfl
theorem tl_12_13 : u_lay RX12 TX12 13 ∈ lw_u := hp_mu (tm_6_13 (List.mem_of_getElem? (i := 8) rfl)) rfl
theorem tl_12_14 : u_lay RX12 TX12 14 ∈ lw_u := hp_mu (tm_6_13 (List.mem_of_getElem? (i := 10) rfl)) rfl
theorem tl_12_15 : u_lay RX12 TX12 15 ∈ lw_u := hp_mu (tm_6_13 (List.mem_of_getElem? (i := 12) rfl)) rfl
theorem tl_12_16 : u_lay RX12 TX12 16 ∈ lw_u := hp_mu (tm_6_13 (List.mem_of_getElem? (i := 14) rfl)) rfl
theorem tl_12_17 : u_lay RX12 TX12 17 ∈ lw_u := hp_mu (tm_6_14 (List.mem_of_getElem? (i := 0) rfl)) rfl
theorem tl_12_18 : u_lay RX12 TX12 18 ∈ lw_u := hp_mu (tm_6_14 (List.mem_of_getElem? (i := 2) rfl)) rfl
theorem tl_12_19 : u_lay RX12 TX12 19 ∈ lw_u := hp_mu (tm_6_14 (List.mem_of_getElem? (i := 4) rfl)) rfl
theorem tl_12_20 : u_lay RX12 TX12 20 ∈ lw_u := hp_mu (tm_6_14 (List.mem_of_getElem? (i := 6) rfl)) rfl
theorem tl_12_21 : u_lay RX12 TX12 21 ∈ lw_u := hp_mu (tm_6_14 (List.mem_of_getElem? (i := 8) rfl)) rfl
theorem tl_12_22 : u_lay RX12 TX12 22 ∈ lw_u := hp_mu (tm_6_14 (List.mem_of_getElem? (i := 10) rfl)) rfl
theorem tl_12_23 : u_lay RX12 TX12 23 ∈ lw_u := hp_mu (tm_6_14 (List.mem_of_getElem? (i := 12) rfl)) rfl
theorem tl_12_24 : u_lay RX12 TX12 24 ∈ lw_u := hp_mu (tm_6_14 (List.mem_of_getElem? (i := 14) rfl)) rfl
theorem tl_12_25 : u_lay RX12 TX12 25 ∈ lw_u := hp_mu (tb_7 (List.mem_of_getElem? (i := 0) rfl)) rfl
theorem tl_12_26 : u_lay RX12 TX12 26 ∈ lw_u := hp_mu (tb_7 (List.mem_of_getElem? (i := 2) rfl)) rfl
theorem tl_12_27 : u_lay RX12 TX12 27 ∈ lw_u := hp_mu (tb_7 (List.mem_of_getElem? (i := 4) rfl)) rfl
theorem tl_12_28 : u_lay RX12 TX12 28 ∈ lw_u := hp_mu (tb_7 (List.mem_of_getElem? (i := 6) rfl)) rfl
theorem tl_12_29 : u_lay RX12 TX12 29 ∈ lw_u := hp_mu (tb_7 (List.mem_of_getElem? (i := 8) rfl)) rfl
theorem tl_12_30 : u_lay RX12 TX12 30 ∈ lw_u := hp_mu (tb_7 (List.mem_of_getElem? (i := 10) rfl)) rfl
theorem tl_12_31 : u_lay RX12 TX12 31 ∈ lw_u := hp_mu (tb_7 (List.mem_of_getElem? (i := 12) rfl)) rfl
theorem tl_12_32 : u_lay RX12 TX12 32 ∈ lw_u := hp_mu (tb_7 (List.mem_of_getElem? (i := 14) rfl)) rfl
theorem tl_12_33 : u_lay RX12 TX12 33 ∈ lw_u := hp_mu (tm_7_1 (List.mem_of_getElem? (i := 0) rfl)) rfl
theorem tl_12_34 : u_lay RX12 TX12 34 ∈ lw_u := hp_mu (tm_7_1 (List.mem_of_getElem? (i := 2) rfl)) rfl
theorem tl_12_35 : u_lay RX12 TX12 35 ∈ lw_u := hp_mu (tm_7_1 (List.mem_of_getElem? (i := 4) rfl)) rfl
theorem tl_12_36 : u_lay RX12 TX12 36 ∈ lw_u := hp_mu (tm_7_1 (List.mem_of_getElem? (i := 6) rfl)) rfl
theorem tl_12_37 : u_lay RX12 TX12 37 ∈ lw_u := hp_mu (tm_7_1 (List.mem_of_getElem? (i := 8) rfl)) rfl
theorem tl_12_38 : u_lay RX12 TX12 38 ∈ lw_u := hp_mu (tm_7_1 (List.mem_of_getElem? (i := 10) rfl)) rfl
theorem tl_12_39 : u_lay RX12 TX12 39 ∈ lw_u := hp_mu (tm_7_1 (List.mem_of_getElem? (i := 12) rfl)) rfl
theorem tl_12_40 : u_lay RX12 TX12 40 ∈ lw_u := hp_mu (tm_7_1 (List.mem_of_getElem? (i := 14) rfl)) rfl
theorem tl_12_41 : u_lay RX12 TX12 41 ∈ lw_u := hp_mu (tm_7_2 (List.mem_of_getElem? (i := 0) rfl)) rfl
theorem tl_12_42 : u_lay RX12 TX12 42 ∈ lw_u := hp_mu (tm_7_2 (List.mem_of_getElem? (i := 2) rfl)) rfl
theorem tl_12_43 : u_lay RX12 TX12 43 ∈ lw_u := hp_mu (tm_7_2 (List.mem_of_getElem? (i := 4) rfl)) rfl
theorem tl_12_44 : u_lay RX12 TX12 44 ∈ lw_u := hp_mu (tm_7_2 (List.mem_of_getElem? (i := 6) rfl)) rfl
theorem tl_12_45 : u_lay RX12 TX12 45 ∈ lw_u := hp_mu (tm_7_2 (List.mem_of_getElem? (i := 8) rfl)) rfl
theorem tl_12_46 : u_lay RX12 TX12 46 ∈ lw_u := hp_mu (tm_7_2 (List.mem_of_getElem? (i := 10) rfl)) rfl
theorem tl_12_47 : u_lay RX12 TX12 47 ∈ lw_u := hp_mu (tm_7_2 (List.mem_of_getElem? (i := 12) rfl)) rfl
theorem in_13 : ∀ w ∈ u_ws (hp_q 13).1 (hp_q 13).2.1 (hp_q 13).2.2, w ∈ lw_u := fun w h => by
  obtain ⟨k, hk, rfl⟩ := List.mem_map.mp h
  have hk : k < 48 := List.mem_range.mp hk
  match k, hk with
  | 0, _ => exact tl_12_0
  | 1, _ => exact tl_12_1
  | 2, _ => exact tl_12_2
  | 3, _ => exact tl_12_3
  | 4, _ => exact tl_12_4
  | 5, _ => exact tl_12_5
  | 6, _ => exact tl_12_6
  | 7, _ => exact tl_12_7
  | 8, _ => exact tl_12_8
  | 9, _ => exact tl_12_9
  | 10, _ => exact tl_12_10
  | 11, _ => exact tl_12_11
  | 12, _ => exact tl_12_12
  | 13, _ => exact tl_12_13
  | 14, _ => exact tl_12_14
  | 15, _ => exact tl_12_15
  | 16, _ => exact tl_12_16
  | 17, _ => exact tl_12_17
  | 18, _ => exact tl_12_18
  | 19, _ => exact tl_12_19
  | 20, _ => exact tl_12_20
  | 21, _ => exact tl_12_21
  | 22, _ => exact tl_12_22
  | 23, _ => exact tl_12_23
  | 24, _ => exact tl_12_24
  | 25, _ => exact tl_12_25
  | 26, _ => exact tl_12_26
  | 27, _ => exact tl_12_27
  | 28, _ => exact tl_12_28
  | 29, _ => exact tl_12_29
  | 30, _ => exact tl_12_30
  | 31, _ => exact tl_12_31
  | 32, _ => exact tl_12_32
  | 33, _ => exact tl_12_33
  | 34, _ => exact tl_12_34
  | 35, _ => exact tl_12_35
  | 36, _ => exact tl_12_36
  | 37, _ => exact tl_12_37
  | 38, _ => exact tl_12_38
  | 39, _ => exact tl_12_39
  | 40, _ => exact tl_12_40
  | 41, _ => exact tl_12_41
  | 42, _ => exact tl_12_42
  | 43, _ => exact tl_12_43
  | 44, _ => exact tl_12_44
  | 45, _ => exact tl_12_45
  | 46, _ => exact tl_12_46
  | 47, _ => exact tl_12_47
  | k + 48, h => exact absurd h (by omega)
theorem kc_X10_9 : Cond.constant RX10 9 (65521) ∈ lw_u := hp_mu (tm_1_2 (List.mem_of_getElem? (i := 2) rfl)) rfl
theorem fl_X5_9 : hp_F RX5 9 6 0 := ⟨rfl, by decide, in_6, tyX5_ok, nmX5, hp_mu (tm_1_2 (List.mem_of_getElem? (i := 15) rfl)) rfl⟩
theorem fl_X5_15 : hp_F RX5 15 6 1 := ⟨rfl, by decide, in_6, tyX5_ok, nmX5, hp_mu (tm_1_3 (List.mem_of_getElem? (i := 0) rfl)) rfl⟩
theorem fl_X0_37 : hp_F RX0 37 6 1 := ⟨rfl, by decide, in_6, tyX5_ok, nmX5, hp_mu (tm_1_3 (List.mem_of_getElem? (i := 1) rfl)) rfl⟩
theorem fl_X11_132 : hp_F RX11 132 6 1 := ⟨rfl, by decide, in_6, tyX5_ok, nmX5, hp_mu (tm_1_3 (List.mem_of_getElem? (i := 2) rfl)) rfl⟩
theorem fl_X3_131 : hp_F RX3 131 6 1 := ⟨rfl, by decide, in_6, tyX5_ok, nmX5, hp_mu (tm_1_3 (List.mem_of_getElem? (i := 3) rfl)) rfl⟩
theorem fl_X8_74 : hp_F RX8 74 6 1 := ⟨rfl, by decide, in_6, tyX5_ok, nmX5, hp_mu (tm_1_3 (List.mem_of_getElem? (i := 4) rfl)) rfl⟩
theorem fl_X10_184 : hp_F RX10 184 6 1 := ⟨rfl, by decide, in_6, tyX5_ok, nmX5, hp_mu (tm_1_3 (List.mem_of_getElem? (i := 5) rfl)) rfl⟩
theorem fl_X8_9 : hp_F RX8 9 9 0 := ⟨rfl, by decide, in_9, tyX8_ok, nmX8, hp_mu (tm_1_4 (List.mem_of_getElem? (i := 2) rfl)) rfl⟩
theorem fl_X8_15 : hp_F RX8 15 9 1 := ⟨rfl, by decide, in_9, tyX8_ok, nmX8, hp_mu (tm_1_4 (List.mem_of_getElem? (i := 3) rfl)) rfl⟩
theorem fl_X8_18 : hp_F RX8 18 9 2 := ⟨rfl, by decide, in_9, tyX8_ok, nmX8, hp_mu (tm_1_4 (List.mem_of_getElem? (i := 4) rfl)) rfl⟩
theorem fl_X8_22 : hp_F RX8 22 9 3 := ⟨rfl, by decide, in_9, tyX8_ok, nmX8, hp_mu (tm_1_4 (List.mem_of_getElem? (i := 5) rfl)) rfl⟩
theorem fl_X4_61 : hp_F RX4 61 9 3 := ⟨rfl, by decide, in_9, tyX8_ok, nmX8, hp_mu (tm_1_4 (List.mem_of_getElem? (i := 6) rfl)) rfl⟩
theorem fl_X10_111 : hp_F RX10 111 9 3 := ⟨rfl, by decide, in_9, tyX8_ok, nmX8, hp_mu (tm_1_4 (List.mem_of_getElem? (i := 7) rfl)) rfl⟩
theorem fl_X11_312 : hp_F RX11 312 9 3 := ⟨rfl, by decide, in_9, tyX8_ok, nmX8, hp_mu (tm_1_4 (List.mem_of_getElem? (i := 8) rfl)) rfl⟩
theorem fl_X8_26 : hp_F RX8 26 9 4 := ⟨rfl, by decide, in_9, tyX8_ok, nmX8, hp_mu (tm_1_4 (List.mem_of_getElem? (i := 9) rfl)) rfl⟩
theorem fl_X9_9 : hp_F RX9 9 10 0 := ⟨rfl, by decide, in_10, tyX9_ok, nmX9, hp_mu (tm_1_6 (List.mem_of_getElem? (i := 2) rfl)) rfl⟩
theorem fl_X9_15 : hp_F RX9 15 10 1 := ⟨rfl, by decide, in_10, tyX9_ok, nmX9, hp_mu (tm_1_6 (List.mem_of_getElem? (i := 3) rfl)) rfl⟩
theorem fl_X11_150 : hp_F RX11 150 10 1 := ⟨rfl, by decide, in_10, tyX9_ok, nmX9, hp_mu (tm_1_6 (List.mem_of_getElem? (i := 4) rfl)) rfl⟩
theorem fl_X2_11 : hp_F RX2 11 3 0 := ⟨rfl, by decide, in_3, tyX2_ok, nmX2, hp_mu (tm_1_6 (List.mem_of_getElem? (i := 11) rfl)) rfl⟩
theorem fl_X2_17 : hp_F RX2 17 3 1 := ⟨rfl, by decide, in_3, tyX2_ok, nmX2, hp_mu (tm_1_6 (List.mem_of_getElem? (i := 12) rfl)) rfl⟩
theorem fl_X2_21 : hp_F RX2 21 3 2 := ⟨rfl, by decide, in_3, tyX2_ok, nmX2, hp_mu (tm_1_6 (List.mem_of_getElem? (i := 13) rfl)) rfl⟩
theorem fl_X10_68 : hp_F RX10 68 3 2 := ⟨rfl, by decide, in_3, tyX2_ok, nmX2, hp_mu (tm_1_6 (List.mem_of_getElem? (i := 14) rfl)) rfl⟩
theorem fl_X3_102 : hp_F RX3 102 3 2 := ⟨rfl, by decide, in_3, tyX2_ok, nmX2, hp_mu (tm_1_6 (List.mem_of_getElem? (i := 15) rfl)) rfl⟩
theorem fl_X11_167 : hp_F RX11 167 3 2 := ⟨rfl, by decide, in_3, tyX2_ok, nmX2, hp_mu (tm_1_7 (List.mem_of_getElem? (i := 0) rfl)) rfl⟩
theorem fl_X1_7 : hp_F RX1 7 2 0 := ⟨rfl, by decide, in_2, tyX1_ok, nmX1, hp_mu (tm_1_7 (List.mem_of_getElem? (i := 15) rfl)) rfl⟩
theorem fl_X10_128 : hp_F RX10 128 2 0 := ⟨rfl, by decide, in_2, tyX1_ok, nmX1, hp_mu (tm_1_8 (List.mem_of_getElem? (i := 0) rfl)) rfl⟩
theorem fl_X11_202 : hp_F RX11 202 2 0 := ⟨rfl, by decide, in_2, tyX1_ok, nmX1, hp_mu (tm_1_8 (List.mem_of_getElem? (i := 1) rfl)) rfl⟩
theorem fl_X1_13 : hp_F RX1 13 2 1 := ⟨rfl, by decide, in_2, tyX1_ok, nmX1, hp_mu (tm_1_8 (List.mem_of_getElem? (i := 2) rfl)) rfl⟩
theorem fl_X10_131 : hp_F RX10 131 2 1 := ⟨rfl, by decide, in_2, tyX1_ok, nmX1, hp_mu (tm_1_8 (List.mem_of_getElem? (i := 3) rfl)) rfl⟩
theorem fl_X11_207 : hp_F RX11 207 2 1 := ⟨rfl, by decide, in_2, tyX1_ok, nmX1, hp_mu (tm_1_8 (List.mem_of_getElem? (i := 4) rfl)) rfl⟩
theorem fl_X1_16 : hp_F RX1 16 2 2 := ⟨rfl, by decide, in_2, tyX1_ok, nmX1, hp_mu (tm_1_8 (List.mem_of_getElem? (i := 5) rfl)) rfl⟩
theorem fl_X10_134 : hp_F RX10 134 2 2 := ⟨rfl, by decide, in_2, tyX1_ok, nmX1, hp_mu (tm_1_8 (List.mem_of_getElem? (i := 6) rfl)) rfl⟩
theorem fl_X11_210 : hp_F RX11 210 2 2 := ⟨rfl, by decide, in_2, tyX1_ok, nmX1, hp_mu (tm_1_8 (List.mem_of_getElem? (i := 7) rfl)) rfl⟩
theorem fl_X1_19 : hp_F RX1 19 2 3 := ⟨rfl, by decide, in_2, tyX1_ok, nmX1, hp_mu (tm_1_8 (List.mem_of_getElem? (i := 8) rfl)) rfl⟩
theorem fl_X10_137 : hp_F RX10 137 2 3 := ⟨rfl, by decide, in_2, tyX1_ok, nmX1, hp_mu (tm_1_8 (List.mem_of_getElem? (i := 9) rfl)) rfl⟩
theorem fl_X11_213 : hp_F RX11 213 2 3 := ⟨rfl, by decide, in_2, tyX1_ok, nmX1, hp_mu (tm_1_8 (List.mem_of_getElem? (i := 10) rfl)) rfl⟩
theorem fl_X1_25 : hp_F RX1 25 2 4 := ⟨rfl, by decide, in_2, tyX1_ok, nmX1, hp_mu (tm_1_8 (List.mem_of_getElem? (i := 11) rfl)) rfl⟩
theorem fl_X10_140 : hp_F RX10 140 2 4 := ⟨rfl, by decide, in_2, tyX1_ok, nmX1, hp_mu (tm_1_8 (List.mem_of_getElem? (i := 12) rfl)) rfl⟩
theorem fl_X7_9 : hp_F RX7 9 8 0 := ⟨rfl, by decide, in_8, tyX7_ok, nmX7, hp_mu (tm_1_9 (List.mem_of_getElem? (i := 13) rfl)) rfl⟩
theorem fl_X11_224 : hp_F RX11 224 8 0 := ⟨rfl, by decide, in_8, tyX7_ok, nmX7, hp_mu (tm_1_9 (List.mem_of_getElem? (i := 14) rfl)) rfl⟩
theorem fl_X10_163 : hp_F RX10 163 8 0 := ⟨rfl, by decide, in_8, tyX7_ok, nmX7, hp_mu (tm_1_9 (List.mem_of_getElem? (i := 15) rfl)) rfl⟩
theorem fl_X7_15 : hp_F RX7 15 8 1 := ⟨rfl, by decide, in_8, tyX7_ok, nmX7, hp_mu (tm_1_10 (List.mem_of_getElem? (i := 0) rfl)) rfl⟩
theorem fl_X11_227 : hp_F RX11 227 8 1 := ⟨rfl, by decide, in_8, tyX7_ok, nmX7, hp_mu (tm_1_10 (List.mem_of_getElem? (i := 1) rfl)) rfl⟩
theorem fl_X10_164 : hp_F RX10 164 8 1 := ⟨rfl, by decide, in_8, tyX7_ok, nmX7, hp_mu (tm_1_10 (List.mem_of_getElem? (i := 2) rfl)) rfl⟩
theorem fl_X7_18 : hp_F RX7 18 8 2 := ⟨rfl, by decide, in_8, tyX7_ok, nmX7, hp_mu (tm_1_10 (List.mem_of_getElem? (i := 3) rfl)) rfl⟩
theorem fl_X11_234 : hp_F RX11 234 8 2 := ⟨rfl, by decide, in_8, tyX7_ok, nmX7, hp_mu (tm_1_10 (List.mem_of_getElem? (i := 4) rfl)) rfl⟩
theorem fl_X10_177 : hp_F RX10 177 8 2 := ⟨rfl, by decide, in_8, tyX7_ok, nmX7, hp_mu (tm_1_10 (List.mem_of_getElem? (i := 5) rfl)) rfl⟩
theorem fl_X7_21 : hp_F RX7 21 8 3 := ⟨rfl, by decide, in_8, tyX7_ok, nmX7, hp_mu (tm_1_10 (List.mem_of_getElem? (i := 6) rfl)) rfl⟩
theorem fl_X10_78 : hp_F RX10 78 8 3 := ⟨rfl, by decide, in_8, tyX7_ok, nmX7, hp_mu (tm_1_10 (List.mem_of_getElem? (i := 7) rfl)) rfl⟩
theorem fl_X11_230 : hp_F RX11 230 8 3 := ⟨rfl, by decide, in_8, tyX7_ok, nmX7, hp_mu (tm_1_10 (List.mem_of_getElem? (i := 8) rfl)) rfl⟩
theorem fl_X10_10 : hp_F RX10 10 11 0 := ⟨rfl, by decide, in_11, tyX10_ok, nmX10, hp_mu (tm_1_11 (List.mem_of_getElem? (i := 2) rfl)) rfl⟩
theorem fl_X3_83 : hp_F RX3 83 11 0 := ⟨rfl, by decide, in_11, tyX10_ok, nmX10, hp_mu (tm_1_11 (List.mem_of_getElem? (i := 3) rfl)) rfl⟩
theorem fl_X11_122 : hp_F RX11 122 11 0 := ⟨rfl, by decide, in_11, tyX10_ok, nmX10, hp_mu (tm_1_11 (List.mem_of_getElem? (i := 4) rfl)) rfl⟩
theorem fl_X10_18 : hp_F RX10 18 11 1 := ⟨rfl, by decide, in_11, tyX10_ok, nmX10, hp_mu (tm_1_11 (List.mem_of_getElem? (i := 5) rfl)) rfl⟩
theorem fl_X10_22 : hp_F RX10 22 11 2 := ⟨rfl, by decide, in_11, tyX10_ok, nmX10, hp_mu (tm_1_11 (List.mem_of_getElem? (i := 6) rfl)) rfl⟩
theorem fl_X11_112 : hp_F RX11 112 11 2 := ⟨rfl, by decide, in_11, tyX10_ok, nmX10, hp_mu (tm_1_11 (List.mem_of_getElem? (i := 7) rfl)) rfl⟩
theorem fl_X3_94 : hp_F RX3 94 11 2 := ⟨rfl, by decide, in_11, tyX10_ok, nmX10, hp_mu (tm_1_11 (List.mem_of_getElem? (i := 8) rfl)) rfl⟩
theorem fl_X10_27 : hp_F RX10 27 11 3 := ⟨rfl, by decide, in_11, tyX10_ok, nmX10, hp_mu (tm_1_11 (List.mem_of_getElem? (i := 9) rfl)) rfl⟩
theorem fl_X10_31 : hp_F RX10 31 11 4 := ⟨rfl, by decide, in_11, tyX10_ok, nmX10, hp_mu (tm_1_11 (List.mem_of_getElem? (i := 10) rfl)) rfl⟩
theorem fl_X3_109 : hp_F RX3 109 11 4 := ⟨rfl, by decide, in_11, tyX10_ok, nmX10, hp_mu (tm_1_11 (List.mem_of_getElem? (i := 11) rfl)) rfl⟩
theorem fl_X11_153 : hp_F RX11 153 11 4 := ⟨rfl, by decide, in_11, tyX10_ok, nmX10, hp_mu (tm_1_11 (List.mem_of_getElem? (i := 12) rfl)) rfl⟩
theorem fl_X10_36 : hp_F RX10 36 11 5 := ⟨rfl, by decide, in_11, tyX10_ok, nmX10, hp_mu (tm_1_11 (List.mem_of_getElem? (i := 13) rfl)) rfl⟩
theorem fl_X10_40 : hp_F RX10 40 11 6 := ⟨rfl, by decide, in_11, tyX10_ok, nmX10, hp_mu (tm_1_11 (List.mem_of_getElem? (i := 14) rfl)) rfl⟩
theorem fl_X11_156 : hp_F RX11 156 11 6 := ⟨rfl, by decide, in_11, tyX10_ok, nmX10, hp_mu (tm_1_11 (List.mem_of_getElem? (i := 15) rfl)) rfl⟩
theorem fl_X10_43 : hp_F RX10 43 11 7 := ⟨rfl, by decide, in_11, tyX10_ok, nmX10, hp_mu (tm_1_12 (List.mem_of_getElem? (i := 0) rfl)) rfl⟩
theorem fl_X10_50 : hp_F RX10 50 11 8 := ⟨rfl, by decide, in_11, tyX10_ok, nmX10, hp_mu (tm_1_12 (List.mem_of_getElem? (i := 1) rfl)) rfl⟩
theorem fl_X10_57 : hp_F RX10 57 11 9 := ⟨rfl, by decide, in_11, tyX10_ok, nmX10, hp_mu (tm_1_12 (List.mem_of_getElem? (i := 2) rfl)) rfl⟩
theorem fl_X0_9 : hp_F RX0 9 1 0 := ⟨rfl, by decide, in_1, tyX0_ok, nmX0, hp_mu (tm_1_14 (List.mem_of_getElem? (i := 6) rfl)) rfl⟩
theorem fl_X0_18 : hp_F RX0 18 1 1 := ⟨rfl, by decide, in_1, tyX0_ok, nmX0, hp_mu (tm_1_14 (List.mem_of_getElem? (i := 7) rfl)) rfl⟩
theorem fl_X0_22 : hp_F RX0 22 1 2 := ⟨rfl, by decide, in_1, tyX0_ok, nmX0, hp_mu (tm_1_14 (List.mem_of_getElem? (i := 8) rfl)) rfl⟩
theorem fl_X0_25 : hp_F RX0 25 1 3 := ⟨rfl, by decide, in_1, tyX0_ok, nmX0, hp_mu (tm_1_14 (List.mem_of_getElem? (i := 9) rfl)) rfl⟩
theorem fl_X0_28 : hp_F RX0 28 1 4 := ⟨rfl, by decide, in_1, tyX0_ok, nmX0, hp_mu (tm_1_14 (List.mem_of_getElem? (i := 10) rfl)) rfl⟩
theorem fl_X6_9 : hp_F RX6 9 7 0 := ⟨rfl, by decide, in_7, tyX6_ok, nmX6, hp_mu (tm_2_1 (List.mem_of_getElem? (i := 2) rfl)) rfl⟩
theorem fl_X6_15 : hp_F RX6 15 7 1 := ⟨rfl, by decide, in_7, tyX6_ok, nmX6, hp_mu (tm_2_1 (List.mem_of_getElem? (i := 3) rfl)) rfl⟩
theorem fl_X6_19 : hp_F RX6 19 7 2 := ⟨rfl, by decide, in_7, tyX6_ok, nmX6, hp_mu (tm_2_1 (List.mem_of_getElem? (i := 4) rfl)) rfl⟩
theorem fl_X6_22 : hp_F RX6 22 7 3 := ⟨rfl, by decide, in_7, tyX6_ok, nmX6, hp_mu (tm_2_1 (List.mem_of_getElem? (i := 5) rfl)) rfl⟩
theorem fl_X3_66 : hp_F RX3 66 7 3 := ⟨rfl, by decide, in_7, tyX6_ok, nmX6, hp_mu (tm_2_1 (List.mem_of_getElem? (i := 6) rfl)) rfl⟩
theorem fl_X6_25 : hp_F RX6 25 7 4 := ⟨rfl, by decide, in_7, tyX6_ok, nmX6, hp_mu (tm_2_1 (List.mem_of_getElem? (i := 7) rfl)) rfl⟩
theorem fl_X3_191 : hp_F RX3 191 7 4 := ⟨rfl, by decide, in_7, tyX6_ok, nmX6, hp_mu (tm_2_1 (List.mem_of_getElem? (i := 8) rfl)) rfl⟩
theorem fl_X6_28 : hp_F RX6 28 7 5 := ⟨rfl, by decide, in_7, tyX6_ok, nmX6, hp_mu (tm_2_1 (List.mem_of_getElem? (i := 9) rfl)) rfl⟩
theorem fl_X3_144 : hp_F RX3 144 7 5 := ⟨rfl, by decide, in_7, tyX6_ok, nmX6, hp_mu (tm_2_1 (List.mem_of_getElem? (i := 10) rfl)) rfl⟩
theorem fl_X6_31 : hp_F RX6 31 7 6 := ⟨rfl, by decide, in_7, tyX6_ok, nmX6, hp_mu (tm_2_1 (List.mem_of_getElem? (i := 11) rfl)) rfl⟩
theorem fl_X3_188 : hp_F RX3 188 7 6 := ⟨rfl, by decide, in_7, tyX6_ok, nmX6, hp_mu (tm_2_1 (List.mem_of_getElem? (i := 12) rfl)) rfl⟩
theorem kc_X3_32 : Cond.constant RX3 32 (65521) ∈ lw_u := hp_mu (tm_2_3 (List.mem_of_getElem? (i := 0) rfl)) rfl
theorem fl_X3_12 : hp_F RX3 12 4 0 := ⟨rfl, by decide, in_4, tyX3_ok, nmX3, hp_mu (tm_2_3 (List.mem_of_getElem? (i := 3) rfl)) rfl⟩
theorem fl_X3_21 : hp_F RX3 21 4 1 := ⟨rfl, by decide, in_4, tyX3_ok, nmX3, hp_mu (tm_2_3 (List.mem_of_getElem? (i := 4) rfl)) rfl⟩
theorem fl_X3_28 : hp_F RX3 28 4 2 := ⟨rfl, by decide, in_4, tyX3_ok, nmX3, hp_mu (tm_2_3 (List.mem_of_getElem? (i := 5) rfl)) rfl⟩
theorem fl_X3_33 : hp_F RX3 33 4 3 := ⟨rfl, by decide, in_4, tyX3_ok, nmX3, hp_mu (tm_2_3 (List.mem_of_getElem? (i := 6) rfl)) rfl⟩
theorem fl_X3_37 : hp_F RX3 37 4 4 := ⟨rfl, by decide, in_4, tyX3_ok, nmX3, hp_mu (tm_2_3 (List.mem_of_getElem? (i := 7) rfl)) rfl⟩
theorem fl_X11_138 : hp_F RX11 138 4 4 := ⟨rfl, by decide, in_4, tyX3_ok, nmX3, hp_mu (tm_2_3 (List.mem_of_getElem? (i := 8) rfl)) rfl⟩
theorem fl_X3_40 : hp_F RX3 40 4 5 := ⟨rfl, by decide, in_4, tyX3_ok, nmX3, hp_mu (tm_2_3 (List.mem_of_getElem? (i := 9) rfl)) rfl⟩
theorem fl_X11_141 : hp_F RX11 141 4 5 := ⟨rfl, by decide, in_4, tyX3_ok, nmX3, hp_mu (tm_2_3 (List.mem_of_getElem? (i := 10) rfl)) rfl⟩
theorem fl_X3_43 : hp_F RX3 43 4 6 := ⟨rfl, by decide, in_4, tyX3_ok, nmX3, hp_mu (tm_2_3 (List.mem_of_getElem? (i := 11) rfl)) rfl⟩
theorem fl_X11_451 : hp_F RX11 451 4 6 := ⟨rfl, by decide, in_4, tyX3_ok, nmX3, hp_mu (tm_2_3 (List.mem_of_getElem? (i := 12) rfl)) rfl⟩
theorem fl_X3_49 : hp_F RX3 49 4 7 := ⟨rfl, by decide, in_4, tyX3_ok, nmX3, hp_mu (tm_2_3 (List.mem_of_getElem? (i := 13) rfl)) rfl⟩
theorem fl_X11_454 : hp_F RX11 454 4 7 := ⟨rfl, by decide, in_4, tyX3_ok, nmX3, hp_mu (tm_2_3 (List.mem_of_getElem? (i := 14) rfl)) rfl⟩
theorem fl_X3_53 : hp_F RX3 53 4 8 := ⟨rfl, by decide, in_4, tyX3_ok, nmX3, hp_mu (tm_2_3 (List.mem_of_getElem? (i := 15) rfl)) rfl⟩
theorem fl_X11_460 : hp_F RX11 460 4 8 := ⟨rfl, by decide, in_4, tyX3_ok, nmX3, hp_mu (tm_2_4 (List.mem_of_getElem? (i := 0) rfl)) rfl⟩
theorem fl_X3_56 : hp_F RX3 56 4 9 := ⟨rfl, by decide, in_4, tyX3_ok, nmX3, hp_mu (tm_2_4 (List.mem_of_getElem? (i := 1) rfl)) rfl⟩
theorem fl_X11_457 : hp_F RX11 457 4 9 := ⟨rfl, by decide, in_4, tyX3_ok, nmX3, hp_mu (tm_2_4 (List.mem_of_getElem? (i := 2) rfl)) rfl⟩
theorem fl_X11_9 : hp_F RX11 9 12 0 := ⟨rfl, by decide, in_12, tyX11_ok, nmX11, hp_mu (tm_2_5 (List.mem_of_getElem? (i := 8) rfl)) rfl⟩
theorem fl_X11_16 : hp_F RX11 16 12 1 := ⟨rfl, by decide, in_12, tyX11_ok, nmX11, hp_mu (tm_2_5 (List.mem_of_getElem? (i := 9) rfl)) rfl⟩
theorem fl_X11_20 : hp_F RX11 20 12 2 := ⟨rfl, by decide, in_12, tyX11_ok, nmX11, hp_mu (tm_2_5 (List.mem_of_getElem? (i := 10) rfl)) rfl⟩
theorem fl_X11_26 : hp_F RX11 26 12 3 := ⟨rfl, by decide, in_12, tyX11_ok, nmX11, hp_mu (tm_2_5 (List.mem_of_getElem? (i := 11) rfl)) rfl⟩
theorem fl_X11_30 : hp_F RX11 30 12 4 := ⟨rfl, by decide, in_12, tyX11_ok, nmX11, hp_mu (tm_2_5 (List.mem_of_getElem? (i := 12) rfl)) rfl⟩
theorem fl_X11_34 : hp_F RX11 34 12 5 := ⟨rfl, by decide, in_12, tyX11_ok, nmX11, hp_mu (tm_2_5 (List.mem_of_getElem? (i := 13) rfl)) rfl⟩
theorem fl_X11_40 : hp_F RX11 40 12 6 := ⟨rfl, by decide, in_12, tyX11_ok, nmX11, hp_mu (tm_2_5 (List.mem_of_getElem? (i := 14) rfl)) rfl⟩
theorem fl_X11_44 : hp_F RX11 44 12 7 := ⟨rfl, by decide, in_12, tyX11_ok, nmX11, hp_mu (tm_2_5 (List.mem_of_getElem? (i := 15) rfl)) rfl⟩
theorem fl_X11_47 : hp_F RX11 47 12 8 := ⟨rfl, by decide, in_12, tyX11_ok, nmX11, hp_mu (tm_2_6 (List.mem_of_getElem? (i := 0) rfl)) rfl⟩
theorem fl_X11_50 : hp_F RX11 50 12 9 := ⟨rfl, by decide, in_12, tyX11_ok, nmX11, hp_mu (tm_2_6 (List.mem_of_getElem? (i := 1) rfl)) rfl⟩
theorem fl_X11_53 : hp_F RX11 53 12 10 := ⟨rfl, by decide, in_12, tyX11_ok, nmX11, hp_mu (tm_2_6 (List.mem_of_getElem? (i := 2) rfl)) rfl⟩
theorem fl_X11_56 : hp_F RX11 56 12 11 := ⟨rfl, by decide, in_12, tyX11_ok, nmX11, hp_mu (tm_2_6 (List.mem_of_getElem? (i := 3) rfl)) rfl⟩
theorem fl_X11_62 : hp_F RX11 62 12 12 := ⟨rfl, by decide, in_12, tyX11_ok, nmX11, hp_mu (tm_2_6 (List.mem_of_getElem? (i := 4) rfl)) rfl⟩
theorem fl_X11_66 : hp_F RX11 66 12 13 := ⟨rfl, by decide, in_12, tyX11_ok, nmX11, hp_mu (tm_2_6 (List.mem_of_getElem? (i := 5) rfl)) rfl⟩
theorem fl_X11_69 : hp_F RX11 69 12 14 := ⟨rfl, by decide, in_12, tyX11_ok, nmX11, hp_mu (tm_2_6 (List.mem_of_getElem? (i := 6) rfl)) rfl⟩
theorem fl_X11_75 : hp_F RX11 75 12 15 := ⟨rfl, by decide, in_12, tyX11_ok, nmX11, hp_mu (tm_2_6 (List.mem_of_getElem? (i := 7) rfl)) rfl⟩
theorem fl_X11_82 : hp_F RX11 82 12 16 := ⟨rfl, by decide, in_12, tyX11_ok, nmX11, hp_mu (tm_2_6 (List.mem_of_getElem? (i := 8) rfl)) rfl⟩
theorem fl_X11_86 : hp_F RX11 86 12 17 := ⟨rfl, by decide, in_12, tyX11_ok, nmX11, hp_mu (tm_2_6 (List.mem_of_getElem? (i := 9) rfl)) rfl⟩
theorem fl_X11_90 : hp_F RX11 90 12 18 := ⟨rfl, by decide, in_12, tyX11_ok, nmX11, hp_mu (tm_2_6 (List.mem_of_getElem? (i := 10) rfl)) rfl⟩
theorem kc_X11_502 : Cond.constantLong RX11 502 (3) ∈ lw_u := hp_mu (tm_3_7 (List.mem_of_getElem? (i := 3) rfl)) rfl
theorem kc_X11_504 : Cond.constantLong RX11 504 (7) ∈ lw_u := hp_mu (tm_3_7 (List.mem_of_getElem? (i := 4) rfl)) rfl
theorem kc_X11_506 : Cond.constantLong RX11 506 (17) ∈ lw_u := hp_mu (tm_3_9 (List.mem_of_getElem? (i := 1) rfl)) rfl
theorem kc_J6_127 : Cond.constant RJ6 127 (-2147483648) ∈ lw_u := hp_mu (tm_3_11 (List.mem_of_getElem? (i := 5) rfl)) rfl
theorem kc_J6_264 : Cond.constant RJ6 264 (65536) ∈ lw_u := hp_mu (tm_3_11 (List.mem_of_getElem? (i := 9) rfl)) rfl
theorem kc_X3_155 : Cond.constant RX3 155 (2147483647) ∈ lw_u := hp_mu (tb_4 (List.mem_of_getElem? (i := 10) rfl)) rfl
theorem kc_X11_291 : Cond.constant RX11 291 (1000000) ∈ lw_u := hp_mu (tm_4_14 (List.mem_of_getElem? (i := 10) rfl)) rfl
theorem kc_J6_265 : Cond.constant RJ6 265 (1431655765) ∈ lw_u := hp_mu (tm_4_14 (List.mem_of_getElem? (i := 14) rfl)) rfl
theorem kc_J6_266 : Cond.constant RJ6 266 (858993459) ∈ lw_u := hp_mu (tm_4_14 (List.mem_of_getElem? (i := 15) rfl)) rfl
theorem kc_J6_267 : Cond.constant RJ6 267 (252645135) ∈ lw_u := hp_mu (tb_5 (List.mem_of_getElem? (i := 0) rfl)) rfl
theorem kc_X4_9 : Cond.constant RX4 9 (65521) ∈ lw_u := hp_mu (tm_5_9 (List.mem_of_getElem? (i := 3) rfl)) rfl
theorem fl_X4_10 : hp_F RX4 10 5 0 := ⟨rfl, by decide, in_5, tyX4_ok, nmX4, hp_mu (tm_5_9 (List.mem_of_getElem? (i := 8) rfl)) rfl⟩
theorem fl_X4_16 : hp_F RX4 16 5 1 := ⟨rfl, by decide, in_5, tyX4_ok, nmX4, hp_mu (tm_5_9 (List.mem_of_getElem? (i := 9) rfl)) rfl⟩
theorem fl_X4_19 : hp_F RX4 19 5 2 := ⟨rfl, by decide, in_5, tyX4_ok, nmX4, hp_mu (tm_5_9 (List.mem_of_getElem? (i := 10) rfl)) rfl⟩
theorem fl_X4_26 : hp_F RX4 26 5 3 := ⟨rfl, by decide, in_5, tyX4_ok, nmX4, hp_mu (tm_5_9 (List.mem_of_getElem? (i := 11) rfl)) rfl⟩
theorem fl_X4_33 : hp_F RX4 33 5 4 := ⟨rfl, by decide, in_5, tyX4_ok, nmX4, hp_mu (tm_5_9 (List.mem_of_getElem? (i := 12) rfl)) rfl⟩
theorem fl_X4_37 : hp_F RX4 37 5 5 := ⟨rfl, by decide, in_5, tyX4_ok, nmX4, hp_mu (tm_5_9 (List.mem_of_getElem? (i := 13) rfl)) rfl⟩
theorem fl_X4_40 : hp_F RX4 40 5 6 := ⟨rfl, by decide, in_5, tyX4_ok, nmX4, hp_mu (tm_5_9 (List.mem_of_getElem? (i := 14) rfl)) rfl⟩
theorem fl_X4_43 : hp_F RX4 43 5 7 := ⟨rfl, by decide, in_5, tyX4_ok, nmX4, hp_mu (tm_5_9 (List.mem_of_getElem? (i := 15) rfl)) rfl⟩
theorem fl_X4_46 : hp_F RX4 46 5 8 := ⟨rfl, by decide, in_5, tyX4_ok, nmX4, hp_mu (tm_5_10 (List.mem_of_getElem? (i := 0) rfl)) rfl⟩
theorem fl_X4_49 : hp_F RX4 49 5 9 := ⟨rfl, by decide, in_5, tyX4_ok, nmX4, hp_mu (tm_5_10 (List.mem_of_getElem? (i := 1) rfl)) rfl⟩
theorem fl_X11_373 : hp_F RX11 373 5 9 := ⟨rfl, by decide, in_5, tyX4_ok, nmX4, hp_mu (tm_5_10 (List.mem_of_getElem? (i := 2) rfl)) rfl⟩
theorem fl_X4_52 : hp_F RX4 52 5 10 := ⟨rfl, by decide, in_5, tyX4_ok, nmX4, hp_mu (tm_5_10 (List.mem_of_getElem? (i := 3) rfl)) rfl⟩
theorem fl_X11_376 : hp_F RX11 376 5 10 := ⟨rfl, by decide, in_5, tyX4_ok, nmX4, hp_mu (tm_5_10 (List.mem_of_getElem? (i := 4) rfl)) rfl⟩
theorem kc_X4_55 : Cond.constantLong RX4 55 (3) ∈ lw_u := hp_mu (tm_5_12 (List.mem_of_getElem? (i := 0) rfl)) rfl
theorem kc_X4_102 : Cond.constantLong RX4 102 (17) ∈ lw_u := hp_mu (tm_5_14 (List.mem_of_getElem? (i := 7) rfl)) rfl
theorem kc_X12_42 : Cond.constantLong RX12 42 (9886) ∈ lw_u := hp_mu (tm_6_7 (List.mem_of_getElem? (i := 13) rfl)) rfl
theorem kc_X12_44 : Cond.constantLong RX12 44 (841) ∈ lw_u := hp_mu (tm_6_7 (List.mem_of_getElem? (i := 14) rfl)) rfl
theorem kc_X12_46 : Cond.constantLong RX12 46 (555) ∈ lw_u := hp_mu (tm_6_7 (List.mem_of_getElem? (i := 15) rfl)) rfl
theorem kc_X12_48 : Cond.constantLong RX12 48 (129530) ∈ lw_u := hp_mu (tm_6_8 (List.mem_of_getElem? (i := 0) rfl)) rfl
theorem kc_X12_50 : Cond.constantLong RX12 50 (95762147) ∈ lw_u := hp_mu (tm_6_8 (List.mem_of_getElem? (i := 1) rfl)) rfl
theorem kc_X12_52 : Cond.constantLong RX12 52 (380237) ∈ lw_u := hp_mu (tm_6_8 (List.mem_of_getElem? (i := 2) rfl)) rfl
theorem kc_X12_54 : Cond.constantLong RX12 54 (257) ∈ lw_u := hp_mu (tm_6_8 (List.mem_of_getElem? (i := 3) rfl)) rfl
theorem kc_X12_56 : Cond.constantLong RX12 56 (151331) ∈ lw_u := hp_mu (tm_6_8 (List.mem_of_getElem? (i := 4) rfl)) rfl
theorem kc_X12_58 : Cond.constantLong RX12 58 (411) ∈ lw_u := hp_mu (tm_6_8 (List.mem_of_getElem? (i := 5) rfl)) rfl
theorem kc_X12_60 : Cond.constantLong RX12 60 (257105) ∈ lw_u := hp_mu (tm_6_8 (List.mem_of_getElem? (i := 6) rfl)) rfl
theorem kc_X12_62 : Cond.constantLong RX12 62 (161140) ∈ lw_u := hp_mu (tm_6_8 (List.mem_of_getElem? (i := 7) rfl)) rfl
theorem kc_X12_64 : Cond.constantLong RX12 64 (79) ∈ lw_u := hp_mu (tm_6_8 (List.mem_of_getElem? (i := 8) rfl)) rfl
theorem kc_X12_112 : Cond.constant RX12 112 (65521) ∈ lw_u := hp_mu (tm_6_8 (List.mem_of_getElem? (i := 13) rfl)) rfl
theorem fl_X12_7 : hp_F RX12 7 13 0 := ⟨rfl, by decide, in_13, tyX12_ok, nmX12, hp_mu (tm_6_8 (List.mem_of_getElem? (i := 14) rfl)) rfl⟩
theorem fl_X12_13 : hp_F RX12 13 13 1 := ⟨rfl, by decide, in_13, tyX12_ok, nmX12, hp_mu (tm_6_8 (List.mem_of_getElem? (i := 15) rfl)) rfl⟩
theorem fl_X12_109 : hp_F RX12 109 13 2 := ⟨rfl, by decide, in_13, tyX12_ok, nmX12, hp_mu (tm_6_9 (List.mem_of_getElem? (i := 0) rfl)) rfl⟩
theorem fl_X12_106 : hp_F RX12 106 13 3 := ⟨rfl, by decide, in_13, tyX12_ok, nmX12, hp_mu (tm_6_9 (List.mem_of_getElem? (i := 1) rfl)) rfl⟩
theorem fl_X12_16 : hp_F RX12 16 13 4 := ⟨rfl, by decide, in_13, tyX12_ok, nmX12, hp_mu (tm_6_9 (List.mem_of_getElem? (i := 2) rfl)) rfl⟩
theorem fl_X12_19 : hp_F RX12 19 13 5 := ⟨rfl, by decide, in_13, tyX12_ok, nmX12, hp_mu (tm_6_9 (List.mem_of_getElem? (i := 3) rfl)) rfl⟩
theorem fl_X12_22 : hp_F RX12 22 13 6 := ⟨rfl, by decide, in_13, tyX12_ok, nmX12, hp_mu (tm_6_9 (List.mem_of_getElem? (i := 4) rfl)) rfl⟩
theorem fl_X12_139 : hp_F RX12 139 13 7 := ⟨rfl, by decide, in_13, tyX12_ok, nmX12, hp_mu (tm_6_9 (List.mem_of_getElem? (i := 5) rfl)) rfl⟩
theorem fl_X12_168 : hp_F RX12 168 13 8 := ⟨rfl, by decide, in_13, tyX12_ok, nmX12, hp_mu (tm_6_9 (List.mem_of_getElem? (i := 6) rfl)) rfl⟩
theorem fl_X12_181 : hp_F RX12 181 13 9 := ⟨rfl, by decide, in_13, tyX12_ok, nmX12, hp_mu (tm_6_9 (List.mem_of_getElem? (i := 7) rfl)) rfl⟩
theorem fl_X12_184 : hp_F RX12 184 13 10 := ⟨rfl, by decide, in_13, tyX12_ok, nmX12, hp_mu (tm_6_9 (List.mem_of_getElem? (i := 8) rfl)) rfl⟩
theorem fl_X12_193 : hp_F RX12 193 13 11 := ⟨rfl, by decide, in_13, tyX12_ok, nmX12, hp_mu (tm_6_9 (List.mem_of_getElem? (i := 9) rfl)) rfl⟩
theorem fl_X12_25 : hp_F RX12 25 13 12 := ⟨rfl, by decide, in_13, tyX12_ok, nmX12, hp_mu (tm_6_9 (List.mem_of_getElem? (i := 10) rfl)) rfl⟩
theorem fl_X12_28 : hp_F RX12 28 13 13 := ⟨rfl, by decide, in_13, tyX12_ok, nmX12, hp_mu (tm_6_9 (List.mem_of_getElem? (i := 11) rfl)) rfl⟩
theorem fl_X12_203 : hp_F RX12 203 13 14 := ⟨rfl, by decide, in_13, tyX12_ok, nmX12, hp_mu (tm_6_9 (List.mem_of_getElem? (i := 12) rfl)) rfl⟩
theorem fl_X12_206 : hp_F RX12 206 13 15 := ⟨rfl, by decide, in_13, tyX12_ok, nmX12, hp_mu (tm_6_9 (List.mem_of_getElem? (i := 13) rfl)) rfl⟩
theorem fl_X12_31 : hp_F RX12 31 13 16 := ⟨rfl, by decide, in_13, tyX12_ok, nmX12, hp_mu (tm_6_9 (List.mem_of_getElem? (i := 14) rfl)) rfl⟩
theorem fl_X12_230 : hp_F RX12 230 13 17 := ⟨rfl, by decide, in_13, tyX12_ok, nmX12, hp_mu (tm_6_9 (List.mem_of_getElem? (i := 15) rfl)) rfl⟩
theorem fl_X12_35 : hp_F RX12 35 13 18 := ⟨rfl, by decide, in_13, tyX12_ok, nmX12, hp_mu (tm_6_10 (List.mem_of_getElem? (i := 0) rfl)) rfl⟩
theorem fl_X12_39 : hp_F RX12 39 13 19 := ⟨rfl, by decide, in_13, tyX12_ok, nmX12, hp_mu (tm_6_10 (List.mem_of_getElem? (i := 1) rfl)) rfl⟩
theorem fl_X12_262 : hp_F RX12 262 13 20 := ⟨rfl, by decide, in_13, tyX12_ok, nmX12, hp_mu (tm_6_10 (List.mem_of_getElem? (i := 2) rfl)) rfl⟩
theorem fl_X12_265 : hp_F RX12 265 13 21 := ⟨rfl, by decide, in_13, tyX12_ok, nmX12, hp_mu (tm_6_10 (List.mem_of_getElem? (i := 3) rfl)) rfl⟩
theorem fl_X12_242 : hp_F RX12 242 13 22 := ⟨rfl, by decide, in_13, tyX12_ok, nmX12, hp_mu (tm_6_10 (List.mem_of_getElem? (i := 4) rfl)) rfl⟩
theorem fl_X12_239 : hp_F RX12 239 13 23 := ⟨rfl, by decide, in_13, tyX12_ok, nmX12, hp_mu (tm_6_10 (List.mem_of_getElem? (i := 5) rfl)) rfl⟩
theorem fl_X12_245 : hp_F RX12 245 13 24 := ⟨rfl, by decide, in_13, tyX12_ok, nmX12, hp_mu (tm_6_10 (List.mem_of_getElem? (i := 6) rfl)) rfl⟩
theorem fl_X12_259 : hp_F RX12 259 13 25 := ⟨rfl, by decide, in_13, tyX12_ok, nmX12, hp_mu (tm_6_10 (List.mem_of_getElem? (i := 7) rfl)) rfl⟩
theorem fl_X12_236 : hp_F RX12 236 13 26 := ⟨rfl, by decide, in_13, tyX12_ok, nmX12, hp_mu (tm_6_10 (List.mem_of_getElem? (i := 8) rfl)) rfl⟩
theorem fl_X12_251 : hp_F RX12 251 13 27 := ⟨rfl, by decide, in_13, tyX12_ok, nmX12, hp_mu (tm_6_10 (List.mem_of_getElem? (i := 9) rfl)) rfl⟩
theorem fl_X12_66 : hp_F RX12 66 13 28 := ⟨rfl, by decide, in_13, tyX12_ok, nmX12, hp_mu (tm_6_10 (List.mem_of_getElem? (i := 10) rfl)) rfl⟩
theorem fl_X12_282 : hp_F RX12 282 13 29 := ⟨rfl, by decide, in_13, tyX12_ok, nmX12, hp_mu (tm_6_10 (List.mem_of_getElem? (i := 11) rfl)) rfl⟩
theorem fl_X12_70 : hp_F RX12 70 13 30 := ⟨rfl, by decide, in_13, tyX12_ok, nmX12, hp_mu (tm_6_10 (List.mem_of_getElem? (i := 12) rfl)) rfl⟩
theorem fl_X12_73 : hp_F RX12 73 13 31 := ⟨rfl, by decide, in_13, tyX12_ok, nmX12, hp_mu (tm_6_10 (List.mem_of_getElem? (i := 13) rfl)) rfl⟩
theorem fl_X12_341 : hp_F RX12 341 13 32 := ⟨rfl, by decide, in_13, tyX12_ok, nmX12, hp_mu (tm_6_10 (List.mem_of_getElem? (i := 14) rfl)) rfl⟩
theorem fl_X12_396 : hp_F RX12 396 13 33 := ⟨rfl, by decide, in_13, tyX12_ok, nmX12, hp_mu (tm_6_10 (List.mem_of_getElem? (i := 15) rfl)) rfl⟩
theorem fl_X12_399 : hp_F RX12 399 13 34 := ⟨rfl, by decide, in_13, tyX12_ok, nmX12, hp_mu (tm_6_11 (List.mem_of_getElem? (i := 0) rfl)) rfl⟩
theorem fl_X12_402 : hp_F RX12 402 13 35 := ⟨rfl, by decide, in_13, tyX12_ok, nmX12, hp_mu (tm_6_11 (List.mem_of_getElem? (i := 1) rfl)) rfl⟩
theorem fl_X12_76 : hp_F RX12 76 13 36 := ⟨rfl, by decide, in_13, tyX12_ok, nmX12, hp_mu (tm_6_11 (List.mem_of_getElem? (i := 2) rfl)) rfl⟩
theorem fl_X12_79 : hp_F RX12 79 13 37 := ⟨rfl, by decide, in_13, tyX12_ok, nmX12, hp_mu (tm_6_11 (List.mem_of_getElem? (i := 3) rfl)) rfl⟩
theorem fl_X12_82 : hp_F RX12 82 13 38 := ⟨rfl, by decide, in_13, tyX12_ok, nmX12, hp_mu (tm_6_11 (List.mem_of_getElem? (i := 4) rfl)) rfl⟩
theorem fl_X12_411 : hp_F RX12 411 13 39 := ⟨rfl, by decide, in_13, tyX12_ok, nmX12, hp_mu (tm_6_11 (List.mem_of_getElem? (i := 5) rfl)) rfl⟩
theorem fl_X12_85 : hp_F RX12 85 13 40 := ⟨rfl, by decide, in_13, tyX12_ok, nmX12, hp_mu (tm_6_11 (List.mem_of_getElem? (i := 6) rfl)) rfl⟩
theorem fl_X12_88 : hp_F RX12 88 13 41 := ⟨rfl, by decide, in_13, tyX12_ok, nmX12, hp_mu (tm_6_11 (List.mem_of_getElem? (i := 7) rfl)) rfl⟩
theorem fl_X12_91 : hp_F RX12 91 13 42 := ⟨rfl, by decide, in_13, tyX12_ok, nmX12, hp_mu (tm_6_11 (List.mem_of_getElem? (i := 8) rfl)) rfl⟩
theorem fl_X12_94 : hp_F RX12 94 13 43 := ⟨rfl, by decide, in_13, tyX12_ok, nmX12, hp_mu (tm_6_11 (List.mem_of_getElem? (i := 9) rfl)) rfl⟩
theorem fl_X12_97 : hp_F RX12 97 13 44 := ⟨rfl, by decide, in_13, tyX12_ok, nmX12, hp_mu (tm_6_11 (List.mem_of_getElem? (i := 10) rfl)) rfl⟩
theorem fl_X12_417 : hp_F RX12 417 13 45 := ⟨rfl, by decide, in_13, tyX12_ok, nmX12, hp_mu (tm_6_11 (List.mem_of_getElem? (i := 11) rfl)) rfl⟩
theorem fl_X12_100 : hp_F RX12 100 13 46 := ⟨rfl, by decide, in_13, tyX12_ok, nmX12, hp_mu (tm_6_11 (List.mem_of_getElem? (i := 12) rfl)) rfl⟩
theorem fl_X12_432 : hp_F RX12 432 13 47 := ⟨rfl, by decide, in_13, tyX12_ok, nmX12, hp_mu (tm_6_11 (List.mem_of_getElem? (i := 13) rfl)) rfl⟩
theorem kc_X12_255 : Cond.constantLong RX12 255 (27) ∈ lw_u := hp_mu (tm_7_5 (List.mem_of_getElem? (i := 7) rfl)) rfl
theorem kc_X12_257 : Cond.constantLong RX12 257 (96) ∈ lw_u := hp_mu (tm_7_5 (List.mem_of_getElem? (i := 8) rfl)) rfl
theorem kc_X12_117 : Cond.constantLong RX12 117 (3) ∈ lw_u := hp_mu (tm_7_9 (List.mem_of_getElem? (i := 9) rfl)) rfl
theorem kc_X12_119 : Cond.constantLong RX12 119 (7) ∈ lw_u := hp_mu (tm_7_9 (List.mem_of_getElem? (i := 10) rfl)) rfl
theorem kc_X12_160 : Cond.constant RX12 160 (1073741824) ∈ lw_u := hp_mu (tm_7_10 (List.mem_of_getElem? (i := 6) rfl)) rfl
theorem kc_X12_324 : Cond.constant RX12 324 (99999) ∈ lw_u := hp_mu (tm_7_13 (List.mem_of_getElem? (i := 15) rfl)) rfl
theorem kc_X12_375 : Cond.constant RX12 375 (1000000) ∈ lw_u := hp_mu (tm_8_10 (List.mem_of_getElem? (i := 9) rfl)) rfl
theorem lb_X11_init : hp_LB yX11_init cX11_init 1 none 0 := ⟨hp_mu (tm_1_1 (List.mem_of_getElem? (i := 8) rfl)) rfl, hp_mu (tb_1 (List.mem_of_getElem? (i := 1) rfl)) rfl, by decide, by decide +kernel⟩
theorem li_X11_init : Cond.instanceMethod yX11_init ∈ lw_u := hp_mu (tm_1_1 (List.mem_of_getElem? (i := 7) rfl)) rfl
theorem lb_X10_init : hp_LB yX10_init cX10_init 2 none 0 := ⟨hp_mu (tm_1_2 (List.mem_of_getElem? (i := 0) rfl)) rfl, hp_mu (tb_1 (List.mem_of_getElem? (i := 2) rfl)) rfl, by decide, by decide +kernel⟩
theorem li_X10_init : Cond.instanceMethod yX10_init ∈ lw_u := hp_mu (tm_1_1 (List.mem_of_getElem? (i := 15) rfl)) rfl
theorem lb_X5_init : hp_LB yX5_init cX5_init 1 none 0 := ⟨hp_mu (tm_1_2 (List.mem_of_getElem? (i := 13) rfl)) rfl, hp_mu (tb_1 (List.mem_of_getElem? (i := 3) rfl)) rfl, by decide, by decide +kernel⟩
theorem li_X5_init : Cond.instanceMethod yX5_init ∈ lw_u := hp_mu (tm_1_2 (List.mem_of_getElem? (i := 12) rfl)) rfl
theorem lb_X8_init : hp_LB yX8_init cX8_init 1 none 0 := ⟨hp_mu (tm_1_4 (List.mem_of_getElem? (i := 0) rfl)) rfl, hp_mu (tb_1 (List.mem_of_getElem? (i := 4) rfl)) rfl, by decide, by decide +kernel⟩
theorem li_X8_init : Cond.instanceMethod yX8_init ∈ lw_u := hp_mu (tm_1_3 (List.mem_of_getElem? (i := 15) rfl)) rfl
theorem lb_X2_init : hp_LB yX2_init cX2_init 2 none 0 := ⟨hp_mu (tm_1_5 (List.mem_of_getElem? (i := 9) rfl)) rfl, hp_mu (tb_1 (List.mem_of_getElem? (i := 5) rfl)) rfl, by decide, by decide +kernel⟩
theorem li_X2_init : Cond.instanceMethod yX2_init ∈ lw_u := hp_mu (tm_1_5 (List.mem_of_getElem? (i := 8) rfl)) rfl
theorem lb_X9_init : hp_LB yX9_init cX9_init 1 none 0 := ⟨hp_mu (tm_1_6 (List.mem_of_getElem? (i := 0) rfl)) rfl, hp_mu (tb_1 (List.mem_of_getElem? (i := 6) rfl)) rfl, by decide, by decide +kernel⟩
theorem li_X9_init : Cond.instanceMethod yX9_init ∈ lw_u := hp_mu (tm_1_5 (List.mem_of_getElem? (i := 15) rfl)) rfl
theorem lb_X1_init : hp_LB yX1_init cX1_init 1 none 0 := ⟨hp_mu (tm_1_7 (List.mem_of_getElem? (i := 11) rfl)) rfl, hp_mu (tb_1 (List.mem_of_getElem? (i := 7) rfl)) rfl, by decide, by decide +kernel⟩
theorem li_X1_init : Cond.instanceMethod yX1_init ∈ lw_u := hp_mu (tm_1_7 (List.mem_of_getElem? (i := 10) rfl)) rfl
theorem lb_X7_init : hp_LB yX7_init cX7_init 1 none 0 := ⟨hp_mu (tm_1_9 (List.mem_of_getElem? (i := 11) rfl)) rfl, hp_mu (tb_1 (List.mem_of_getElem? (i := 8) rfl)) rfl, by decide, by decide +kernel⟩
theorem li_X7_init : Cond.instanceMethod yX7_init ∈ lw_u := hp_mu (tm_1_9 (List.mem_of_getElem? (i := 10) rfl)) rfl
theorem lb_X0_init : hp_LB yX0_init cX0_init 1 none 0 := ⟨hp_mu (tm_1_14 (List.mem_of_getElem? (i := 2) rfl)) rfl, hp_mu (tb_1 (List.mem_of_getElem? (i := 9) rfl)) rfl, by decide, by decide +kernel⟩
theorem li_X0_init : Cond.instanceMethod yX0_init ∈ lw_u := hp_mu (tm_1_14 (List.mem_of_getElem? (i := 1) rfl)) rfl
theorem lb_X3_init : hp_LB yX3_init cX3_init 1 none 0 := ⟨hp_mu (tb_2 (List.mem_of_getElem? (i := 10) rfl)) rfl, hp_mu (tb_1 (List.mem_of_getElem? (i := 10) rfl)) rfl, by decide, by decide +kernel⟩
theorem li_X3_init : Cond.instanceMethod yX3_init ∈ lw_u := hp_mu (tb_2 (List.mem_of_getElem? (i := 9) rfl)) rfl
theorem lb_X6_init : hp_LB yX6_init cX6_init 1 none 0 := ⟨hp_mu (tm_2_1 (List.mem_of_getElem? (i := 0) rfl)) rfl, hp_mu (tb_1 (List.mem_of_getElem? (i := 11) rfl)) rfl, by decide, by decide +kernel⟩
theorem li_X6_init : Cond.instanceMethod yX6_init ∈ lw_u := hp_mu (tb_2 (List.mem_of_getElem? (i := 15) rfl)) rfl
theorem lb_X11_status : hp_LB yX11_status cX11_status 1 (some .int) 0 := ⟨hp_mu (tm_2_9 (List.mem_of_getElem? (i := 5) rfl)) rfl, hp_mu (tb_1 (List.mem_of_getElem? (i := 1) rfl)) rfl, by decide, by decide +kernel⟩
theorem lv_X11_status : hp_LV yX11_status 12 := ⟨hp_mu (tm_2_9 (List.mem_of_getElem? (i := 3) rfl)) rfl, hp_mu (tm_2_9 (List.mem_of_getElem? (i := 4) rfl)) rfl, rfl, rfl, rfl⟩
theorem lb_X11_feed : hp_LB yX11_feed cX11_feed 6 (some .int) 5 := ⟨hp_mu (tm_2_9 (List.mem_of_getElem? (i := 9) rfl)) rfl, hp_mu (tb_1 (List.mem_of_getElem? (i := 1) rfl)) rfl, by decide, by decide +kernel⟩
theorem lv_X11_feed : hp_LV yX11_feed 12 := ⟨hp_mu (tm_2_9 (List.mem_of_getElem? (i := 7) rfl)) rfl, hp_mu (tm_2_9 (List.mem_of_getElem? (i := 8) rfl)) rfl, rfl, rfl, rfl⟩
theorem lb_X11_putOnTape : hp_LB yX11_putOnTape cX11_putOnTape 3 none 1 := ⟨hp_mu (tm_2_9 (List.mem_of_getElem? (i := 13) rfl)) rfl, hp_mu (tb_1 (List.mem_of_getElem? (i := 1) rfl)) rfl, by decide, by decide +kernel⟩
theorem lv_X11_putOnTape : hp_LV yX11_putOnTape 12 := ⟨hp_mu (tm_2_9 (List.mem_of_getElem? (i := 12) rfl)) rfl, hp_mu (tb_0 (List.mem_of_getElem? (i := 0) rfl)) rfl, rfl, rfl, rfl⟩
theorem lb_X11_load : hp_LB yX11_load cX11_load 4 (some .int) 1 := ⟨hp_mu (tm_2_10 (List.mem_of_getElem? (i := 1) rfl)) rfl, hp_mu (tb_1 (List.mem_of_getElem? (i := 1) rfl)) rfl, by decide, by decide +kernel⟩
theorem lv_X11_load : hp_LV yX11_load 12 := ⟨hp_mu (tm_2_9 (List.mem_of_getElem? (i := 15) rfl)) rfl, hp_mu (tm_2_10 (List.mem_of_getElem? (i := 0) rfl)) rfl, rfl, rfl, rfl⟩
theorem lb_X11_refuse : hp_LB yX11_refuse cX11_refuse 2 (some .int) 1 := ⟨hp_mu (tm_2_10 (List.mem_of_getElem? (i := 5) rfl)) rfl, hp_mu (tb_1 (List.mem_of_getElem? (i := 1) rfl)) rfl, by decide, by decide +kernel⟩
theorem lv_X11_refuse : hp_LV yX11_refuse 12 := ⟨hp_mu (tm_2_10 (List.mem_of_getElem? (i := 4) rfl)) rfl, hp_mu (tb_0 (List.mem_of_getElem? (i := 1) rfl)) rfl, rfl, rfl, rfl⟩
theorem lb_X10_renew : hp_LB yX10_renew cX10_renew 4 none 0 := ⟨hp_mu (tm_2_10 (List.mem_of_getElem? (i := 9) rfl)) rfl, hp_mu (tb_1 (List.mem_of_getElem? (i := 2) rfl)) rfl, by decide, by decide +kernel⟩
theorem lv_X10_renew : hp_LV yX10_renew 11 := ⟨hp_mu (tm_2_10 (List.mem_of_getElem? (i := 7) rfl)) rfl, hp_mu (tm_2_10 (List.mem_of_getElem? (i := 8) rfl)) rfl, rfl, rfl, rfl⟩
theorem lb_X10_logAt : hp_LB yX10_logAt cX10_logAt 2 (some (.object "ProvenRecord$Log")) 1 := ⟨hp_mu (tm_2_10 (List.mem_of_getElem? (i := 13) rfl)) rfl, hp_mu (tb_1 (List.mem_of_getElem? (i := 2) rfl)) rfl, by decide, by decide +kernel⟩
theorem lv_X10_logAt : hp_LV yX10_logAt 11 := ⟨hp_mu (tm_2_10 (List.mem_of_getElem? (i := 11) rfl)) rfl, hp_mu (tm_2_10 (List.mem_of_getElem? (i := 12) rfl)) rfl, rfl, rfl, rfl⟩
theorem lb_X10_watcherAt : hp_LB yX10_watcherAt cX10_watcherAt 2 (some (.object "ProvenRecord$Watcher")) 1 := ⟨hp_mu (tm_2_11 (List.mem_of_getElem? (i := 1) rfl)) rfl, hp_mu (tb_1 (List.mem_of_getElem? (i := 2) rfl)) rfl, by decide, by decide +kernel⟩
theorem lv_X10_watcherAt : hp_LV yX10_watcherAt 11 := ⟨hp_mu (tm_2_10 (List.mem_of_getElem? (i := 15) rfl)) rfl, hp_mu (tm_2_11 (List.mem_of_getElem? (i := 0) rfl)) rfl, rfl, rfl, rfl⟩
theorem lb_X7_renew : hp_LB yX7_renew cX7_renew 1 none 0 := ⟨hp_mu (tm_2_11 (List.mem_of_getElem? (i := 5) rfl)) rfl, hp_mu (tb_1 (List.mem_of_getElem? (i := 8) rfl)) rfl, by decide, by decide +kernel⟩
theorem lv_X7_renew : hp_LV yX7_renew 8 := ⟨hp_mu (tm_2_11 (List.mem_of_getElem? (i := 3) rfl)) rfl, hp_mu (tm_2_11 (List.mem_of_getElem? (i := 4) rfl)) rfl, rfl, rfl, rfl⟩
theorem lb_X7_trust : hp_LB yX7_trust cX7_trust 3 none 2 := ⟨hp_mu (tm_2_11 (List.mem_of_getElem? (i := 9) rfl)) rfl, hp_mu (tb_1 (List.mem_of_getElem? (i := 8) rfl)) rfl, by decide, by decide +kernel⟩
theorem lv_X7_trust : hp_LV yX7_trust 8 := ⟨hp_mu (tm_2_11 (List.mem_of_getElem? (i := 7) rfl)) rfl, hp_mu (tm_2_11 (List.mem_of_getElem? (i := 8) rfl)) rfl, rfl, rfl, rfl⟩
theorem lb_X11_loadLines : hp_LB yX11_loadLines cX11_loadLines 5 (some .boolean) 1 := ⟨hp_mu (tm_2_11 (List.mem_of_getElem? (i := 13) rfl)) rfl, hp_mu (tb_1 (List.mem_of_getElem? (i := 1) rfl)) rfl, by decide, by decide +kernel⟩
theorem lv_X11_loadLines : hp_LV yX11_loadLines 12 := ⟨hp_mu (tm_2_11 (List.mem_of_getElem? (i := 12) rfl)) rfl, hp_mu (tb_0 (List.mem_of_getElem? (i := 2) rfl)) rfl, rfl, rfl, rfl⟩
theorem lb_X3_begin : hp_LB yX3_begin cX3_begin 3 none 2 := ⟨hp_mu (tm_2_12 (List.mem_of_getElem? (i := 1) rfl)) rfl, hp_mu (tb_1 (List.mem_of_getElem? (i := 10) rfl)) rfl, by decide, by decide +kernel⟩
theorem lv_X3_begin : hp_LV yX3_begin 4 := ⟨hp_mu (tm_2_11 (List.mem_of_getElem? (i := 15) rfl)) rfl, hp_mu (tm_2_12 (List.mem_of_getElem? (i := 0) rfl)) rfl, rfl, rfl, rfl⟩
theorem lb_X6_begin : hp_LB yX6_begin cX6_begin 3 none 2 := ⟨hp_mu (tm_2_12 (List.mem_of_getElem? (i := 5) rfl)) rfl, hp_mu (tb_1 (List.mem_of_getElem? (i := 11) rfl)) rfl, by decide, by decide +kernel⟩
theorem lv_X6_begin : hp_LV yX6_begin 7 := ⟨hp_mu (tm_2_12 (List.mem_of_getElem? (i := 3) rfl)) rfl, hp_mu (tm_2_12 (List.mem_of_getElem? (i := 4) rfl)) rfl, rfl, rfl, rfl⟩
theorem lb_J9_min_7cf53 : hp_LB yJ9_min_7cf53 cJ9_min_7cf53 2 (some .int) 2 := ⟨hp_mu (tm_2_12 (List.mem_of_getElem? (i := 8) rfl)) rfl, hp_mu (tb_1 (List.mem_of_getElem? (i := 13) rfl)) rfl, by decide, by decide +kernel⟩
theorem ls_J9_min_7cf53 : Cond.static yJ9_min_7cf53 ∈ lw_u := hp_mu (tm_2_12 (List.mem_of_getElem? (i := 7) rfl)) rfl
theorem lb_J9_max_7cf53 : hp_LB yJ9_max_7cf53 cJ9_max_7cf53 2 (some .int) 2 := ⟨hp_mu (tm_2_12 (List.mem_of_getElem? (i := 11) rfl)) rfl, hp_mu (tb_1 (List.mem_of_getElem? (i := 13) rfl)) rfl, by decide, by decide +kernel⟩
theorem ls_J9_max_7cf53 : Cond.static yJ9_max_7cf53 ∈ lw_u := hp_mu (tm_2_12 (List.mem_of_getElem? (i := 10) rfl)) rfl
theorem lb_X6_advance : hp_LB yX6_advance cX6_advance 2 none 0 := ⟨hp_mu (tm_2_12 (List.mem_of_getElem? (i := 15) rfl)) rfl, hp_mu (tb_1 (List.mem_of_getElem? (i := 11) rfl)) rfl, by decide, by decide +kernel⟩
theorem lv_X6_advance : hp_LV yX6_advance 7 := ⟨hp_mu (tm_2_12 (List.mem_of_getElem? (i := 13) rfl)) rfl, hp_mu (tm_2_12 (List.mem_of_getElem? (i := 14) rfl)) rfl, rfl, rfl, rfl⟩
theorem lb_X6_byteAt : hp_LB yX6_byteAt cX6_byteAt 2 (some .int) 1 := ⟨hp_mu (tm_2_13 (List.mem_of_getElem? (i := 3) rfl)) rfl, hp_mu (tb_1 (List.mem_of_getElem? (i := 11) rfl)) rfl, by decide, by decide +kernel⟩
theorem lv_X6_byteAt : hp_LV yX6_byteAt 7 := ⟨hp_mu (tm_2_13 (List.mem_of_getElem? (i := 2) rfl)) rfl, hp_mu (tb_0 (List.mem_of_getElem? (i := 3) rfl)) rfl, rfl, rfl, rfl⟩
theorem lb_X6_isBlank : hp_LB yX6_isBlank cX6_isBlank 1 (some .boolean) 1 := ⟨hp_mu (tm_2_13 (List.mem_of_getElem? (i := 6) rfl)) rfl, hp_mu (tb_1 (List.mem_of_getElem? (i := 11) rfl)) rfl, by decide, by decide +kernel⟩
theorem ls_X6_isBlank : Cond.static yX6_isBlank ∈ lw_u := hp_mu (tm_2_13 (List.mem_of_getElem? (i := 5) rfl)) rfl
theorem lb_X6_kindOf : hp_LB yX6_kindOf cX6_kindOf 1 (some .int) 1 := ⟨hp_mu (tm_2_13 (List.mem_of_getElem? (i := 9) rfl)) rfl, hp_mu (tb_1 (List.mem_of_getElem? (i := 11) rfl)) rfl, by decide, by decide +kernel⟩
theorem ls_X6_kindOf : Cond.static yX6_kindOf ∈ lw_u := hp_mu (tm_2_13 (List.mem_of_getElem? (i := 8) rfl)) rfl
theorem lb_X3_readModulus : hp_LB yX3_readModulus cX3_readModulus 2 (some .boolean) 1 := ⟨hp_mu (tm_2_13 (List.mem_of_getElem? (i := 13) rfl)) rfl, hp_mu (tb_1 (List.mem_of_getElem? (i := 10) rfl)) rfl, by decide, by decide +kernel⟩
theorem lv_X3_readModulus : hp_LV yX3_readModulus 4 := ⟨hp_mu (tm_2_13 (List.mem_of_getElem? (i := 11) rfl)) rfl, hp_mu (tm_2_13 (List.mem_of_getElem? (i := 12) rfl)) rfl, rfl, rfl, rfl⟩
theorem lb_X6_spells : hp_LB yX6_spells cX6_spells 4 (some .boolean) 1 := ⟨hp_mu (tm_2_14 (List.mem_of_getElem? (i := 2) rfl)) rfl, hp_mu (tb_1 (List.mem_of_getElem? (i := 11) rfl)) rfl, by decide, by decide +kernel⟩
theorem lv_X6_spells : hp_LV yX6_spells 7 := ⟨hp_mu (tm_2_14 (List.mem_of_getElem? (i := 0) rfl)) rfl, hp_mu (tm_2_14 (List.mem_of_getElem? (i := 1) rfl)) rfl, rfl, rfl, rfl⟩
theorem lb_J0_length_8abf5 : hp_LB yJ0_length_8abf5 cJ0_length_8abf5 1 (some .int) 0 := ⟨hp_mu (tm_2_14 (List.mem_of_getElem? (i := 6) rfl)) rfl, hp_mu (tb_1 (List.mem_of_getElem? (i := 14) rfl)) rfl, by decide, by decide +kernel⟩
theorem li_J0_length_8abf5 : Cond.instanceMethod yJ0_length_8abf5 ∈ lw_u := hp_mu (tm_2_14 (List.mem_of_getElem? (i := 4) rfl)) rfl
theorem lb_J0_coder_7d493 : hp_LB yJ0_coder_7d493 cJ0_coder_7d493 1 (some .byte) 0 := ⟨hp_mu (tm_2_14 (List.mem_of_getElem? (i := 10) rfl)) rfl, hp_mu (tb_1 (List.mem_of_getElem? (i := 14) rfl)) rfl, by decide, by decide +kernel⟩
theorem li_J0_coder_7d493 : Cond.instanceMethod yJ0_coder_7d493 ∈ lw_u := hp_mu (tm_2_14 (List.mem_of_getElem? (i := 8) rfl)) rfl
theorem lb_J0_charAt_5068e : hp_LB yJ0_charAt_5068e cJ0_charAt_5068e 2 (some .char) 1 := ⟨hp_mu (tb_3 (List.mem_of_getElem? (i := 0) rfl)) rfl, hp_mu (tb_1 (List.mem_of_getElem? (i := 14) rfl)) rfl, by decide, by decide +kernel⟩
theorem li_J0_charAt_5068e : Cond.instanceMethod yJ0_charAt_5068e ∈ lw_u := hp_mu (tm_2_14 (List.mem_of_getElem? (i := 14) rfl)) rfl
theorem lb_J0_isLatin1_aae02 : hp_LB yJ0_isLatin1_aae02 cJ0_isLatin1_aae02 1 (some .boolean) 0 := ⟨hp_mu (tb_3 (List.mem_of_getElem? (i := 4) rfl)) rfl, hp_mu (tb_1 (List.mem_of_getElem? (i := 14) rfl)) rfl, by decide, by decide +kernel⟩
theorem li_J0_isLatin1_aae02 : Cond.instanceMethod yJ0_isLatin1_aae02 ∈ lw_u := hp_mu (tb_3 (List.mem_of_getElem? (i := 2) rfl)) rfl
theorem lb_J1_charAt_3b067 : hp_LB yJ1_charAt_3b067 cJ1_charAt_3b067 2 (some .char) 2 := ⟨hp_mu (tb_3 (List.mem_of_getElem? (i := 7) rfl)) rfl, hp_mu (tb_1 (List.mem_of_getElem? (i := 15) rfl)) rfl, by decide, by decide +kernel⟩
theorem ls_J1_charAt_3b067 : Cond.static yJ1_charAt_3b067 ∈ lw_u := hp_mu (tb_3 (List.mem_of_getElem? (i := 6) rfl)) rfl
theorem lb_J0_checkIndex_df160 : hp_LB yJ0_checkIndex_df160 cJ0_checkIndex_df160 2 none 2 := ⟨hp_mu (tb_3 (List.mem_of_getElem? (i := 10) rfl)) rfl, hp_mu (tb_1 (List.mem_of_getElem? (i := 14) rfl)) rfl, by decide, by decide +kernel⟩
theorem ls_J0_checkIndex_df160 : Cond.static yJ0_checkIndex_df160 ∈ lw_u := hp_mu (tb_3 (List.mem_of_getElem? (i := 9) rfl)) rfl
theorem lb_J3_checkIndex_8e157 : hp_LB yJ3_checkIndex_8e157 cJ3_checkIndex_8e157 3 (some .int) 3 := ⟨hp_mu (tb_3 (List.mem_of_getElem? (i := 15) rfl)) rfl, hp_mu (tm_1_1 (List.mem_of_getElem? (i := 0) rfl)) rfl, by decide, by decide +kernel⟩
theorem ls_J3_checkIndex_8e157 : Cond.static yJ3_checkIndex_8e157 ∈ lw_u := hp_mu (tb_3 (List.mem_of_getElem? (i := 14) rfl)) rfl
theorem lb_X3_readNumber : hp_LB yX3_readNumber cX3_readNumber 3 (some .boolean) 2 := ⟨hp_mu (tm_3_2 (List.mem_of_getElem? (i := 6) rfl)) rfl, hp_mu (tb_1 (List.mem_of_getElem? (i := 10) rfl)) rfl, by decide, by decide +kernel⟩
theorem lv_X3_readNumber : hp_LV yX3_readNumber 4 := ⟨hp_mu (tm_3_2 (List.mem_of_getElem? (i := 5) rfl)) rfl, hp_mu (tb_0 (List.mem_of_getElem? (i := 4) rfl)) rfl, rfl, rfl, rfl⟩
theorem lb_X3_stray : hp_LB yX3_stray cX3_stray 1 (some .boolean) 0 := ⟨hp_mu (tm_3_2 (List.mem_of_getElem? (i := 10) rfl)) rfl, hp_mu (tb_1 (List.mem_of_getElem? (i := 10) rfl)) rfl, by decide, by decide +kernel⟩
theorem lv_X3_stray : hp_LV yX3_stray 4 := ⟨hp_mu (tm_3_2 (List.mem_of_getElem? (i := 9) rfl)) rfl, hp_mu (tb_0 (List.mem_of_getElem? (i := 5) rfl)) rfl, rfl, rfl, rfl⟩
theorem lb_X3_fail : hp_LB yX3_fail cX3_fail 2 (some .boolean) 1 := ⟨hp_mu (tm_3_2 (List.mem_of_getElem? (i := 14) rfl)) rfl, hp_mu (tb_1 (List.mem_of_getElem? (i := 10) rfl)) rfl, by decide, by decide +kernel⟩
theorem lv_X3_fail : hp_LV yX3_fail 4 := ⟨hp_mu (tm_3_2 (List.mem_of_getElem? (i := 13) rfl)) rfl, hp_mu (tb_0 (List.mem_of_getElem? (i := 6) rfl)) rfl, rfl, rfl, rfl⟩
theorem lb_X3_readSign : hp_LB yX3_readSign cX3_readSign 1 (some .boolean) 0 := ⟨hp_mu (tm_3_3 (List.mem_of_getElem? (i := 2) rfl)) rfl, hp_mu (tb_1 (List.mem_of_getElem? (i := 10) rfl)) rfl, by decide, by decide +kernel⟩
theorem lv_X3_readSign : hp_LV yX3_readSign 4 := ⟨hp_mu (tm_3_3 (List.mem_of_getElem? (i := 1) rfl)) rfl, hp_mu (tb_0 (List.mem_of_getElem? (i := 7) rfl)) rfl, rfl, rfl, rfl⟩
theorem lb_X3_isAtEnd : hp_LB yX3_isAtEnd cX3_isAtEnd 1 (some .boolean) 0 := ⟨hp_mu (tm_3_3 (List.mem_of_getElem? (i := 6) rfl)) rfl, hp_mu (tb_1 (List.mem_of_getElem? (i := 10) rfl)) rfl, by decide, by decide +kernel⟩
theorem lv_X3_isAtEnd : hp_LV yX3_isAtEnd 4 := ⟨hp_mu (tm_3_3 (List.mem_of_getElem? (i := 4) rfl)) rfl, hp_mu (tm_3_3 (List.mem_of_getElem? (i := 5) rfl)) rfl, rfl, rfl, rfl⟩
theorem lb_X3_readLine : hp_LB yX3_readLine cX3_readLine 4 (some .boolean) 2 := ⟨hp_mu (tm_3_3 (List.mem_of_getElem? (i := 11) rfl)) rfl, hp_mu (tb_1 (List.mem_of_getElem? (i := 10) rfl)) rfl, by decide, by decide +kernel⟩
theorem lv_X3_readLine : hp_LV yX3_readLine 4 := ⟨hp_mu (tm_3_3 (List.mem_of_getElem? (i := 9) rfl)) rfl, hp_mu (tm_3_3 (List.mem_of_getElem? (i := 10) rfl)) rfl, rfl, rfl, rfl⟩
theorem lb_X3_readAdd : hp_LB yX3_readAdd cX3_readAdd 2 (some .boolean) 1 := ⟨hp_mu (tm_3_4 (List.mem_of_getElem? (i := 0) rfl)) rfl, hp_mu (tb_1 (List.mem_of_getElem? (i := 10) rfl)) rfl, by decide, by decide +kernel⟩
theorem lv_X3_readAdd : hp_LV yX3_readAdd 4 := ⟨hp_mu (tm_3_3 (List.mem_of_getElem? (i := 15) rfl)) rfl, hp_mu (tb_0 (List.mem_of_getElem? (i := 8) rfl)) rfl, rfl, rfl, rfl⟩
theorem lb_X3_hasRoom : hp_LB yX3_hasRoom cX3_hasRoom 3 (some .boolean) 2 := ⟨hp_mu (tm_3_4 (List.mem_of_getElem? (i := 4) rfl)) rfl, hp_mu (tb_1 (List.mem_of_getElem? (i := 10) rfl)) rfl, by decide, by decide +kernel⟩
theorem lv_X3_hasRoom : hp_LV yX3_hasRoom 4 := ⟨hp_mu (tm_3_4 (List.mem_of_getElem? (i := 3) rfl)) rfl, hp_mu (tb_0 (List.mem_of_getElem? (i := 9) rfl)) rfl, rfl, rfl, rfl⟩
theorem lb_X9_clear : hp_LB yX9_clear cX9_clear 1 none 0 := ⟨hp_mu (tm_3_4 (List.mem_of_getElem? (i := 8) rfl)) rfl, hp_mu (tb_1 (List.mem_of_getElem? (i := 6) rfl)) rfl, by decide, by decide +kernel⟩
theorem lv_X9_clear : hp_LV yX9_clear 10 := ⟨hp_mu (tm_3_4 (List.mem_of_getElem? (i := 6) rfl)) rfl, hp_mu (tm_3_4 (List.mem_of_getElem? (i := 7) rfl)) rfl, rfl, rfl, rfl⟩
theorem lb_X6_copyWord : hp_LB yX6_copyWord cX6_copyWord 3 none 1 := ⟨hp_mu (tm_3_4 (List.mem_of_getElem? (i := 12) rfl)) rfl, hp_mu (tb_1 (List.mem_of_getElem? (i := 11) rfl)) rfl, by decide, by decide +kernel⟩
theorem lv_X6_copyWord : hp_LV yX6_copyWord 7 := ⟨hp_mu (tm_3_4 (List.mem_of_getElem? (i := 10) rfl)) rfl, hp_mu (tm_3_4 (List.mem_of_getElem? (i := 11) rfl)) rfl, rfl, rfl, rfl⟩
theorem lb_X9_put : hp_LB yX9_put cX9_put 2 none 1 := ⟨hp_mu (tm_3_5 (List.mem_of_getElem? (i := 1) rfl)) rfl, hp_mu (tb_1 (List.mem_of_getElem? (i := 6) rfl)) rfl, by decide, by decide +kernel⟩
theorem lv_X9_put : hp_LV yX9_put 10 := ⟨hp_mu (tm_3_4 (List.mem_of_getElem? (i := 15) rfl)) rfl, hp_mu (tm_3_5 (List.mem_of_getElem? (i := 0) rfl)) rfl, rfl, rfl, rfl⟩
theorem lb_X3_readShow : hp_LB yX3_readShow cX3_readShow 2 (some .boolean) 1 := ⟨hp_mu (tm_3_5 (List.mem_of_getElem? (i := 9) rfl)) rfl, hp_mu (tb_1 (List.mem_of_getElem? (i := 10) rfl)) rfl, by decide, by decide +kernel⟩
theorem lv_X3_readShow : hp_LV yX3_readShow 4 := ⟨hp_mu (tm_3_5 (List.mem_of_getElem? (i := 8) rfl)) rfl, hp_mu (tb_0 (List.mem_of_getElem? (i := 10) rfl)) rfl, rfl, rfl, rfl⟩
theorem lb_X10_addWord : hp_LB yX10_addWord cX10_addWord 3 none 2 := ⟨hp_mu (tm_3_5 (List.mem_of_getElem? (i := 13) rfl)) rfl, hp_mu (tb_1 (List.mem_of_getElem? (i := 2) rfl)) rfl, by decide, by decide +kernel⟩
theorem lv_X10_addWord : hp_LV yX10_addWord 11 := ⟨hp_mu (tm_3_5 (List.mem_of_getElem? (i := 11) rfl)) rfl, hp_mu (tm_3_5 (List.mem_of_getElem? (i := 12) rfl)) rfl, rfl, rfl, rfl⟩
theorem lb_X2_putWord : hp_LB yX2_putWord cX2_putWord 3 none 2 := ⟨hp_mu (tm_3_6 (List.mem_of_getElem? (i := 1) rfl)) rfl, hp_mu (tb_1 (List.mem_of_getElem? (i := 5) rfl)) rfl, by decide, by decide +kernel⟩
theorem lv_X2_putWord : hp_LV yX2_putWord 3 := ⟨hp_mu (tm_3_5 (List.mem_of_getElem? (i := 15) rfl)) rfl, hp_mu (tm_3_6 (List.mem_of_getElem? (i := 0) rfl)) rfl, rfl, rfl, rfl⟩
theorem lb_X9_copy : hp_LB yX9_copy cX9_copy 3 none 1 := ⟨hp_mu (tm_3_6 (List.mem_of_getElem? (i := 5) rfl)) rfl, hp_mu (tb_1 (List.mem_of_getElem? (i := 6) rfl)) rfl, by decide, by decide +kernel⟩
theorem lv_X9_copy : hp_LV yX9_copy 10 := ⟨hp_mu (tm_3_6 (List.mem_of_getElem? (i := 3) rfl)) rfl, hp_mu (tm_3_6 (List.mem_of_getElem? (i := 4) rfl)) rfl, rfl, rfl, rfl⟩
theorem lb_X9_letterAt : hp_LB yX9_letterAt cX9_letterAt 2 (some .int) 1 := ⟨hp_mu (tm_3_6 (List.mem_of_getElem? (i := 10) rfl)) rfl, hp_mu (tb_1 (List.mem_of_getElem? (i := 6) rfl)) rfl, by decide, by decide +kernel⟩
theorem lv_X9_letterAt : hp_LV yX9_letterAt 10 := ⟨hp_mu (tm_3_6 (List.mem_of_getElem? (i := 8) rfl)) rfl, hp_mu (tm_3_6 (List.mem_of_getElem? (i := 9) rfl)) rfl, rfl, rfl, rfl⟩
theorem lb_X9_markBy : hp_LB yX9_markBy cX9_markBy 4 (some .int) 1 := ⟨hp_mu (tm_3_6 (List.mem_of_getElem? (i := 15) rfl)) rfl, hp_mu (tb_1 (List.mem_of_getElem? (i := 6) rfl)) rfl, by decide, by decide +kernel⟩
theorem lv_X9_markBy : hp_LV yX9_markBy 10 := ⟨hp_mu (tm_3_6 (List.mem_of_getElem? (i := 13) rfl)) rfl, hp_mu (tm_3_6 (List.mem_of_getElem? (i := 14) rfl)) rfl, rfl, rfl, rfl⟩
theorem lb_X11_mixed : hp_LB yX11_mixed cX11_mixed 3 (some .int) 3 := ⟨hp_mu (tm_3_7 (List.mem_of_getElem? (i := 2) rfl)) rfl, hp_mu (tb_1 (List.mem_of_getElem? (i := 1) rfl)) rfl, by decide, by decide +kernel⟩
theorem ls_X11_mixed : Cond.static yX11_mixed ∈ lw_u := hp_mu (tm_3_7 (List.mem_of_getElem? (i := 1) rfl)) rfl
theorem lb_X10_forkLog : hp_LB yX10_forkLog cX10_forkLog 6 (some .int) 2 := ⟨hp_mu (tm_3_7 (List.mem_of_getElem? (i := 8) rfl)) rfl, hp_mu (tb_1 (List.mem_of_getElem? (i := 2) rfl)) rfl, by decide, by decide +kernel⟩
theorem lv_X10_forkLog : hp_LV yX10_forkLog 11 := ⟨hp_mu (tm_3_7 (List.mem_of_getElem? (i := 6) rfl)) rfl, hp_mu (tm_3_7 (List.mem_of_getElem? (i := 7) rfl)) rfl, rfl, rfl, rfl⟩
theorem lb_X2_wordAt : hp_LB yX2_wordAt cX2_wordAt 2 (some (.object "ProvenRecord$Word")) 1 := ⟨hp_mu (tm_3_7 (List.mem_of_getElem? (i := 12) rfl)) rfl, hp_mu (tb_1 (List.mem_of_getElem? (i := 5) rfl)) rfl, by decide, by decide +kernel⟩
theorem lv_X2_wordAt : hp_LV yX2_wordAt 3 := ⟨hp_mu (tm_3_7 (List.mem_of_getElem? (i := 10) rfl)) rfl, hp_mu (tm_3_7 (List.mem_of_getElem? (i := 11) rfl)) rfl, rfl, rfl, rfl⟩
theorem lb_X10_freezeHead : hp_LB yX10_freezeHead cX10_freezeHead 4 (some .int) 1 := ⟨hp_mu (tm_3_8 (List.mem_of_getElem? (i := 0) rfl)) rfl, hp_mu (tb_1 (List.mem_of_getElem? (i := 2) rfl)) rfl, by decide, by decide +kernel⟩
theorem lv_X10_freezeHead : hp_LV yX10_freezeHead 11 := ⟨hp_mu (tm_3_7 (List.mem_of_getElem? (i := 14) rfl)) rfl, hp_mu (tm_3_7 (List.mem_of_getElem? (i := 15) rfl)) rfl, rfl, rfl, rfl⟩
theorem lb_X10_headOf : hp_LB yX10_headOf cX10_headOf 3 (some .int) 2 := ⟨hp_mu (tm_3_8 (List.mem_of_getElem? (i := 4) rfl)) rfl, hp_mu (tb_1 (List.mem_of_getElem? (i := 2) rfl)) rfl, by decide, by decide +kernel⟩
theorem lv_X10_headOf : hp_LV yX10_headOf 11 := ⟨hp_mu (tm_3_8 (List.mem_of_getElem? (i := 2) rfl)) rfl, hp_mu (tm_3_8 (List.mem_of_getElem? (i := 3) rfl)) rfl, rfl, rfl, rfl⟩
theorem lb_X10_treeMark : hp_LB yX10_treeMark cX10_treeMark 8 (some .int) 3 := ⟨hp_mu (tm_3_8 (List.mem_of_getElem? (i := 8) rfl)) rfl, hp_mu (tb_1 (List.mem_of_getElem? (i := 2) rfl)) rfl, by decide, by decide +kernel⟩
theorem lv_X10_treeMark : hp_LV yX10_treeMark 11 := ⟨hp_mu (tm_3_8 (List.mem_of_getElem? (i := 6) rfl)) rfl, hp_mu (tm_3_8 (List.mem_of_getElem? (i := 7) rfl)) rfl, rfl, rfl, rfl⟩
theorem lb_X2_markAt : hp_LB yX2_markAt cX2_markAt 2 (some .int) 1 := ⟨hp_mu (tm_3_8 (List.mem_of_getElem? (i := 13) rfl)) rfl, hp_mu (tb_1 (List.mem_of_getElem? (i := 5) rfl)) rfl, by decide, by decide +kernel⟩
theorem lv_X2_markAt : hp_LV yX2_markAt 3 := ⟨hp_mu (tm_3_8 (List.mem_of_getElem? (i := 11) rfl)) rfl, hp_mu (tm_3_8 (List.mem_of_getElem? (i := 12) rfl)) rfl, rfl, rfl, rfl⟩
theorem lb_X11_markOfTwo : hp_LB yX11_markOfTwo cX11_markOfTwo 5 (some .int) 3 := ⟨hp_mu (tm_3_9 (List.mem_of_getElem? (i := 0) rfl)) rfl, hp_mu (tb_1 (List.mem_of_getElem? (i := 1) rfl)) rfl, by decide, by decide +kernel⟩
theorem ls_X11_markOfTwo : Cond.static yX11_markOfTwo ∈ lw_u := hp_mu (tm_3_8 (List.mem_of_getElem? (i := 15) rfl)) rfl
theorem lb_X10_peaksOf : hp_LB yX10_peaksOf cX10_peaksOf 6 none 3 := ⟨hp_mu (tm_3_9 (List.mem_of_getElem? (i := 5) rfl)) rfl, hp_mu (tb_1 (List.mem_of_getElem? (i := 2) rfl)) rfl, by decide, by decide +kernel⟩
theorem lv_X10_peaksOf : hp_LV yX10_peaksOf 11 := ⟨hp_mu (tm_3_9 (List.mem_of_getElem? (i := 3) rfl)) rfl, hp_mu (tm_3_9 (List.mem_of_getElem? (i := 4) rfl)) rfl, rfl, rfl, rfl⟩
theorem lb_X5_shorten : hp_LB yX5_shorten cX5_shorten 2 none 1 := ⟨hp_mu (tm_3_9 (List.mem_of_getElem? (i := 9) rfl)) rfl, hp_mu (tb_1 (List.mem_of_getElem? (i := 3) rfl)) rfl, by decide, by decide +kernel⟩
theorem lv_X5_shorten : hp_LV yX5_shorten 6 := ⟨hp_mu (tm_3_9 (List.mem_of_getElem? (i := 7) rfl)) rfl, hp_mu (tm_3_9 (List.mem_of_getElem? (i := 8) rfl)) rfl, rfl, rfl, rfl⟩
theorem lb_X5_put : hp_LB yX5_put cX5_put 2 none 1 := ⟨hp_mu (tm_3_9 (List.mem_of_getElem? (i := 13) rfl)) rfl, hp_mu (tb_1 (List.mem_of_getElem? (i := 3) rfl)) rfl, by decide, by decide +kernel⟩
theorem lv_X5_put : hp_LV yX5_put 6 := ⟨hp_mu (tm_3_9 (List.mem_of_getElem? (i := 11) rfl)) rfl, hp_mu (tm_3_9 (List.mem_of_getElem? (i := 12) rfl)) rfl, rfl, rfl, rfl⟩
theorem lb_X10_showTo : hp_LB yX10_showTo cX10_showTo 7 (some .int) 3 := ⟨hp_mu (tm_3_10 (List.mem_of_getElem? (i := 2) rfl)) rfl, hp_mu (tb_1 (List.mem_of_getElem? (i := 2) rfl)) rfl, by decide, by decide +kernel⟩
theorem lv_X10_showTo : hp_LV yX10_showTo 11 := ⟨hp_mu (tm_3_10 (List.mem_of_getElem? (i := 0) rfl)) rfl, hp_mu (tm_3_10 (List.mem_of_getElem? (i := 1) rfl)) rfl, rfl, rfl, rfl⟩
theorem lb_X10_whyGrown : hp_LB yX10_whyGrown cX10_whyGrown 6 (some .int) 5 := ⟨hp_mu (tm_3_10 (List.mem_of_getElem? (i := 6) rfl)) rfl, hp_mu (tb_1 (List.mem_of_getElem? (i := 2) rfl)) rfl, by decide, by decide +kernel⟩
theorem lv_X10_whyGrown : hp_LV yX10_whyGrown 11 := ⟨hp_mu (tm_3_10 (List.mem_of_getElem? (i := 4) rfl)) rfl, hp_mu (tm_3_10 (List.mem_of_getElem? (i := 5) rfl)) rfl, rfl, rfl, rfl⟩
theorem lb_X8_toGrowth : hp_LB yX8_toGrowth cX8_toGrowth 8 none 2 := ⟨hp_mu (tm_3_10 (List.mem_of_getElem? (i := 10) rfl)) rfl, hp_mu (tb_1 (List.mem_of_getElem? (i := 4) rfl)) rfl, by decide, by decide +kernel⟩
theorem lv_X8_toGrowth : hp_LV yX8_toGrowth 9 := ⟨hp_mu (tm_3_10 (List.mem_of_getElem? (i := 8) rfl)) rfl, hp_mu (tm_3_10 (List.mem_of_getElem? (i := 9) rfl)) rfl, rfl, rfl, rfl⟩
theorem lb_X8_clear : hp_LB yX8_clear cX8_clear 1 none 0 := ⟨hp_mu (tm_3_10 (List.mem_of_getElem? (i := 14) rfl)) rfl, hp_mu (tb_1 (List.mem_of_getElem? (i := 4) rfl)) rfl, by decide, by decide +kernel⟩
theorem lv_X8_clear : hp_LV yX8_clear 9 := ⟨hp_mu (tm_3_10 (List.mem_of_getElem? (i := 13) rfl)) rfl, hp_mu (tb_0 (List.mem_of_getElem? (i := 11) rfl)) rfl, rfl, rfl, rfl⟩
theorem lb_X11_firstPartOf : hp_LB yX11_firstPartOf cX11_firstPartOf 1 (some .int) 1 := ⟨hp_mu (tm_3_11 (List.mem_of_getElem? (i := 1) rfl)) rfl, hp_mu (tb_1 (List.mem_of_getElem? (i := 1) rfl)) rfl, by decide, by decide +kernel⟩
theorem ls_X11_firstPartOf : Cond.static yX11_firstPartOf ∈ lw_u := hp_mu (tm_3_11 (List.mem_of_getElem? (i := 0) rfl)) rfl
theorem lb_J6_highestOneBit_0f7a4 : hp_LB yJ6_highestOneBit_0f7a4 cJ6_highestOneBit_0f7a4 1 (some .int) 1 := ⟨hp_mu (tm_3_11 (List.mem_of_getElem? (i := 4) rfl)) rfl, hp_mu (tm_1_1 (List.mem_of_getElem? (i := 2) rfl)) rfl, by decide, by decide +kernel⟩
theorem ls_J6_highestOneBit_0f7a4 : Cond.static yJ6_highestOneBit_0f7a4 ∈ lw_u := hp_mu (tm_3_11 (List.mem_of_getElem? (i := 3) rfl)) rfl
theorem lb_J6_numberOfLeadingZeros_0f7a4 : hp_LB yJ6_numberOfLeadingZeros_0f7a4 cJ6_numberOfLeadingZeros_0f7a4 2 (some .int) 1 := ⟨hp_mu (tm_3_11 (List.mem_of_getElem? (i := 8) rfl)) rfl, hp_mu (tm_1_1 (List.mem_of_getElem? (i := 2) rfl)) rfl, by decide, by decide +kernel⟩
theorem ls_J6_numberOfLeadingZeros_0f7a4 : Cond.static yJ6_numberOfLeadingZeros_0f7a4 ∈ lw_u := hp_mu (tm_3_11 (List.mem_of_getElem? (i := 7) rfl)) rfl
theorem lb_X8_put : hp_LB yX8_put cX8_put 4 none 3 := ⟨hp_mu (tm_3_11 (List.mem_of_getElem? (i := 13) rfl)) rfl, hp_mu (tb_1 (List.mem_of_getElem? (i := 4) rfl)) rfl, by decide, by decide +kernel⟩
theorem lv_X8_put : hp_LV yX8_put 9 := ⟨hp_mu (tm_3_11 (List.mem_of_getElem? (i := 12) rfl)) rfl, hp_mu (tb_0 (List.mem_of_getElem? (i := 12) rfl)) rfl, rfl, rfl, rfl⟩
theorem lb_X8_turnRound : hp_LB yX8_turnRound cX8_turnRound 6 none 0 := ⟨hp_mu (tm_3_12 (List.mem_of_getElem? (i := 1) rfl)) rfl, hp_mu (tb_1 (List.mem_of_getElem? (i := 4) rfl)) rfl, by decide, by decide +kernel⟩
theorem lv_X8_turnRound : hp_LV yX8_turnRound 9 := ⟨hp_mu (tm_3_12 (List.mem_of_getElem? (i := 0) rfl)) rfl, hp_mu (tb_0 (List.mem_of_getElem? (i := 13) rfl)) rfl, rfl, rfl, rfl⟩
theorem lb_X10_marksAlong : hp_LB yX10_marksAlong cX10_marksAlong 5 none 3 := ⟨hp_mu (tm_3_12 (List.mem_of_getElem? (i := 5) rfl)) rfl, hp_mu (tb_1 (List.mem_of_getElem? (i := 2) rfl)) rfl, by decide, by decide +kernel⟩
theorem lv_X10_marksAlong : hp_LV yX10_marksAlong 11 := ⟨hp_mu (tm_3_12 (List.mem_of_getElem? (i := 3) rfl)) rfl, hp_mu (tm_3_12 (List.mem_of_getElem? (i := 4) rfl)) rfl, rfl, rfl, rfl⟩
theorem lb_X8_firstAt : hp_LB yX8_firstAt cX8_firstAt 2 (some .int) 1 := ⟨hp_mu (tm_3_12 (List.mem_of_getElem? (i := 9) rfl)) rfl, hp_mu (tb_1 (List.mem_of_getElem? (i := 4) rfl)) rfl, by decide, by decide +kernel⟩
theorem lv_X8_firstAt : hp_LV yX8_firstAt 9 := ⟨hp_mu (tm_3_12 (List.mem_of_getElem? (i := 7) rfl)) rfl, hp_mu (tm_3_12 (List.mem_of_getElem? (i := 8) rfl)) rfl, rfl, rfl, rfl⟩
theorem lb_X8_manyAt : hp_LB yX8_manyAt cX8_manyAt 2 (some .int) 1 := ⟨hp_mu (tm_3_12 (List.mem_of_getElem? (i := 13) rfl)) rfl, hp_mu (tb_1 (List.mem_of_getElem? (i := 4) rfl)) rfl, by decide, by decide +kernel⟩
theorem lv_X8_manyAt : hp_LV yX8_manyAt 9 := ⟨hp_mu (tm_3_12 (List.mem_of_getElem? (i := 11) rfl)) rfl, hp_mu (tm_3_12 (List.mem_of_getElem? (i := 12) rfl)) rfl, rfl, rfl, rfl⟩
theorem lb_X8_whyGrowth : hp_LB yX8_whyGrowth cX8_whyGrowth 10 (some .int) 6 := ⟨hp_mu (tm_3_13 (List.mem_of_getElem? (i := 1) rfl)) rfl, hp_mu (tb_1 (List.mem_of_getElem? (i := 4) rfl)) rfl, by decide, by decide +kernel⟩
theorem lv_X8_whyGrowth : hp_LV yX8_whyGrowth 9 := ⟨hp_mu (tm_3_12 (List.mem_of_getElem? (i := 15) rfl)) rfl, hp_mu (tm_3_13 (List.mem_of_getElem? (i := 0) rfl)) rfl, rfl, rfl, rfl⟩
theorem lb_X5_at : hp_LB yX5_at cX5_at 2 (some .int) 1 := ⟨hp_mu (tm_3_13 (List.mem_of_getElem? (i := 6) rfl)) rfl, hp_mu (tb_1 (List.mem_of_getElem? (i := 3) rfl)) rfl, by decide, by decide +kernel⟩
theorem lv_X5_at : hp_LV yX5_at 6 := ⟨hp_mu (tm_3_13 (List.mem_of_getElem? (i := 4) rfl)) rfl, hp_mu (tm_3_13 (List.mem_of_getElem? (i := 5) rfl)) rfl, rfl, rfl, rfl⟩
theorem lb_X8_joined : hp_LB yX8_joined cX8_joined 5 (some .int) 4 := ⟨hp_mu (tm_3_13 (List.mem_of_getElem? (i := 10) rfl)) rfl, hp_mu (tb_1 (List.mem_of_getElem? (i := 4) rfl)) rfl, by decide, by decide +kernel⟩
theorem lv_X8_joined : hp_LV yX8_joined 9 := ⟨hp_mu (tm_3_13 (List.mem_of_getElem? (i := 8) rfl)) rfl, hp_mu (tm_3_13 (List.mem_of_getElem? (i := 9) rfl)) rfl, rfl, rfl, rfl⟩
theorem lb_X8_isAhead : hp_LB yX8_isAhead cX8_isAhead 2 (some .boolean) 1 := ⟨hp_mu (tm_3_13 (List.mem_of_getElem? (i := 14) rfl)) rfl, hp_mu (tb_1 (List.mem_of_getElem? (i := 4) rfl)) rfl, by decide, by decide +kernel⟩
theorem lv_X8_isAhead : hp_LV yX8_isAhead 9 := ⟨hp_mu (tm_3_13 (List.mem_of_getElem? (i := 12) rfl)) rfl, hp_mu (tm_3_13 (List.mem_of_getElem? (i := 13) rfl)) rfl, rfl, rfl, rfl⟩
theorem lb_X7_hearWhy : hp_LB yX7_hearWhy cX7_hearWhy 2 none 1 := ⟨hp_mu (tm_3_14 (List.mem_of_getElem? (i := 4) rfl)) rfl, hp_mu (tb_1 (List.mem_of_getElem? (i := 8) rfl)) rfl, by decide, by decide +kernel⟩
theorem lv_X7_hearWhy : hp_LV yX7_hearWhy 8 := ⟨hp_mu (tm_3_14 (List.mem_of_getElem? (i := 2) rfl)) rfl, hp_mu (tm_3_14 (List.mem_of_getElem? (i := 3) rfl)) rfl, rfl, rfl, rfl⟩
theorem lb_X11_answer : hp_LB yX11_answer cX11_answer 2 (some .int) 1 := ⟨hp_mu (tm_3_14 (List.mem_of_getElem? (i := 9) rfl)) rfl, hp_mu (tb_1 (List.mem_of_getElem? (i := 1) rfl)) rfl, by decide, by decide +kernel⟩
theorem lv_X11_answer : hp_LV yX11_answer 12 := ⟨hp_mu (tm_3_14 (List.mem_of_getElem? (i := 8) rfl)) rfl, hp_mu (tb_0 (List.mem_of_getElem? (i := 14) rfl)) rfl, rfl, rfl, rfl⟩
theorem lb_X11_hear : hp_LB yX11_hear cX11_hear 4 (some .int) 1 := ⟨hp_mu (tm_3_14 (List.mem_of_getElem? (i := 13) rfl)) rfl, hp_mu (tb_1 (List.mem_of_getElem? (i := 1) rfl)) rfl, by decide, by decide +kernel⟩
theorem lv_X11_hear : hp_LV yX11_hear 12 := ⟨hp_mu (tm_3_14 (List.mem_of_getElem? (i := 11) rfl)) rfl, hp_mu (tm_3_14 (List.mem_of_getElem? (i := 12) rfl)) rfl, rfl, rfl, rfl⟩
theorem lb_X3_readProofs : hp_LB yX3_readProofs cX3_readProofs 5 (some .boolean) 2 := ⟨hp_mu (tb_4 (List.mem_of_getElem? (i := 1) rfl)) rfl, hp_mu (tb_1 (List.mem_of_getElem? (i := 10) rfl)) rfl, by decide, by decide +kernel⟩
theorem lv_X3_readProofs : hp_LV yX3_readProofs 4 := ⟨hp_mu (tm_3_14 (List.mem_of_getElem? (i := 15) rfl)) rfl, hp_mu (tb_4 (List.mem_of_getElem? (i := 0) rfl)) rfl, rfl, rfl, rfl⟩
theorem lb_X3_readInclusion : hp_LB yX3_readInclusion cX3_readInclusion 5 (some .boolean) 1 := ⟨hp_mu (tb_4 (List.mem_of_getElem? (i := 9) rfl)) rfl, hp_mu (tb_1 (List.mem_of_getElem? (i := 10) rfl)) rfl, by decide, by decide +kernel⟩
theorem lv_X3_readInclusion : hp_LV yX3_readInclusion 4 := ⟨hp_mu (tb_4 (List.mem_of_getElem? (i := 8) rfl)) rfl, hp_mu (tb_0 (List.mem_of_getElem? (i := 15) rfl)) rfl, rfl, rfl, rfl⟩
theorem lb_X3_readWord : hp_LB yX3_readWord cX3_readWord 2 (some .boolean) 1 := ⟨hp_mu (tb_4 (List.mem_of_getElem? (i := 15) rfl)) rfl, hp_mu (tb_1 (List.mem_of_getElem? (i := 10) rfl)) rfl, by decide, by decide +kernel⟩
theorem lv_X3_readWord : hp_LV yX3_readWord 4 := ⟨hp_mu (tb_4 (List.mem_of_getElem? (i := 14) rfl)) rfl, hp_mu (tm_0_1 (List.mem_of_getElem? (i := 0) rfl)) rfl, rfl, rfl, rfl⟩
theorem lb_X3_readMark : hp_LB yX3_readMark cX3_readMark 2 (some .boolean) 1 := ⟨hp_mu (tm_4_1 (List.mem_of_getElem? (i := 4) rfl)) rfl, hp_mu (tb_1 (List.mem_of_getElem? (i := 10) rfl)) rfl, by decide, by decide +kernel⟩
theorem lv_X3_readMark : hp_LV yX3_readMark 4 := ⟨hp_mu (tm_4_1 (List.mem_of_getElem? (i := 3) rfl)) rfl, hp_mu (tm_0_1 (List.mem_of_getElem? (i := 1) rfl)) rfl, rfl, rfl, rfl⟩
theorem lb_X3_readRow : hp_LB yX3_readRow cX3_readRow 2 (some .boolean) 0 := ⟨hp_mu (tm_4_1 (List.mem_of_getElem? (i := 9) rfl)) rfl, hp_mu (tb_1 (List.mem_of_getElem? (i := 10) rfl)) rfl, by decide, by decide +kernel⟩
theorem lv_X3_readRow : hp_LV yX3_readRow 4 := ⟨hp_mu (tm_4_1 (List.mem_of_getElem? (i := 8) rfl)) rfl, hp_mu (tm_0_1 (List.mem_of_getElem? (i := 2) rfl)) rfl, rfl, rfl, rfl⟩
theorem lb_X8_toThing : hp_LB yX8_toThing cX8_toThing 7 none 2 := ⟨hp_mu (tm_4_1 (List.mem_of_getElem? (i := 15) rfl)) rfl, hp_mu (tb_1 (List.mem_of_getElem? (i := 4) rfl)) rfl, by decide, by decide +kernel⟩
theorem lv_X8_toThing : hp_LV yX8_toThing 9 := ⟨hp_mu (tm_4_1 (List.mem_of_getElem? (i := 13) rfl)) rfl, hp_mu (tm_4_1 (List.mem_of_getElem? (i := 14) rfl)) rfl, rfl, rfl, rfl⟩
theorem lb_X8_whyInclusion : hp_LB yX8_whyInclusion cX8_whyInclusion 5 (some .int) 4 := ⟨hp_mu (tm_4_2 (List.mem_of_getElem? (i := 3) rfl)) rfl, hp_mu (tb_1 (List.mem_of_getElem? (i := 4) rfl)) rfl, by decide, by decide +kernel⟩
theorem lv_X8_whyInclusion : hp_LV yX8_whyInclusion 9 := ⟨hp_mu (tm_4_2 (List.mem_of_getElem? (i := 1) rfl)) rfl, hp_mu (tm_4_2 (List.mem_of_getElem? (i := 2) rfl)) rfl, rfl, rfl, rfl⟩
theorem lb_X8_folded : hp_LB yX8_folded cX8_folded 7 (some .int) 4 := ⟨hp_mu (tm_4_2 (List.mem_of_getElem? (i := 7) rfl)) rfl, hp_mu (tb_1 (List.mem_of_getElem? (i := 4) rfl)) rfl, by decide, by decide +kernel⟩
theorem lv_X8_folded : hp_LV yX8_folded 9 := ⟨hp_mu (tm_4_2 (List.mem_of_getElem? (i := 5) rfl)) rfl, hp_mu (tm_4_2 (List.mem_of_getElem? (i := 6) rfl)) rfl, rfl, rfl, rfl⟩
theorem lb_X3_readGrowth : hp_LB yX3_readGrowth cX3_readGrowth 5 (some .boolean) 1 := ⟨hp_mu (tm_4_2 (List.mem_of_getElem? (i := 11) rfl)) rfl, hp_mu (tb_1 (List.mem_of_getElem? (i := 10) rfl)) rfl, by decide, by decide +kernel⟩
theorem lv_X3_readGrowth : hp_LV yX3_readGrowth 4 := ⟨hp_mu (tm_4_2 (List.mem_of_getElem? (i := 10) rfl)) rfl, hp_mu (tm_0_1 (List.mem_of_getElem? (i := 3) rfl)) rfl, rfl, rfl, rfl⟩
theorem lb_X5_countOf : hp_LB yX5_countOf cX5_countOf 4 (some .int) 1 := ⟨hp_mu (tm_4_3 (List.mem_of_getElem? (i := 0) rfl)) rfl, hp_mu (tb_1 (List.mem_of_getElem? (i := 3) rfl)) rfl, by decide, by decide +kernel⟩
theorem lv_X5_countOf : hp_LV yX5_countOf 6 := ⟨hp_mu (tm_4_2 (List.mem_of_getElem? (i := 14) rfl)) rfl, hp_mu (tm_4_2 (List.mem_of_getElem? (i := 15) rfl)) rfl, rfl, rfl, rfl⟩
theorem lb_X11_heard : hp_LB yX11_heard cX11_heard 2 (some .int) 1 := ⟨hp_mu (tm_4_3 (List.mem_of_getElem? (i := 5) rfl)) rfl, hp_mu (tb_1 (List.mem_of_getElem? (i := 1) rfl)) rfl, by decide, by decide +kernel⟩
theorem lv_X11_heard : hp_LV yX11_heard 12 := ⟨hp_mu (tm_4_3 (List.mem_of_getElem? (i := 3) rfl)) rfl, hp_mu (tm_4_3 (List.mem_of_getElem? (i := 4) rfl)) rfl, rfl, rfl, rfl⟩
theorem lb_X11_fault : hp_LB yX11_fault cX11_fault 2 (some .int) 1 := ⟨hp_mu (tm_4_3 (List.mem_of_getElem? (i := 10) rfl)) rfl, hp_mu (tb_1 (List.mem_of_getElem? (i := 1) rfl)) rfl, by decide, by decide +kernel⟩
theorem lv_X11_fault : hp_LV yX11_fault 12 := ⟨hp_mu (tm_4_3 (List.mem_of_getElem? (i := 8) rfl)) rfl, hp_mu (tm_4_3 (List.mem_of_getElem? (i := 9) rfl)) rfl, rfl, rfl, rfl⟩
theorem lb_X11_type : hp_LB yX11_type cX11_type 5 (some .int) 2 := ⟨hp_mu (tm_4_3 (List.mem_of_getElem? (i := 14) rfl)) rfl, hp_mu (tb_1 (List.mem_of_getElem? (i := 1) rfl)) rfl, by decide, by decide +kernel⟩
theorem lv_X11_type : hp_LV yX11_type 12 := ⟨hp_mu (tm_4_3 (List.mem_of_getElem? (i := 12) rfl)) rfl, hp_mu (tm_4_3 (List.mem_of_getElem? (i := 13) rfl)) rfl, rfl, rfl, rfl⟩
theorem lb_X11_many : hp_LB yX11_many cX11_many 2 (some .int) 1 := ⟨hp_mu (tm_4_4 (List.mem_of_getElem? (i := 4) rfl)) rfl, hp_mu (tb_1 (List.mem_of_getElem? (i := 1) rfl)) rfl, by decide, by decide +kernel⟩
theorem lv_X11_many : hp_LV yX11_many 12 := ⟨hp_mu (tm_4_4 (List.mem_of_getElem? (i := 2) rfl)) rfl, hp_mu (tm_4_4 (List.mem_of_getElem? (i := 3) rfl)) rfl, rfl, rfl, rfl⟩
theorem lb_X10_alarmedBits : hp_LB yX10_alarmedBits cX10_alarmedBits 4 (some .int) 0 := ⟨hp_mu (tm_4_4 (List.mem_of_getElem? (i := 8) rfl)) rfl, hp_mu (tb_1 (List.mem_of_getElem? (i := 2) rfl)) rfl, by decide, by decide +kernel⟩
theorem lv_X10_alarmedBits : hp_LV yX10_alarmedBits 11 := ⟨hp_mu (tm_4_4 (List.mem_of_getElem? (i := 6) rfl)) rfl, hp_mu (tm_4_4 (List.mem_of_getElem? (i := 7) rfl)) rfl, rfl, rfl, rfl⟩
theorem lb_X11_size : hp_LB yX11_size cX11_size 3 (some .int) 1 := ⟨hp_mu (tm_4_4 (List.mem_of_getElem? (i := 12) rfl)) rfl, hp_mu (tb_1 (List.mem_of_getElem? (i := 1) rfl)) rfl, by decide, by decide +kernel⟩
theorem lv_X11_size : hp_LV yX11_size 12 := ⟨hp_mu (tm_4_4 (List.mem_of_getElem? (i := 10) rfl)) rfl, hp_mu (tm_4_4 (List.mem_of_getElem? (i := 11) rfl)) rfl, rfl, rfl, rfl⟩
theorem lb_X11_entry : hp_LB yX11_entry cX11_entry 6 (some .int) 3 := ⟨hp_mu (tm_4_5 (List.mem_of_getElem? (i := 0) rfl)) rfl, hp_mu (tb_1 (List.mem_of_getElem? (i := 1) rfl)) rfl, by decide, by decide +kernel⟩
theorem lv_X11_entry : hp_LV yX11_entry 12 := ⟨hp_mu (tm_4_4 (List.mem_of_getElem? (i := 14) rfl)) rfl, hp_mu (tm_4_4 (List.mem_of_getElem? (i := 15) rfl)) rfl, rfl, rfl, rfl⟩
theorem lb_X11_head : hp_LB yX11_head cX11_head 5 (some .int) 2 := ⟨hp_mu (tm_4_5 (List.mem_of_getElem? (i := 7) rfl)) rfl, hp_mu (tb_1 (List.mem_of_getElem? (i := 1) rfl)) rfl, by decide, by decide +kernel⟩
theorem lv_X11_head : hp_LV yX11_head 12 := ⟨hp_mu (tm_4_5 (List.mem_of_getElem? (i := 5) rfl)) rfl, hp_mu (tm_4_5 (List.mem_of_getElem? (i := 6) rfl)) rfl, rfl, rfl, rfl⟩
theorem lb_X11_wrongGrowth : hp_LB yX11_wrongGrowth cX11_wrongGrowth 3 (some .int) 3 := ⟨hp_mu (tm_4_5 (List.mem_of_getElem? (i := 10) rfl)) rfl, hp_mu (tb_1 (List.mem_of_getElem? (i := 1) rfl)) rfl, by decide, by decide +kernel⟩
theorem ls_X11_wrongGrowth : Cond.static yX11_wrongGrowth ∈ lw_u := hp_mu (tm_4_5 (List.mem_of_getElem? (i := 9) rfl)) rfl
theorem lb_X11_join : hp_LB yX11_join cX11_join 3 (some .int) 2 := ⟨hp_mu (tm_4_5 (List.mem_of_getElem? (i := 15) rfl)) rfl, hp_mu (tb_1 (List.mem_of_getElem? (i := 1) rfl)) rfl, by decide, by decide +kernel⟩
theorem lv_X11_join : hp_LV yX11_join 12 := ⟨hp_mu (tm_4_5 (List.mem_of_getElem? (i := 13) rfl)) rfl, hp_mu (tm_4_5 (List.mem_of_getElem? (i := 14) rfl)) rfl, rfl, rfl, rfl⟩
theorem lb_X11_isMark : hp_LB yX11_isMark cX11_isMark 2 (some .boolean) 1 := ⟨hp_mu (tm_4_6 (List.mem_of_getElem? (i := 3) rfl)) rfl, hp_mu (tb_1 (List.mem_of_getElem? (i := 1) rfl)) rfl, by decide, by decide +kernel⟩
theorem lv_X11_isMark : hp_LV yX11_isMark 12 := ⟨hp_mu (tm_4_6 (List.mem_of_getElem? (i := 2) rfl)) rfl, hp_mu (tm_0_1 (List.mem_of_getElem? (i := 4) rfl)) rfl, rfl, rfl, rfl⟩
theorem lb_X11_mark : hp_LB yX11_mark cX11_mark 1 (some .int) 0 := ⟨hp_mu (tm_4_6 (List.mem_of_getElem? (i := 8) rfl)) rfl, hp_mu (tb_1 (List.mem_of_getElem? (i := 1) rfl)) rfl, by decide, by decide +kernel⟩
theorem lv_X11_mark : hp_LV yX11_mark 12 := ⟨hp_mu (tm_4_6 (List.mem_of_getElem? (i := 6) rfl)) rfl, hp_mu (tm_4_6 (List.mem_of_getElem? (i := 7) rfl)) rfl, rfl, rfl, rfl⟩
theorem lb_X11_frozen : hp_LB yX11_frozen cX11_frozen 4 (some .int) 2 := ⟨hp_mu (tm_4_6 (List.mem_of_getElem? (i := 13) rfl)) rfl, hp_mu (tb_1 (List.mem_of_getElem? (i := 1) rfl)) rfl, by decide, by decide +kernel⟩
theorem lv_X11_frozen : hp_LV yX11_frozen 12 := ⟨hp_mu (tm_4_6 (List.mem_of_getElem? (i := 11) rfl)) rfl, hp_mu (tm_4_6 (List.mem_of_getElem? (i := 12) rfl)) rfl, rfl, rfl, rfl⟩
theorem lb_X10_frozenAt : hp_LB yX10_frozenAt cX10_frozenAt 2 (some (.object "ProvenRecord$Frozen")) 1 := ⟨hp_mu (tm_4_7 (List.mem_of_getElem? (i := 1) rfl)) rfl, hp_mu (tb_1 (List.mem_of_getElem? (i := 2) rfl)) rfl, by decide, by decide +kernel⟩
theorem lv_X10_frozenAt : hp_LV yX10_frozenAt 11 := ⟨hp_mu (tm_4_6 (List.mem_of_getElem? (i := 15) rfl)) rfl, hp_mu (tm_4_7 (List.mem_of_getElem? (i := 0) rfl)) rfl, rfl, rfl, rfl⟩
theorem lb_X10_isSound : hp_LB yX10_isSound cX10_isSound 2 (some .boolean) 1 := ⟨hp_mu (tm_4_7 (List.mem_of_getElem? (i := 5) rfl)) rfl, hp_mu (tb_1 (List.mem_of_getElem? (i := 2) rfl)) rfl, by decide, by decide +kernel⟩
theorem lv_X10_isSound : hp_LV yX10_isSound 11 := ⟨hp_mu (tm_4_7 (List.mem_of_getElem? (i := 3) rfl)) rfl, hp_mu (tm_4_7 (List.mem_of_getElem? (i := 4) rfl)) rfl, rfl, rfl, rfl⟩
theorem lb_X10_hasHead : hp_LB yX10_hasHead cX10_hasHead 4 (some .boolean) 3 := ⟨hp_mu (tm_4_7 (List.mem_of_getElem? (i := 9) rfl)) rfl, hp_mu (tb_1 (List.mem_of_getElem? (i := 2) rfl)) rfl, by decide, by decide +kernel⟩
theorem lv_X10_hasHead : hp_LV yX10_hasHead 11 := ⟨hp_mu (tm_4_7 (List.mem_of_getElem? (i := 7) rfl)) rfl, hp_mu (tm_4_7 (List.mem_of_getElem? (i := 8) rfl)) rfl, rfl, rfl, rfl⟩
theorem lb_X11_watcher : hp_LB yX11_watcher cX11_watcher 4 (some .int) 2 := ⟨hp_mu (tm_4_7 (List.mem_of_getElem? (i := 13) rfl)) rfl, hp_mu (tb_1 (List.mem_of_getElem? (i := 1) rfl)) rfl, by decide, by decide +kernel⟩
theorem lv_X11_watcher : hp_LV yX11_watcher 12 := ⟨hp_mu (tm_4_7 (List.mem_of_getElem? (i := 11) rfl)) rfl, hp_mu (tm_4_7 (List.mem_of_getElem? (i := 12) rfl)) rfl, rfl, rfl, rfl⟩
theorem lb_X11_add : hp_LB yX11_add cX11_add 3 (some .int) 1 := ⟨hp_mu (tm_4_8 (List.mem_of_getElem? (i := 1) rfl)) rfl, hp_mu (tb_1 (List.mem_of_getElem? (i := 1) rfl)) rfl, by decide, by decide +kernel⟩
theorem lv_X11_add : hp_LV yX11_add 12 := ⟨hp_mu (tm_4_7 (List.mem_of_getElem? (i := 15) rfl)) rfl, hp_mu (tm_4_8 (List.mem_of_getElem? (i := 0) rfl)) rfl, rfl, rfl, rfl⟩
theorem lb_X11_fork : hp_LB yX11_fork cX11_fork 4 (some .int) 2 := ⟨hp_mu (tm_4_8 (List.mem_of_getElem? (i := 5) rfl)) rfl, hp_mu (tb_1 (List.mem_of_getElem? (i := 1) rfl)) rfl, by decide, by decide +kernel⟩
theorem lv_X11_fork : hp_LV yX11_fork 12 := ⟨hp_mu (tm_4_8 (List.mem_of_getElem? (i := 3) rfl)) rfl, hp_mu (tm_4_8 (List.mem_of_getElem? (i := 4) rfl)) rfl, rfl, rfl, rfl⟩
theorem lb_X11_freeze : hp_LB yX11_freeze cX11_freeze 2 (some .int) 1 := ⟨hp_mu (tm_4_8 (List.mem_of_getElem? (i := 9) rfl)) rfl, hp_mu (tb_1 (List.mem_of_getElem? (i := 1) rfl)) rfl, by decide, by decide +kernel⟩
theorem lv_X11_freeze : hp_LV yX11_freeze 12 := ⟨hp_mu (tm_4_8 (List.mem_of_getElem? (i := 7) rfl)) rfl, hp_mu (tm_4_8 (List.mem_of_getElem? (i := 8) rfl)) rfl, rfl, rfl, rfl⟩
theorem lb_X11_show : hp_LB yX11_show cX11_show 6 (some .int) 3 := ⟨hp_mu (tm_4_8 (List.mem_of_getElem? (i := 13) rfl)) rfl, hp_mu (tb_1 (List.mem_of_getElem? (i := 1) rfl)) rfl, by decide, by decide +kernel⟩
theorem lv_X11_show : hp_LV yX11_show 12 := ⟨hp_mu (tm_4_8 (List.mem_of_getElem? (i := 11) rfl)) rfl, hp_mu (tm_4_8 (List.mem_of_getElem? (i := 12) rfl)) rfl, rfl, rfl, rfl⟩
theorem lb_X11_meet : hp_LB yX11_meet cX11_meet 7 (some .int) 3 := ⟨hp_mu (tm_4_9 (List.mem_of_getElem? (i := 1) rfl)) rfl, hp_mu (tb_1 (List.mem_of_getElem? (i := 1) rfl)) rfl, by decide, by decide +kernel⟩
theorem lv_X11_meet : hp_LV yX11_meet 12 := ⟨hp_mu (tm_4_8 (List.mem_of_getElem? (i := 15) rfl)) rfl, hp_mu (tm_4_9 (List.mem_of_getElem? (i := 0) rfl)) rfl, rfl, rfl, rfl⟩
theorem lb_X10_meetBy : hp_LB yX10_meetBy cX10_meetBy 8 (some .int) 3 := ⟨hp_mu (tm_4_9 (List.mem_of_getElem? (i := 5) rfl)) rfl, hp_mu (tb_1 (List.mem_of_getElem? (i := 2) rfl)) rfl, by decide, by decide +kernel⟩
theorem lv_X10_meetBy : hp_LV yX10_meetBy 11 := ⟨hp_mu (tm_4_9 (List.mem_of_getElem? (i := 3) rfl)) rfl, hp_mu (tm_4_9 (List.mem_of_getElem? (i := 4) rfl)) rfl, rfl, rfl, rfl⟩
theorem lb_X11_spoil : hp_LB yX11_spoil cX11_spoil 8 (some .int) 4 := ⟨hp_mu (tm_4_9 (List.mem_of_getElem? (i := 9) rfl)) rfl, hp_mu (tb_1 (List.mem_of_getElem? (i := 1) rfl)) rfl, by decide, by decide +kernel⟩
theorem lv_X11_spoil : hp_LV yX11_spoil 12 := ⟨hp_mu (tm_4_9 (List.mem_of_getElem? (i := 7) rfl)) rfl, hp_mu (tm_4_9 (List.mem_of_getElem? (i := 8) rfl)) rfl, rfl, rfl, rfl⟩
theorem lb_X10_spoilLetter : hp_LB yX10_spoilLetter cX10_spoilLetter 5 none 4 := ⟨hp_mu (tm_4_9 (List.mem_of_getElem? (i := 13) rfl)) rfl, hp_mu (tb_1 (List.mem_of_getElem? (i := 2) rfl)) rfl, by decide, by decide +kernel⟩
theorem lv_X10_spoilLetter : hp_LV yX10_spoilLetter 11 := ⟨hp_mu (tm_4_9 (List.mem_of_getElem? (i := 11) rfl)) rfl, hp_mu (tm_4_9 (List.mem_of_getElem? (i := 12) rfl)) rfl, rfl, rfl, rfl⟩
theorem lb_X2_changeLetter : hp_LB yX2_changeLetter cX2_changeLetter 6 none 4 := ⟨hp_mu (tm_4_10 (List.mem_of_getElem? (i := 1) rfl)) rfl, hp_mu (tb_1 (List.mem_of_getElem? (i := 5) rfl)) rfl, by decide, by decide +kernel⟩
theorem lv_X2_changeLetter : hp_LV yX2_changeLetter 3 := ⟨hp_mu (tm_4_9 (List.mem_of_getElem? (i := 15) rfl)) rfl, hp_mu (tm_4_10 (List.mem_of_getElem? (i := 0) rfl)) rfl, rfl, rfl, rfl⟩
theorem lb_X9_change : hp_LB yX9_change cX9_change 3 none 2 := ⟨hp_mu (tm_4_10 (List.mem_of_getElem? (i := 6) rfl)) rfl, hp_mu (tb_1 (List.mem_of_getElem? (i := 6) rfl)) rfl, by decide, by decide +kernel⟩
theorem lv_X9_change : hp_LV yX9_change 10 := ⟨hp_mu (tm_4_10 (List.mem_of_getElem? (i := 4) rfl)) rfl, hp_mu (tm_4_10 (List.mem_of_getElem? (i := 5) rfl)) rfl, rfl, rfl, rfl⟩
theorem lb_X11_push : hp_LB yX11_push cX11_push 2 (some .int) 1 := ⟨hp_mu (tm_4_10 (List.mem_of_getElem? (i := 10) rfl)) rfl, hp_mu (tb_1 (List.mem_of_getElem? (i := 1) rfl)) rfl, by decide, by decide +kernel⟩
theorem lv_X11_push : hp_LV yX11_push 12 := ⟨hp_mu (tm_4_10 (List.mem_of_getElem? (i := 8) rfl)) rfl, hp_mu (tm_4_10 (List.mem_of_getElem? (i := 9) rfl)) rfl, rfl, rfl, rfl⟩
theorem lb_X11_poke : hp_LB yX11_poke cX11_poke 4 (some .int) 2 := ⟨hp_mu (tm_4_10 (List.mem_of_getElem? (i := 15) rfl)) rfl, hp_mu (tb_1 (List.mem_of_getElem? (i := 1) rfl)) rfl, by decide, by decide +kernel⟩
theorem lv_X11_poke : hp_LV yX11_poke 12 := ⟨hp_mu (tm_4_10 (List.mem_of_getElem? (i := 13) rfl)) rfl, hp_mu (tm_4_10 (List.mem_of_getElem? (i := 14) rfl)) rfl, rfl, rfl, rfl⟩
theorem lb_X5_change : hp_LB yX5_change cX5_change 3 none 2 := ⟨hp_mu (tm_4_11 (List.mem_of_getElem? (i := 3) rfl)) rfl, hp_mu (tb_1 (List.mem_of_getElem? (i := 3) rfl)) rfl, by decide, by decide +kernel⟩
theorem lv_X5_change : hp_LV yX5_change 6 := ⟨hp_mu (tm_4_11 (List.mem_of_getElem? (i := 1) rfl)) rfl, hp_mu (tm_4_11 (List.mem_of_getElem? (i := 2) rfl)) rfl, rfl, rfl, rfl⟩
theorem lb_X11_pad : hp_LB yX11_pad cX11_pad 2 (some .int) 1 := ⟨hp_mu (tm_4_11 (List.mem_of_getElem? (i := 7) rfl)) rfl, hp_mu (tb_1 (List.mem_of_getElem? (i := 1) rfl)) rfl, by decide, by decide +kernel⟩
theorem lv_X11_pad : hp_LV yX11_pad 12 := ⟨hp_mu (tm_4_11 (List.mem_of_getElem? (i := 5) rfl)) rfl, hp_mu (tm_4_11 (List.mem_of_getElem? (i := 6) rfl)) rfl, rfl, rfl, rfl⟩
theorem lb_X11_cut : hp_LB yX11_cut cX11_cut 2 (some .int) 1 := ⟨hp_mu (tm_4_11 (List.mem_of_getElem? (i := 11) rfl)) rfl, hp_mu (tb_1 (List.mem_of_getElem? (i := 1) rfl)) rfl, by decide, by decide +kernel⟩
theorem lv_X11_cut : hp_LV yX11_cut 12 := ⟨hp_mu (tm_4_11 (List.mem_of_getElem? (i := 9) rfl)) rfl, hp_mu (tm_4_11 (List.mem_of_getElem? (i := 10) rfl)) rfl, rfl, rfl, rfl⟩
theorem lb_X11_include : hp_LB yX11_include cX11_include 6 (some .int) 3 := ⟨hp_mu (tm_4_11 (List.mem_of_getElem? (i := 15) rfl)) rfl, hp_mu (tb_1 (List.mem_of_getElem? (i := 1) rfl)) rfl, by decide, by decide +kernel⟩
theorem lv_X11_include : hp_LV yX11_include 12 := ⟨hp_mu (tm_4_11 (List.mem_of_getElem? (i := 13) rfl)) rfl, hp_mu (tm_4_11 (List.mem_of_getElem? (i := 14) rfl)) rfl, rfl, rfl, rfl⟩
theorem lb_X11_wrongInclusion : hp_LB yX11_wrongInclusion cX11_wrongInclusion 3 (some .int) 3 := ⟨hp_mu (tm_4_12 (List.mem_of_getElem? (i := 2) rfl)) rfl, hp_mu (tb_1 (List.mem_of_getElem? (i := 1) rfl)) rfl, by decide, by decide +kernel⟩
theorem ls_X11_wrongInclusion : Cond.static yX11_wrongInclusion ∈ lw_u := hp_mu (tm_4_12 (List.mem_of_getElem? (i := 1) rfl)) rfl
theorem lb_X11_grow : hp_LB yX11_grow cX11_grow 6 (some .int) 3 := ⟨hp_mu (tm_4_12 (List.mem_of_getElem? (i := 8) rfl)) rfl, hp_mu (tb_1 (List.mem_of_getElem? (i := 1) rfl)) rfl, by decide, by decide +kernel⟩
theorem lv_X11_grow : hp_LV yX11_grow 12 := ⟨hp_mu (tm_4_12 (List.mem_of_getElem? (i := 6) rfl)) rfl, hp_mu (tm_4_12 (List.mem_of_getElem? (i := 7) rfl)) rfl, rfl, rfl, rfl⟩
theorem lb_X11_bundle : hp_LB yX11_bundle cX11_bundle 5 (some .int) 3 := ⟨hp_mu (tm_4_12 (List.mem_of_getElem? (i := 13) rfl)) rfl, hp_mu (tb_1 (List.mem_of_getElem? (i := 1) rfl)) rfl, by decide, by decide +kernel⟩
theorem lv_X11_bundle : hp_LV yX11_bundle 12 := ⟨hp_mu (tm_4_12 (List.mem_of_getElem? (i := 11) rfl)) rfl, hp_mu (tm_4_12 (List.mem_of_getElem? (i := 12) rfl)) rfl, rfl, rfl, rfl⟩
theorem lb_X11_isSet : hp_LB yX11_isSet cX11_isSet 1 (some .boolean) 1 := ⟨hp_mu (tm_4_13 (List.mem_of_getElem? (i := 0) rfl)) rfl, hp_mu (tb_1 (List.mem_of_getElem? (i := 1) rfl)) rfl, by decide, by decide +kernel⟩
theorem ls_X11_isSet : Cond.static yX11_isSet ∈ lw_u := hp_mu (tm_4_12 (List.mem_of_getElem? (i := 15) rfl)) rfl
theorem lb_X11_lieBelow : hp_LB yX11_lieBelow cX11_lieBelow 2 (some .boolean) 2 := ⟨hp_mu (tm_4_13 (List.mem_of_getElem? (i := 3) rfl)) rfl, hp_mu (tb_1 (List.mem_of_getElem? (i := 1) rfl)) rfl, by decide, by decide +kernel⟩
theorem ls_X11_lieBelow : Cond.static yX11_lieBelow ∈ lw_u := hp_mu (tm_4_13 (List.mem_of_getElem? (i := 2) rfl)) rfl
theorem lb_X8_toBundle : hp_LB yX8_toBundle cX8_toBundle 5 none 2 := ⟨hp_mu (tm_4_13 (List.mem_of_getElem? (i := 9) rfl)) rfl, hp_mu (tb_1 (List.mem_of_getElem? (i := 4) rfl)) rfl, by decide, by decide +kernel⟩
theorem lv_X8_toBundle : hp_LV yX8_toBundle 9 := ⟨hp_mu (tm_4_13 (List.mem_of_getElem? (i := 7) rfl)) rfl, hp_mu (tm_4_13 (List.mem_of_getElem? (i := 8) rfl)) rfl, rfl, rfl, rfl⟩
theorem lb_X11_hasOneOf : hp_LB yX11_hasOneOf cX11_hasOneOf 4 (some .boolean) 3 := ⟨hp_mu (tm_4_13 (List.mem_of_getElem? (i := 12) rfl)) rfl, hp_mu (tb_1 (List.mem_of_getElem? (i := 1) rfl)) rfl, by decide, by decide +kernel⟩
theorem ls_X11_hasOneOf : Cond.static yX11_hasOneOf ∈ lw_u := hp_mu (tm_4_13 (List.mem_of_getElem? (i := 11) rfl)) rfl
theorem lb_X8_putGreatestWithout : hp_LB yX8_putGreatestWithout cX8_putGreatestWithout 8 (some .int) 3 := ⟨hp_mu (tm_4_14 (List.mem_of_getElem? (i := 0) rfl)) rfl, hp_mu (tb_1 (List.mem_of_getElem? (i := 4) rfl)) rfl, by decide, by decide +kernel⟩
theorem lv_X8_putGreatestWithout : hp_LV yX8_putGreatestWithout 9 := ⟨hp_mu (tm_4_13 (List.mem_of_getElem? (i := 15) rfl)) rfl, hp_mu (tm_0_1 (List.mem_of_getElem? (i := 5) rfl)) rfl, rfl, rfl, rfl⟩
theorem lb_X11_peaks : hp_LB yX11_peaks cX11_peaks 5 (some .int) 2 := ⟨hp_mu (tm_4_14 (List.mem_of_getElem? (i := 4) rfl)) rfl, hp_mu (tb_1 (List.mem_of_getElem? (i := 1) rfl)) rfl, by decide, by decide +kernel⟩
theorem lv_X11_peaks : hp_LV yX11_peaks 12 := ⟨hp_mu (tm_4_14 (List.mem_of_getElem? (i := 2) rfl)) rfl, hp_mu (tm_4_14 (List.mem_of_getElem? (i := 3) rfl)) rfl, rfl, rfl, rfl⟩
theorem lb_X11_extend : hp_LB yX11_extend cX11_extend 3 (some .int) 2 := ⟨hp_mu (tm_4_14 (List.mem_of_getElem? (i := 9) rfl)) rfl, hp_mu (tb_1 (List.mem_of_getElem? (i := 1) rfl)) rfl, by decide, by decide +kernel⟩
theorem lv_X11_extend : hp_LV yX11_extend 12 := ⟨hp_mu (tm_4_14 (List.mem_of_getElem? (i := 7) rfl)) rfl, hp_mu (tm_4_14 (List.mem_of_getElem? (i := 8) rfl)) rfl, rfl, rfl, rfl⟩
theorem lb_J6_bitCount_0f7a4 : hp_LB yJ6_bitCount_0f7a4 cJ6_bitCount_0f7a4 1 (some .int) 1 := ⟨hp_mu (tm_4_14 (List.mem_of_getElem? (i := 13) rfl)) rfl, hp_mu (tm_1_1 (List.mem_of_getElem? (i := 2) rfl)) rfl, by decide, by decide +kernel⟩
theorem ls_J6_bitCount_0f7a4 : Cond.static yJ6_bitCount_0f7a4 ∈ lw_u := hp_mu (tm_4_14 (List.mem_of_getElem? (i := 12) rfl)) rfl
theorem lb_X5_putPeak : hp_LB yX5_putPeak cX5_putPeak 7 none 3 := ⟨hp_mu (tb_5 (List.mem_of_getElem? (i := 4) rfl)) rfl, hp_mu (tb_1 (List.mem_of_getElem? (i := 3) rfl)) rfl, by decide, by decide +kernel⟩
theorem lv_X5_putPeak : hp_LV yX5_putPeak 6 := ⟨hp_mu (tb_5 (List.mem_of_getElem? (i := 2) rfl)) rfl, hp_mu (tb_5 (List.mem_of_getElem? (i := 3) rfl)) rfl, rfl, rfl, rfl⟩
theorem lb_X11_checks : hp_LB yX11_checks cX11_checks 5 (some .int) 4 := ⟨hp_mu (tb_5 (List.mem_of_getElem? (i := 11) rfl)) rfl, hp_mu (tb_1 (List.mem_of_getElem? (i := 1) rfl)) rfl, by decide, by decide +kernel⟩
theorem lv_X11_checks : hp_LV yX11_checks 12 := ⟨hp_mu (tb_5 (List.mem_of_getElem? (i := 9) rfl)) rfl, hp_mu (tb_5 (List.mem_of_getElem? (i := 10) rfl)) rfl, rfl, rfl, rfl⟩
theorem lb_X11_isThing : hp_LB yX11_isThing cX11_isThing 2 (some .boolean) 2 := ⟨hp_mu (tb_5 (List.mem_of_getElem? (i := 14) rfl)) rfl, hp_mu (tb_1 (List.mem_of_getElem? (i := 1) rfl)) rfl, by decide, by decide +kernel⟩
theorem ls_X11_isThing : Cond.static yX11_isThing ∈ lw_u := hp_mu (tb_5 (List.mem_of_getElem? (i := 13) rfl)) rfl
theorem lb_X11_growth : hp_LB yX11_growth cX11_growth 5 (some .int) 4 := ⟨hp_mu (tm_5_1 (List.mem_of_getElem? (i := 3) rfl)) rfl, hp_mu (tb_1 (List.mem_of_getElem? (i := 1) rfl)) rfl, by decide, by decide +kernel⟩
theorem lv_X11_growth : hp_LV yX11_growth 12 := ⟨hp_mu (tm_5_1 (List.mem_of_getElem? (i := 1) rfl)) rfl, hp_mu (tm_5_1 (List.mem_of_getElem? (i := 2) rfl)) rfl, rfl, rfl, rfl⟩
theorem lb_X11_bundled : hp_LB yX11_bundled cX11_bundled 4 (some .int) 3 := ⟨hp_mu (tm_5_1 (List.mem_of_getElem? (i := 8) rfl)) rfl, hp_mu (tb_1 (List.mem_of_getElem? (i := 1) rfl)) rfl, by decide, by decide +kernel⟩
theorem lv_X11_bundled : hp_LV yX11_bundled 12 := ⟨hp_mu (tm_5_1 (List.mem_of_getElem? (i := 6) rfl)) rfl, hp_mu (tm_5_1 (List.mem_of_getElem? (i := 7) rfl)) rfl, rfl, rfl, rfl⟩
theorem lb_X0_why : hp_LB yX0_why cX0_why 8 (some .int) 6 := ⟨hp_mu (tm_5_1 (List.mem_of_getElem? (i := 12) rfl)) rfl, hp_mu (tb_1 (List.mem_of_getElem? (i := 9) rfl)) rfl, by decide, by decide +kernel⟩
theorem lv_X0_why : hp_LV yX0_why 1 := ⟨hp_mu (tm_5_1 (List.mem_of_getElem? (i := 10) rfl)) rfl, hp_mu (tm_5_1 (List.mem_of_getElem? (i := 11) rfl)) rfl, rfl, rfl, rfl⟩
theorem lb_X0_foldedTree : hp_LB yX0_foldedTree cX0_foldedTree 7 (some .int) 4 := ⟨hp_mu (tm_5_2 (List.mem_of_getElem? (i := 0) rfl)) rfl, hp_mu (tb_1 (List.mem_of_getElem? (i := 9) rfl)) rfl, by decide, by decide +kernel⟩
theorem ls_X0_foldedTree : Cond.static yX0_foldedTree ∈ lw_u := hp_mu (tm_5_1 (List.mem_of_getElem? (i := 15) rfl)) rfl
theorem lb_X11_fold : hp_LB yX11_fold cX11_fold 1 (some .int) 0 := ⟨hp_mu (tm_5_2 (List.mem_of_getElem? (i := 8) rfl)) rfl, hp_mu (tb_1 (List.mem_of_getElem? (i := 1) rfl)) rfl, by decide, by decide +kernel⟩
theorem lv_X11_fold : hp_LV yX11_fold 12 := ⟨hp_mu (tm_5_2 (List.mem_of_getElem? (i := 6) rfl)) rfl, hp_mu (tm_5_2 (List.mem_of_getElem? (i := 7) rfl)) rfl, rfl, rfl, rfl⟩
theorem lb_X5_foldedPeaks : hp_LB yX5_foldedPeaks cX5_foldedPeaks 4 (some .int) 1 := ⟨hp_mu (tm_5_2 (List.mem_of_getElem? (i := 12) rfl)) rfl, hp_mu (tb_1 (List.mem_of_getElem? (i := 3) rfl)) rfl, by decide, by decide +kernel⟩
theorem lv_X5_foldedPeaks : hp_LV yX5_foldedPeaks 6 := ⟨hp_mu (tm_5_2 (List.mem_of_getElem? (i := 10) rfl)) rfl, hp_mu (tm_5_2 (List.mem_of_getElem? (i := 11) rfl)) rfl, rfl, rfl, rfl⟩
theorem lb_X11_steps : hp_LB yX11_steps cX11_steps 3 (some .int) 2 := ⟨hp_mu (tm_5_3 (List.mem_of_getElem? (i := 0) rfl)) rfl, hp_mu (tb_1 (List.mem_of_getElem? (i := 1) rfl)) rfl, by decide, by decide +kernel⟩
theorem lv_X11_steps : hp_LV yX11_steps 12 := ⟨hp_mu (tm_5_2 (List.mem_of_getElem? (i := 14) rfl)) rfl, hp_mu (tm_5_2 (List.mem_of_getElem? (i := 15) rfl)) rfl, rfl, rfl, rfl⟩
theorem lb_X11_climbs : hp_LB yX11_climbs cX11_climbs 3 (some .int) 2 := ⟨hp_mu (tm_5_3 (List.mem_of_getElem? (i := 4) rfl)) rfl, hp_mu (tb_1 (List.mem_of_getElem? (i := 1) rfl)) rfl, by decide, by decide +kernel⟩
theorem lv_X11_climbs : hp_LV yX11_climbs 12 := ⟨hp_mu (tm_5_3 (List.mem_of_getElem? (i := 2) rfl)) rfl, hp_mu (tm_5_3 (List.mem_of_getElem? (i := 3) rfl)) rfl, rfl, rfl, rfl⟩
theorem lb_X11_agree : hp_LB yX11_agree cX11_agree 5 (some .int) 2 := ⟨hp_mu (tm_5_3 (List.mem_of_getElem? (i := 8) rfl)) rfl, hp_mu (tb_1 (List.mem_of_getElem? (i := 1) rfl)) rfl, by decide, by decide +kernel⟩
theorem lv_X11_agree : hp_LV yX11_agree 12 := ⟨hp_mu (tm_5_3 (List.mem_of_getElem? (i := 6) rfl)) rfl, hp_mu (tm_5_3 (List.mem_of_getElem? (i := 7) rfl)) rfl, rfl, rfl, rfl⟩
theorem lb_X10_doAgree : hp_LB yX10_doAgree cX10_doAgree 5 (some .boolean) 2 := ⟨hp_mu (tm_5_3 (List.mem_of_getElem? (i := 12) rfl)) rfl, hp_mu (tb_1 (List.mem_of_getElem? (i := 2) rfl)) rfl, by decide, by decide +kernel⟩
theorem lv_X10_doAgree : hp_LV yX10_doAgree 11 := ⟨hp_mu (tm_5_3 (List.mem_of_getElem? (i := 10) rfl)) rfl, hp_mu (tm_5_3 (List.mem_of_getElem? (i := 11) rfl)) rfl, rfl, rfl, rfl⟩
theorem lb_X11_where : hp_LB yX11_where cX11_where 5 (some .int) 2 := ⟨hp_mu (tm_5_4 (List.mem_of_getElem? (i := 0) rfl)) rfl, hp_mu (tb_1 (List.mem_of_getElem? (i := 1) rfl)) rfl, by decide, by decide +kernel⟩
theorem lv_X11_where : hp_LV yX11_where 12 := ⟨hp_mu (tm_5_3 (List.mem_of_getElem? (i := 14) rfl)) rfl, hp_mu (tm_5_3 (List.mem_of_getElem? (i := 15) rfl)) rfl, rfl, rfl, rfl⟩
theorem lb_X2_countLike : hp_LB yX2_countLike cX2_countLike 5 (some .int) 1 := ⟨hp_mu (tm_5_4 (List.mem_of_getElem? (i := 4) rfl)) rfl, hp_mu (tb_1 (List.mem_of_getElem? (i := 5) rfl)) rfl, by decide, by decide +kernel⟩
theorem lv_X2_countLike : hp_LV yX2_countLike 3 := ⟨hp_mu (tm_5_4 (List.mem_of_getElem? (i := 2) rfl)) rfl, hp_mu (tm_5_4 (List.mem_of_getElem? (i := 3) rfl)) rfl, rfl, rfl, rfl⟩
theorem lb_X9_isLike : hp_LB yX9_isLike cX9_isLike 4 (some .boolean) 1 := ⟨hp_mu (tm_5_4 (List.mem_of_getElem? (i := 8) rfl)) rfl, hp_mu (tb_1 (List.mem_of_getElem? (i := 6) rfl)) rfl, by decide, by decide +kernel⟩
theorem lv_X9_isLike : hp_LV yX9_isLike 10 := ⟨hp_mu (tm_5_4 (List.mem_of_getElem? (i := 6) rfl)) rfl, hp_mu (tm_5_4 (List.mem_of_getElem? (i := 7) rfl)) rfl, rfl, rfl, rfl⟩
theorem lb_X2_firstLike : hp_LB yX2_firstLike cX2_firstLike 4 (some .int) 1 := ⟨hp_mu (tm_5_4 (List.mem_of_getElem? (i := 12) rfl)) rfl, hp_mu (tb_1 (List.mem_of_getElem? (i := 5) rfl)) rfl, by decide, by decide +kernel⟩
theorem lv_X2_firstLike : hp_LV yX2_firstLike 3 := ⟨hp_mu (tm_5_4 (List.mem_of_getElem? (i := 10) rfl)) rfl, hp_mu (tm_5_4 (List.mem_of_getElem? (i := 11) rfl)) rfl, rfl, rfl, rfl⟩
theorem lb_X11_tree : hp_LB yX11_tree cX11_tree 7 (some .int) 4 := ⟨hp_mu (tm_5_5 (List.mem_of_getElem? (i := 0) rfl)) rfl, hp_mu (tb_1 (List.mem_of_getElem? (i := 1) rfl)) rfl, by decide, by decide +kernel⟩
theorem lv_X11_tree : hp_LV yX11_tree 12 := ⟨hp_mu (tm_5_4 (List.mem_of_getElem? (i := 14) rfl)) rfl, hp_mu (tm_5_4 (List.mem_of_getElem? (i := 15) rfl)) rfl, rfl, rfl, rfl⟩
theorem lb_X8_toTree : hp_LB yX8_toTree cX8_toTree 8 none 2 := ⟨hp_mu (tm_5_5 (List.mem_of_getElem? (i := 4) rfl)) rfl, hp_mu (tb_1 (List.mem_of_getElem? (i := 4) rfl)) rfl, by decide, by decide +kernel⟩
theorem lv_X8_toTree : hp_LV yX8_toTree 9 := ⟨hp_mu (tm_5_5 (List.mem_of_getElem? (i := 2) rfl)) rfl, hp_mu (tm_5_5 (List.mem_of_getElem? (i := 3) rfl)) rfl, rfl, rfl, rfl⟩
theorem lb_X11_proves : hp_LB yX11_proves cX11_proves 6 (some .int) 2 := ⟨hp_mu (tm_5_5 (List.mem_of_getElem? (i := 11) rfl)) rfl, hp_mu (tb_1 (List.mem_of_getElem? (i := 1) rfl)) rfl, by decide, by decide +kernel⟩
theorem lv_X11_proves : hp_LV yX11_proves 12 := ⟨hp_mu (tm_5_5 (List.mem_of_getElem? (i := 9) rfl)) rfl, hp_mu (tm_5_5 (List.mem_of_getElem? (i := 10) rfl)) rfl, rfl, rfl, rfl⟩
theorem lb_X11_longest : hp_LB yX11_longest cX11_longest 7 (some .int) 2 := ⟨hp_mu (tm_5_6 (List.mem_of_getElem? (i := 0) rfl)) rfl, hp_mu (tb_1 (List.mem_of_getElem? (i := 1) rfl)) rfl, by decide, by decide +kernel⟩
theorem lv_X11_longest : hp_LV yX11_longest 12 := ⟨hp_mu (tm_5_5 (List.mem_of_getElem? (i := 14) rfl)) rfl, hp_mu (tm_5_5 (List.mem_of_getElem? (i := 15) rfl)) rfl, rfl, rfl, rfl⟩
theorem lb_X11_part : hp_LB yX11_part cX11_part 6 (some .int) 3 := ⟨hp_mu (tm_5_6 (List.mem_of_getElem? (i := 4) rfl)) rfl, hp_mu (tb_1 (List.mem_of_getElem? (i := 1) rfl)) rfl, by decide, by decide +kernel⟩
theorem lv_X11_part : hp_LV yX11_part 12 := ⟨hp_mu (tm_5_6 (List.mem_of_getElem? (i := 2) rfl)) rfl, hp_mu (tm_5_6 (List.mem_of_getElem? (i := 3) rfl)) rfl, rfl, rfl, rfl⟩
theorem lb_X10_partingEntry : hp_LB yX10_partingEntry cX10_partingEntry 4 (some .int) 2 := ⟨hp_mu (tm_5_6 (List.mem_of_getElem? (i := 8) rfl)) rfl, hp_mu (tb_1 (List.mem_of_getElem? (i := 2) rfl)) rfl, by decide, by decide +kernel⟩
theorem lv_X10_partingEntry : hp_LV yX10_partingEntry 11 := ⟨hp_mu (tm_5_6 (List.mem_of_getElem? (i := 6) rfl)) rfl, hp_mu (tm_5_6 (List.mem_of_getElem? (i := 7) rfl)) rfl, rfl, rfl, rfl⟩
theorem lb_X10_partingTrees : hp_LB yX10_partingTrees cX10_partingTrees 10 (some .int) 4 := ⟨hp_mu (tm_5_6 (List.mem_of_getElem? (i := 12) rfl)) rfl, hp_mu (tb_1 (List.mem_of_getElem? (i := 2) rfl)) rfl, by decide, by decide +kernel⟩
theorem lv_X10_partingTrees : hp_LV yX10_partingTrees 11 := ⟨hp_mu (tm_5_6 (List.mem_of_getElem? (i := 11) rfl)) rfl, hp_mu (tm_0_1 (List.mem_of_getElem? (i := 6) rfl)) rfl, rfl, rfl, rfl⟩
theorem lb_X10_partingCompared : hp_LB yX10_partingCompared cX10_partingCompared 4 (some .int) 2 := ⟨hp_mu (tm_5_7 (List.mem_of_getElem? (i := 1) rfl)) rfl, hp_mu (tb_1 (List.mem_of_getElem? (i := 2) rfl)) rfl, by decide, by decide +kernel⟩
theorem lv_X10_partingCompared : hp_LV yX10_partingCompared 11 := ⟨hp_mu (tm_5_6 (List.mem_of_getElem? (i := 15) rfl)) rfl, hp_mu (tm_5_7 (List.mem_of_getElem? (i := 0) rfl)) rfl, rfl, rfl, rfl⟩
theorem lb_X11_blame : hp_LB yX11_blame cX11_blame 4 (some .int) 2 := ⟨hp_mu (tm_5_7 (List.mem_of_getElem? (i := 5) rfl)) rfl, hp_mu (tb_1 (List.mem_of_getElem? (i := 1) rfl)) rfl, by decide, by decide +kernel⟩
theorem lv_X11_blame : hp_LV yX11_blame 12 := ⟨hp_mu (tm_5_7 (List.mem_of_getElem? (i := 3) rfl)) rfl, hp_mu (tm_5_7 (List.mem_of_getElem? (i := 4) rfl)) rfl, rfl, rfl, rfl⟩
theorem lb_X10_countUnsound : hp_LB yX10_countUnsound cX10_countUnsound 5 (some .int) 1 := ⟨hp_mu (tm_5_7 (List.mem_of_getElem? (i := 9) rfl)) rfl, hp_mu (tb_1 (List.mem_of_getElem? (i := 2) rfl)) rfl, by decide, by decide +kernel⟩
theorem lv_X10_countUnsound : hp_LV yX10_countUnsound 11 := ⟨hp_mu (tm_5_7 (List.mem_of_getElem? (i := 7) rfl)) rfl, hp_mu (tm_5_7 (List.mem_of_getElem? (i := 8) rfl)) rfl, rfl, rfl, rfl⟩
theorem lb_X10_leastUnsound : hp_LB yX10_leastUnsound cX10_leastUnsound 5 (some .int) 1 := ⟨hp_mu (tm_5_7 (List.mem_of_getElem? (i := 15) rfl)) rfl, hp_mu (tb_1 (List.mem_of_getElem? (i := 2) rfl)) rfl, by decide, by decide +kernel⟩
theorem lv_X10_leastUnsound : hp_LV yX10_leastUnsound 11 := ⟨hp_mu (tm_5_7 (List.mem_of_getElem? (i := 13) rfl)) rfl, hp_mu (tm_5_7 (List.mem_of_getElem? (i := 14) rfl)) rfl, rfl, rfl, rfl⟩
theorem lb_X10_greatestSoundBelow : hp_LB yX10_greatestSoundBelow cX10_greatestSoundBelow 6 (some .int) 2 := ⟨hp_mu (tm_5_8 (List.mem_of_getElem? (i := 3) rfl)) rfl, hp_mu (tb_1 (List.mem_of_getElem? (i := 2) rfl)) rfl, by decide, by decide +kernel⟩
theorem lv_X10_greatestSoundBelow : hp_LV yX10_greatestSoundBelow 11 := ⟨hp_mu (tm_5_8 (List.mem_of_getElem? (i := 1) rfl)) rfl, hp_mu (tm_5_8 (List.mem_of_getElem? (i := 2) rfl)) rfl, rfl, rfl, rfl⟩
theorem lb_X11_weak : hp_LB yX11_weak cX11_weak 8 (some .int) 4 := ⟨hp_mu (tm_5_8 (List.mem_of_getElem? (i := 8) rfl)) rfl, hp_mu (tb_1 (List.mem_of_getElem? (i := 1) rfl)) rfl, by decide, by decide +kernel⟩
theorem lv_X11_weak : hp_LV yX11_weak 12 := ⟨hp_mu (tm_5_8 (List.mem_of_getElem? (i := 6) rfl)) rfl, hp_mu (tm_5_8 (List.mem_of_getElem? (i := 7) rfl)) rfl, rfl, rfl, rfl⟩
theorem lb_X11_preparedRoots : hp_LB yX11_preparedRoots cX11_preparedRoots 1 (some (.object "ProvenRecord$Roots")) 0 := ⟨hp_mu (tm_5_8 (List.mem_of_getElem? (i := 12) rfl)) rfl, hp_mu (tb_1 (List.mem_of_getElem? (i := 1) rfl)) rfl, by decide, by decide +kernel⟩
theorem lv_X11_preparedRoots : hp_LV yX11_preparedRoots 12 := ⟨hp_mu (tm_5_8 (List.mem_of_getElem? (i := 11) rfl)) rfl, hp_mu (tm_0_1 (List.mem_of_getElem? (i := 7) rfl)) rfl, rfl, rfl, rfl⟩
theorem lb_X4_init : hp_LB yX4_init cX4_init 1 none 0 := ⟨hp_mu (tm_5_9 (List.mem_of_getElem? (i := 1) rfl)) rfl, hp_mu (tm_1_1 (List.mem_of_getElem? (i := 3) rfl)) rfl, by decide, by decide +kernel⟩
theorem li_X4_init : Cond.instanceMethod yX4_init ∈ lw_u := hp_mu (tm_5_9 (List.mem_of_getElem? (i := 0) rfl)) rfl
theorem lb_X4_prepare : hp_LB yX4_prepare cX4_prepare 4 none 1 := ⟨hp_mu (tm_5_11 (List.mem_of_getElem? (i := 15) rfl)) rfl, hp_mu (tm_1_1 (List.mem_of_getElem? (i := 3) rfl)) rfl, by decide, by decide +kernel⟩
theorem lv_X4_prepare : hp_LV yX4_prepare 5 := ⟨hp_mu (tm_5_11 (List.mem_of_getElem? (i := 13) rfl)) rfl, hp_mu (tm_5_11 (List.mem_of_getElem? (i := 14) rfl)) rfl, rfl, rfl, rfl⟩
theorem lb_X4_seekThing : hp_LB yX4_seekThing cX4_seekThing 5 none 4 := ⟨hp_mu (tm_5_12 (List.mem_of_getElem? (i := 4) rfl)) rfl, hp_mu (tm_1_1 (List.mem_of_getElem? (i := 3) rfl)) rfl, by decide, by decide +kernel⟩
theorem lv_X4_seekThing : hp_LV yX4_seekThing 5 := ⟨hp_mu (tm_5_12 (List.mem_of_getElem? (i := 2) rfl)) rfl, hp_mu (tm_5_12 (List.mem_of_getElem? (i := 3) rfl)) rfl, rfl, rfl, rfl⟩
theorem lb_X4_seek : hp_LB yX4_seek cX4_seek 2 none 1 := ⟨hp_mu (tm_5_12 (List.mem_of_getElem? (i := 8) rfl)) rfl, hp_mu (tm_1_1 (List.mem_of_getElem? (i := 3) rfl)) rfl, by decide, by decide +kernel⟩
theorem lv_X4_seek : hp_LV yX4_seek 5 := ⟨hp_mu (tm_5_12 (List.mem_of_getElem? (i := 7) rfl)) rfl, hp_mu (tm_0_1 (List.mem_of_getElem? (i := 8) rfl)) rfl, rfl, rfl, rfl⟩
theorem lb_X4_goBack : hp_LB yX4_goBack cX4_goBack 7 none 3 := ⟨hp_mu (tm_5_12 (List.mem_of_getElem? (i := 11) rfl)) rfl, hp_mu (tm_1_1 (List.mem_of_getElem? (i := 3) rfl)) rfl, by decide, by decide +kernel⟩
theorem ls_X4_goBack : Cond.static yX4_goBack ∈ lw_u := hp_mu (tm_5_12 (List.mem_of_getElem? (i := 10) rfl)) rfl
theorem lb_X4_take : hp_LB yX4_take cX4_take 2 none 1 := ⟨hp_mu (tm_5_12 (List.mem_of_getElem? (i := 15) rfl)) rfl, hp_mu (tm_1_1 (List.mem_of_getElem? (i := 3) rfl)) rfl, by decide, by decide +kernel⟩
theorem lv_X4_take : hp_LV yX4_take 5 := ⟨hp_mu (tm_5_12 (List.mem_of_getElem? (i := 14) rfl)) rfl, hp_mu (tm_0_1 (List.mem_of_getElem? (i := 9) rfl)) rfl, rfl, rfl, rfl⟩
theorem lb_X4_secondOf : hp_LB yX4_secondOf cX4_secondOf 3 (some .int) 2 := ⟨hp_mu (tm_5_13 (List.mem_of_getElem? (i := 6) rfl)) rfl, hp_mu (tm_1_1 (List.mem_of_getElem? (i := 3) rfl)) rfl, by decide, by decide +kernel⟩
theorem lv_X4_secondOf : hp_LV yX4_secondOf 5 := ⟨hp_mu (tm_5_13 (List.mem_of_getElem? (i := 5) rfl)) rfl, hp_mu (tm_0_1 (List.mem_of_getElem? (i := 10) rfl)) rfl, rfl, rfl, rfl⟩
theorem lb_X4_restOf : hp_LB yX4_restOf cX4_restOf 3 (some .int) 1 := ⟨hp_mu (tm_5_13 (List.mem_of_getElem? (i := 11) rfl)) rfl, hp_mu (tm_1_1 (List.mem_of_getElem? (i := 3) rfl)) rfl, by decide, by decide +kernel⟩
theorem lv_X4_restOf : hp_LV yX4_restOf 5 := ⟨hp_mu (tm_5_13 (List.mem_of_getElem? (i := 10) rfl)) rfl, hp_mu (tm_0_1 (List.mem_of_getElem? (i := 11) rfl)) rfl, rfl, rfl, rfl⟩
theorem lb_J9_floorMod_f86c9 : hp_LB yJ9_floorMod_f86c9 cJ9_floorMod_f86c9 6 (some .long) 2 := ⟨hp_mu (tm_5_13 (List.mem_of_getElem? (i := 14) rfl)) rfl, hp_mu (tb_1 (List.mem_of_getElem? (i := 13) rfl)) rfl, by decide, by decide +kernel⟩
theorem ls_J9_floorMod_f86c9 : Cond.static yJ9_floorMod_f86c9 ∈ lw_u := hp_mu (tm_5_13 (List.mem_of_getElem? (i := 13) rfl)) rfl
theorem lb_X4_leastRoot : hp_LB yX4_leastRoot cX4_leastRoot 4 (some .int) 2 := ⟨hp_mu (tm_5_14 (List.mem_of_getElem? (i := 2) rfl)) rfl, hp_mu (tm_1_1 (List.mem_of_getElem? (i := 3) rfl)) rfl, by decide, by decide +kernel⟩
theorem lv_X4_leastRoot : hp_LV yX4_leastRoot 5 := ⟨hp_mu (tm_5_14 (List.mem_of_getElem? (i := 1) rfl)) rfl, hp_mu (tm_0_1 (List.mem_of_getElem? (i := 12) rfl)) rfl, rfl, rfl, rfl⟩
theorem lb_X4_firstOf : hp_LB yX4_firstOf cX4_firstOf 2 (some .int) 1 := ⟨hp_mu (tm_5_14 (List.mem_of_getElem? (i := 6) rfl)) rfl, hp_mu (tm_1_1 (List.mem_of_getElem? (i := 3) rfl)) rfl, by decide, by decide +kernel⟩
theorem lv_X4_firstOf : hp_LV yX4_firstOf 5 := ⟨hp_mu (tm_5_14 (List.mem_of_getElem? (i := 5) rfl)) rfl, hp_mu (tm_0_1 (List.mem_of_getElem? (i := 13) rfl)) rfl, rfl, rfl, rfl⟩
theorem lb_X11_clash : hp_LB yX11_clash cX11_clash 13 (some .int) 5 := ⟨hp_mu (tm_5_14 (List.mem_of_getElem? (i := 11) rfl)) rfl, hp_mu (tb_1 (List.mem_of_getElem? (i := 1) rfl)) rfl, by decide, by decide +kernel⟩
theorem lv_X11_clash : hp_LV yX11_clash 12 := ⟨hp_mu (tm_5_14 (List.mem_of_getElem? (i := 9) rfl)) rfl, hp_mu (tm_5_14 (List.mem_of_getElem? (i := 10) rfl)) rfl, rfl, rfl, rfl⟩
theorem lb_X11_clashingStep : hp_LB yX11_clashingStep cX11_clashingStep 7 (some .int) 2 := ⟨hp_mu (tm_5_14 (List.mem_of_getElem? (i := 15) rfl)) rfl, hp_mu (tb_1 (List.mem_of_getElem? (i := 1) rfl)) rfl, by decide, by decide +kernel⟩
theorem lv_X11_clashingStep : hp_LV yX11_clashingStep 12 := ⟨hp_mu (tm_5_14 (List.mem_of_getElem? (i := 14) rfl)) rfl, hp_mu (tm_0_1 (List.mem_of_getElem? (i := 14) rfl)) rfl, rfl, rfl, rfl⟩
theorem lb_X11_forge : hp_LB yX11_forge cX11_forge 7 (some .int) 5 := ⟨hp_mu (tb_6 (List.mem_of_getElem? (i := 6) rfl)) rfl, hp_mu (tb_1 (List.mem_of_getElem? (i := 1) rfl)) rfl, by decide, by decide +kernel⟩
theorem lv_X11_forge : hp_LV yX11_forge 12 := ⟨hp_mu (tb_6 (List.mem_of_getElem? (i := 4) rfl)) rfl, hp_mu (tb_6 (List.mem_of_getElem? (i := 5) rfl)) rfl, rfl, rfl, rfl⟩
theorem lb_X4_seekStep : hp_LB yX4_seekStep cX4_seekStep 6 none 5 := ⟨hp_mu (tb_6 (List.mem_of_getElem? (i := 10) rfl)) rfl, hp_mu (tm_1_1 (List.mem_of_getElem? (i := 3) rfl)) rfl, by decide, by decide +kernel⟩
theorem lv_X4_seekStep : hp_LV yX4_seekStep 5 := ⟨hp_mu (tb_6 (List.mem_of_getElem? (i := 8) rfl)) rfl, hp_mu (tb_6 (List.mem_of_getElem? (i := 9) rfl)) rfl, rfl, rfl, rfl⟩
theorem lb_X11_trace : hp_LB yX11_trace cX11_trace 5 (some .int) 4 := ⟨hp_mu (tb_6 (List.mem_of_getElem? (i := 14) rfl)) rfl, hp_mu (tb_1 (List.mem_of_getElem? (i := 1) rfl)) rfl, by decide, by decide +kernel⟩
theorem lv_X11_trace : hp_LV yX11_trace 12 := ⟨hp_mu (tb_6 (List.mem_of_getElem? (i := 12) rfl)) rfl, hp_mu (tb_6 (List.mem_of_getElem? (i := 13) rfl)) rfl, rfl, rfl, rfl⟩
theorem lb_X11_span : hp_LB yX11_span cX11_span 5 (some .int) 4 := ⟨hp_mu (tm_6_1 (List.mem_of_getElem? (i := 2) rfl)) rfl, hp_mu (tb_1 (List.mem_of_getElem? (i := 1) rfl)) rfl, by decide, by decide +kernel⟩
theorem lv_X11_span : hp_LV yX11_span 12 := ⟨hp_mu (tm_6_1 (List.mem_of_getElem? (i := 0) rfl)) rfl, hp_mu (tm_6_1 (List.mem_of_getElem? (i := 1) rfl)) rfl, rfl, rfl, rfl⟩
theorem lb_X11_treeOfWay : hp_LB yX11_treeOfWay cX11_treeOfWay 3 (some .int) 2 := ⟨hp_mu (tm_6_1 (List.mem_of_getElem? (i := 6) rfl)) rfl, hp_mu (tb_1 (List.mem_of_getElem? (i := 1) rfl)) rfl, by decide, by decide +kernel⟩
theorem lv_X11_treeOfWay : hp_LV yX11_treeOfWay 12 := ⟨hp_mu (tm_6_1 (List.mem_of_getElem? (i := 5) rfl)) rfl, hp_mu (tm_0_1 (List.mem_of_getElem? (i := 15) rfl)) rfl, rfl, rfl, rfl⟩
theorem lb_X11_rise : hp_LB yX11_rise cX11_rise 5 (some .int) 4 := ⟨hp_mu (tm_6_1 (List.mem_of_getElem? (i := 10) rfl)) rfl, hp_mu (tb_1 (List.mem_of_getElem? (i := 1) rfl)) rfl, by decide, by decide +kernel⟩
theorem lv_X11_rise : hp_LV yX11_rise 12 := ⟨hp_mu (tm_6_1 (List.mem_of_getElem? (i := 8) rfl)) rfl, hp_mu (tm_6_1 (List.mem_of_getElem? (i := 9) rfl)) rfl, rfl, rfl, rfl⟩
theorem lb_X11_kept : hp_LB yX11_kept cX11_kept 4 (some .int) 3 := ⟨hp_mu (tm_6_1 (List.mem_of_getElem? (i := 14) rfl)) rfl, hp_mu (tb_1 (List.mem_of_getElem? (i := 1) rfl)) rfl, by decide, by decide +kernel⟩
theorem lv_X11_kept : hp_LV yX11_kept 12 := ⟨hp_mu (tm_6_1 (List.mem_of_getElem? (i := 12) rfl)) rfl, hp_mu (tm_6_1 (List.mem_of_getElem? (i := 13) rfl)) rfl, rfl, rfl, rfl⟩
theorem lb_X8_countShared : hp_LB yX8_countShared cX8_countShared 5 (some .int) 1 := ⟨hp_mu (tm_6_2 (List.mem_of_getElem? (i := 2) rfl)) rfl, hp_mu (tb_1 (List.mem_of_getElem? (i := 4) rfl)) rfl, by decide, by decide +kernel⟩
theorem lv_X8_countShared : hp_LV yX8_countShared 9 := ⟨hp_mu (tm_6_2 (List.mem_of_getElem? (i := 0) rfl)) rfl, hp_mu (tm_6_2 (List.mem_of_getElem? (i := 1) rfl)) rfl, rfl, rfl, rfl⟩
theorem lb_X11_sick : hp_LB yX11_sick cX11_sick 3 (some .int) 1 := ⟨hp_mu (tm_6_2 (List.mem_of_getElem? (i := 8) rfl)) rfl, hp_mu (tb_1 (List.mem_of_getElem? (i := 1) rfl)) rfl, by decide, by decide +kernel⟩
theorem lv_X11_sick : hp_LV yX11_sick 12 := ⟨hp_mu (tm_6_2 (List.mem_of_getElem? (i := 6) rfl)) rfl, hp_mu (tm_6_2 (List.mem_of_getElem? (i := 7) rfl)) rfl, rfl, rfl, rfl⟩
theorem lb_X10_sickBits : hp_LB yX10_sickBits cX10_sickBits 5 (some .int) 2 := ⟨hp_mu (tm_6_2 (List.mem_of_getElem? (i := 12) rfl)) rfl, hp_mu (tb_1 (List.mem_of_getElem? (i := 2) rfl)) rfl, by decide, by decide +kernel⟩
theorem lv_X10_sickBits : hp_LV yX10_sickBits 11 := ⟨hp_mu (tm_6_2 (List.mem_of_getElem? (i := 10) rfl)) rfl, hp_mu (tm_6_2 (List.mem_of_getElem? (i := 11) rfl)) rfl, rfl, rfl, rfl⟩
theorem lb_X11_chain : hp_LB yX11_chain cX11_chain 9 (some .int) 2 := ⟨hp_mu (tm_6_3 (List.mem_of_getElem? (i := 1) rfl)) rfl, hp_mu (tb_1 (List.mem_of_getElem? (i := 1) rfl)) rfl, by decide, by decide +kernel⟩
theorem lv_X11_chain : hp_LV yX11_chain 12 := ⟨hp_mu (tm_6_2 (List.mem_of_getElem? (i := 15) rfl)) rfl, hp_mu (tm_6_3 (List.mem_of_getElem? (i := 0) rfl)) rfl, rfl, rfl, rfl⟩
theorem lb_X10_leastFrozenAbove : hp_LB yX10_leastFrozenAbove cX10_leastFrozenAbove 6 (some .int) 2 := ⟨hp_mu (tm_6_3 (List.mem_of_getElem? (i := 5) rfl)) rfl, hp_mu (tb_1 (List.mem_of_getElem? (i := 2) rfl)) rfl, by decide, by decide +kernel⟩
theorem lv_X10_leastFrozenAbove : hp_LV yX10_leastFrozenAbove 11 := ⟨hp_mu (tm_6_3 (List.mem_of_getElem? (i := 3) rfl)) rfl, hp_mu (tm_6_3 (List.mem_of_getElem? (i := 4) rfl)) rfl, rfl, rfl, rfl⟩
theorem lb_X11_addLinks : hp_LB yX11_addLinks cX11_addLinks 5 (some .int) 1 := ⟨hp_mu (tm_6_3 (List.mem_of_getElem? (i := 9) rfl)) rfl, hp_mu (tb_1 (List.mem_of_getElem? (i := 1) rfl)) rfl, by decide, by decide +kernel⟩
theorem lv_X11_addLinks : hp_LV yX11_addLinks 12 := ⟨hp_mu (tm_6_3 (List.mem_of_getElem? (i := 8) rfl)) rfl, hp_mu (tm_0_2 (List.mem_of_getElem? (i := 0) rfl)) rfl, rfl, rfl, rfl⟩
theorem lb_X11_isLink : hp_LB yX11_isLink cX11_isLink 4 (some .boolean) 2 := ⟨hp_mu (tm_6_3 (List.mem_of_getElem? (i := 13) rfl)) rfl, hp_mu (tb_1 (List.mem_of_getElem? (i := 1) rfl)) rfl, by decide, by decide +kernel⟩
theorem lv_X11_isLink : hp_LV yX11_isLink 12 := ⟨hp_mu (tm_6_3 (List.mem_of_getElem? (i := 12) rfl)) rfl, hp_mu (tm_0_2 (List.mem_of_getElem? (i := 1) rfl)) rfl, rfl, rfl, rfl⟩
theorem lb_X11_split : hp_LB yX11_split cX11_split 6 (some .int) 1 := ⟨hp_mu (tm_6_4 (List.mem_of_getElem? (i := 1) rfl)) rfl, hp_mu (tb_1 (List.mem_of_getElem? (i := 1) rfl)) rfl, by decide, by decide +kernel⟩
theorem lv_X11_split : hp_LV yX11_split 12 := ⟨hp_mu (tm_6_3 (List.mem_of_getElem? (i := 15) rfl)) rfl, hp_mu (tm_6_4 (List.mem_of_getElem? (i := 0) rfl)) rfl, rfl, rfl, rfl⟩
theorem lb_X11_tell : hp_LB yX11_tell cX11_tell 6 (some .int) 3 := ⟨hp_mu (tm_6_4 (List.mem_of_getElem? (i := 5) rfl)) rfl, hp_mu (tb_1 (List.mem_of_getElem? (i := 1) rfl)) rfl, by decide, by decide +kernel⟩
theorem lv_X11_tell : hp_LV yX11_tell 12 := ⟨hp_mu (tm_6_4 (List.mem_of_getElem? (i := 3) rfl)) rfl, hp_mu (tm_6_4 (List.mem_of_getElem? (i := 4) rfl)) rfl, rfl, rfl, rfl⟩
theorem lb_X11_tellText : hp_LB yX11_tellText cX11_tellText 3 none 1 := ⟨hp_mu (tm_6_4 (List.mem_of_getElem? (i := 10) rfl)) rfl, hp_mu (tb_1 (List.mem_of_getElem? (i := 1) rfl)) rfl, by decide, by decide +kernel⟩
theorem lv_X11_tellText : hp_LV yX11_tellText 12 := ⟨hp_mu (tm_6_4 (List.mem_of_getElem? (i := 9) rfl)) rfl, hp_mu (tm_0_2 (List.mem_of_getElem? (i := 2) rfl)) rfl, rfl, rfl, rfl⟩
theorem lb_X11_tellByte : hp_LB yX11_tellByte cX11_tellByte 2 none 1 := ⟨hp_mu (tm_6_5 (List.mem_of_getElem? (i := 0) rfl)) rfl, hp_mu (tb_1 (List.mem_of_getElem? (i := 1) rfl)) rfl, by decide, by decide +kernel⟩
theorem lv_X11_tellByte : hp_LV yX11_tellByte 12 := ⟨hp_mu (tm_6_4 (List.mem_of_getElem? (i := 15) rfl)) rfl, hp_mu (tm_0_2 (List.mem_of_getElem? (i := 3) rfl)) rfl, rfl, rfl, rfl⟩
theorem lb_X11_tellNumber : hp_LB yX11_tellNumber cX11_tellNumber 4 none 1 := ⟨hp_mu (tm_6_5 (List.mem_of_getElem? (i := 4) rfl)) rfl, hp_mu (tb_1 (List.mem_of_getElem? (i := 1) rfl)) rfl, by decide, by decide +kernel⟩
theorem lv_X11_tellNumber : hp_LV yX11_tellNumber 12 := ⟨hp_mu (tm_6_5 (List.mem_of_getElem? (i := 3) rfl)) rfl, hp_mu (tm_0_2 (List.mem_of_getElem? (i := 4) rfl)) rfl, rfl, rfl, rfl⟩
theorem lb_X11_tellProof : hp_LB yX11_tellProof cX11_tellProof 2 none 0 := ⟨hp_mu (tm_6_5 (List.mem_of_getElem? (i := 11) rfl)) rfl, hp_mu (tb_1 (List.mem_of_getElem? (i := 1) rfl)) rfl, by decide, by decide +kernel⟩
theorem lv_X11_tellProof : hp_LV yX11_tellProof 12 := ⟨hp_mu (tm_6_5 (List.mem_of_getElem? (i := 10) rfl)) rfl, hp_mu (tm_0_2 (List.mem_of_getElem? (i := 5) rfl)) rfl, rfl, rfl, rfl⟩
theorem lb_X11_tellGrowth : hp_LB yX11_tellGrowth cX11_tellGrowth 6 (some .int) 3 := ⟨hp_mu (tm_6_6 (List.mem_of_getElem? (i := 2) rfl)) rfl, hp_mu (tb_1 (List.mem_of_getElem? (i := 1) rfl)) rfl, by decide, by decide +kernel⟩
theorem lv_X11_tellGrowth : hp_LV yX11_tellGrowth 12 := ⟨hp_mu (tm_6_6 (List.mem_of_getElem? (i := 0) rfl)) rfl, hp_mu (tm_6_6 (List.mem_of_getElem? (i := 1) rfl)) rfl, rfl, rfl, rfl⟩
theorem lb_X11_out : hp_LB yX11_out cX11_out 2 (some .int) 1 := ⟨hp_mu (tm_6_6 (List.mem_of_getElem? (i := 8) rfl)) rfl, hp_mu (tb_1 (List.mem_of_getElem? (i := 1) rfl)) rfl, by decide, by decide +kernel⟩
theorem lv_X11_out : hp_LV yX11_out 12 := ⟨hp_mu (tm_6_6 (List.mem_of_getElem? (i := 6) rfl)) rfl, hp_mu (tm_6_6 (List.mem_of_getElem? (i := 7) rfl)) rfl, rfl, rfl, rfl⟩
theorem lb_X11_trusted : hp_LB yX11_trusted cX11_trusted 6 (some .int) 2 := ⟨hp_mu (tm_6_6 (List.mem_of_getElem? (i := 12) rfl)) rfl, hp_mu (tb_1 (List.mem_of_getElem? (i := 1) rfl)) rfl, by decide, by decide +kernel⟩
theorem lv_X11_trusted : hp_LV yX11_trusted 12 := ⟨hp_mu (tm_6_6 (List.mem_of_getElem? (i := 10) rfl)) rfl, hp_mu (tm_6_6 (List.mem_of_getElem? (i := 11) rfl)) rfl, rfl, rfl, rfl⟩
theorem lb_X11_saves : hp_LB yX11_saves cX11_saves 5 (some .int) 2 := ⟨hp_mu (tm_6_7 (List.mem_of_getElem? (i := 0) rfl)) rfl, hp_mu (tb_1 (List.mem_of_getElem? (i := 1) rfl)) rfl, by decide, by decide +kernel⟩
theorem lv_X11_saves : hp_LV yX11_saves 12 := ⟨hp_mu (tm_6_6 (List.mem_of_getElem? (i := 14) rfl)) rfl, hp_mu (tm_6_6 (List.mem_of_getElem? (i := 15) rfl)) rfl, rfl, rfl, rfl⟩
theorem lb_X11_who : hp_LB yX11_who cX11_who 5 (some .int) 2 := ⟨hp_mu (tm_6_7 (List.mem_of_getElem? (i := 5) rfl)) rfl, hp_mu (tb_1 (List.mem_of_getElem? (i := 1) rfl)) rfl, by decide, by decide +kernel⟩
theorem lv_X11_who : hp_LV yX11_who 12 := ⟨hp_mu (tm_6_7 (List.mem_of_getElem? (i := 3) rfl)) rfl, hp_mu (tm_6_7 (List.mem_of_getElem? (i := 4) rfl)) rfl, rfl, rfl, rfl⟩
theorem lb_X12_init : hp_LB yX12_init cX12_init 1 none 0 := ⟨hp_mu (tm_6_7 (List.mem_of_getElem? (i := 11) rfl)) rfl, hp_mu (tb_1 (List.mem_of_getElem? (i := 12) rfl)) rfl, by decide, by decide +kernel⟩
theorem li_X12_init : Cond.instanceMethod yX12_init ∈ lw_u := hp_mu (tm_6_7 (List.mem_of_getElem? (i := 10) rfl)) rfl
theorem lb_X12_clears : hp_LB yX12_clears cX12_clears 2 none 0 := ⟨hp_mu (tm_6_8 (List.mem_of_getElem? (i := 12) rfl)) rfl, hp_mu (tb_1 (List.mem_of_getElem? (i := 12) rfl)) rfl, by decide, by decide +kernel⟩
theorem lv_X12_clears : hp_LV yX12_clears 13 := ⟨hp_mu (tm_6_8 (List.mem_of_getElem? (i := 11) rfl)) rfl, hp_mu (tm_0_2 (List.mem_of_getElem? (i := 6) rfl)) rfl, rfl, rfl, rfl⟩
theorem lb_X12_status : hp_LB yX12_status cX12_status 1 (some .int) 0 := ⟨hp_mu (tm_7_3 (List.mem_of_getElem? (i := 3) rfl)) rfl, hp_mu (tb_1 (List.mem_of_getElem? (i := 12) rfl)) rfl, by decide, by decide +kernel⟩
theorem lv_X12_status : hp_LV yX12_status 13 := ⟨hp_mu (tm_7_3 (List.mem_of_getElem? (i := 1) rfl)) rfl, hp_mu (tm_7_3 (List.mem_of_getElem? (i := 2) rfl)) rfl, rfl, rfl, rfl⟩
theorem lb_X12_type : hp_LB yX12_type cX12_type 7 (some .int) 2 := ⟨hp_mu (tm_7_3 (List.mem_of_getElem? (i := 7) rfl)) rfl, hp_mu (tb_1 (List.mem_of_getElem? (i := 12) rfl)) rfl, by decide, by decide +kernel⟩
theorem lv_X12_type : hp_LV yX12_type 13 := ⟨hp_mu (tm_7_3 (List.mem_of_getElem? (i := 5) rfl)) rfl, hp_mu (tm_7_3 (List.mem_of_getElem? (i := 6) rfl)) rfl, rfl, rfl, rfl⟩
theorem lb_X12_feed : hp_LB yX12_feed cX12_feed 6 (some .int) 5 := ⟨hp_mu (tm_7_3 (List.mem_of_getElem? (i := 11) rfl)) rfl, hp_mu (tb_1 (List.mem_of_getElem? (i := 12) rfl)) rfl, by decide, by decide +kernel⟩
theorem lv_X12_feed : hp_LV yX12_feed 13 := ⟨hp_mu (tm_7_3 (List.mem_of_getElem? (i := 9) rfl)) rfl, hp_mu (tm_7_3 (List.mem_of_getElem? (i := 10) rfl)) rfl, rfl, rfl, rfl⟩
theorem lb_X12_puts : hp_LB yX12_puts cX12_puts 3 none 1 := ⟨hp_mu (tm_7_3 (List.mem_of_getElem? (i := 15) rfl)) rfl, hp_mu (tb_1 (List.mem_of_getElem? (i := 12) rfl)) rfl, by decide, by decide +kernel⟩
theorem lv_X12_puts : hp_LV yX12_puts 13 := ⟨hp_mu (tm_7_3 (List.mem_of_getElem? (i := 14) rfl)) rfl, hp_mu (tm_0_2 (List.mem_of_getElem? (i := 7) rfl)) rfl, rfl, rfl, rfl⟩
theorem lb_X12_load : hp_LB yX12_load cX12_load 3 (some .int) 1 := ⟨hp_mu (tm_7_4 (List.mem_of_getElem? (i := 3) rfl)) rfl, hp_mu (tb_1 (List.mem_of_getElem? (i := 12) rfl)) rfl, by decide, by decide +kernel⟩
theorem lv_X12_load : hp_LV yX12_load 13 := ⟨hp_mu (tm_7_4 (List.mem_of_getElem? (i := 1) rfl)) rfl, hp_mu (tm_7_4 (List.mem_of_getElem? (i := 2) rfl)) rfl, rfl, rfl, rfl⟩
theorem lb_X12_isIn : hp_LB yX12_isIn cX12_isIn 3 (some .boolean) 3 := ⟨hp_mu (tm_7_4 (List.mem_of_getElem? (i := 6) rfl)) rfl, hp_mu (tb_1 (List.mem_of_getElem? (i := 12) rfl)) rfl, by decide, by decide +kernel⟩
theorem ls_X12_isIn : Cond.static yX12_isIn ∈ lw_u := hp_mu (tm_7_4 (List.mem_of_getElem? (i := 5) rfl)) rfl
theorem lb_X12_is : hp_LB yX12_is cX12_is 2 (some .boolean) 1 := ⟨hp_mu (tm_7_4 (List.mem_of_getElem? (i := 10) rfl)) rfl, hp_mu (tb_1 (List.mem_of_getElem? (i := 12) rfl)) rfl, by decide, by decide +kernel⟩
theorem lv_X12_is : hp_LV yX12_is 13 := ⟨hp_mu (tm_7_4 (List.mem_of_getElem? (i := 9) rfl)) rfl, hp_mu (tm_0_2 (List.mem_of_getElem? (i := 8) rfl)) rfl, rfl, rfl, rfl⟩
theorem lb_X12_begins : hp_LB yX12_begins cX12_begins 2 none 1 := ⟨hp_mu (tm_7_4 (List.mem_of_getElem? (i := 14) rfl)) rfl, hp_mu (tb_1 (List.mem_of_getElem? (i := 12) rfl)) rfl, by decide, by decide +kernel⟩
theorem lv_X12_begins : hp_LV yX12_begins 13 := ⟨hp_mu (tm_7_4 (List.mem_of_getElem? (i := 13) rfl)) rfl, hp_mu (tm_0_2 (List.mem_of_getElem? (i := 9) rfl)) rfl, rfl, rfl, rfl⟩
theorem lb_X12_reads : hp_LB yX12_reads cX12_reads 1 none 0 := ⟨hp_mu (tm_7_5 (List.mem_of_getElem? (i := 2) rfl)) rfl, hp_mu (tb_1 (List.mem_of_getElem? (i := 12) rfl)) rfl, by decide, by decide +kernel⟩
theorem lv_X12_reads : hp_LV yX12_reads 13 := ⟨hp_mu (tm_7_5 (List.mem_of_getElem? (i := 1) rfl)) rfl, hp_mu (tm_0_2 (List.mem_of_getElem? (i := 10) rfl)) rfl, rfl, rfl, rfl⟩
theorem lb_X12_isOf : hp_LB yX12_isOf cX12_isOf 4 (some .boolean) 3 := ⟨hp_mu (tm_7_5 (List.mem_of_getElem? (i := 6) rfl)) rfl, hp_mu (tb_1 (List.mem_of_getElem? (i := 12) rfl)) rfl, by decide, by decide +kernel⟩
theorem lv_X12_isOf : hp_LV yX12_isOf 13 := ⟨hp_mu (tm_7_5 (List.mem_of_getElem? (i := 5) rfl)) rfl, hp_mu (tm_0_2 (List.mem_of_getElem? (i := 11) rfl)) rfl, rfl, rfl, rfl⟩
theorem lb_X12_isWord : hp_LB yX12_isWord cX12_isWord 2 (some .boolean) 1 := ⟨hp_mu (tm_7_5 (List.mem_of_getElem? (i := 12) rfl)) rfl, hp_mu (tb_1 (List.mem_of_getElem? (i := 12) rfl)) rfl, by decide, by decide +kernel⟩
theorem lv_X12_isWord : hp_LV yX12_isWord 13 := ⟨hp_mu (tm_7_5 (List.mem_of_getElem? (i := 11) rfl)) rfl, hp_mu (tm_0_2 (List.mem_of_getElem? (i := 12) rfl)) rfl, rfl, rfl, rfl⟩
theorem lb_X12_takesNumber : hp_LB yX12_takesNumber cX12_takesNumber 4 (some .int) 2 := ⟨hp_mu (tm_7_6 (List.mem_of_getElem? (i := 0) rfl)) rfl, hp_mu (tb_1 (List.mem_of_getElem? (i := 12) rfl)) rfl, by decide, by decide +kernel⟩
theorem lv_X12_takesNumber : hp_LV yX12_takesNumber 13 := ⟨hp_mu (tm_7_5 (List.mem_of_getElem? (i := 15) rfl)) rfl, hp_mu (tm_0_2 (List.mem_of_getElem? (i := 13) rfl)) rfl, rfl, rfl, rfl⟩
theorem lb_X12_must : hp_LB yX12_must cX12_must 3 none 2 := ⟨hp_mu (tm_7_6 (List.mem_of_getElem? (i := 4) rfl)) rfl, hp_mu (tb_1 (List.mem_of_getElem? (i := 12) rfl)) rfl, by decide, by decide +kernel⟩
theorem lv_X12_must : hp_LV yX12_must 13 := ⟨hp_mu (tm_7_6 (List.mem_of_getElem? (i := 3) rfl)) rfl, hp_mu (tm_0_2 (List.mem_of_getElem? (i := 14) rfl)) rfl, rfl, rfl, rfl⟩
theorem lb_X12_takesEnd : hp_LB yX12_takesEnd cX12_takesEnd 1 none 0 := ⟨hp_mu (tm_7_6 (List.mem_of_getElem? (i := 8) rfl)) rfl, hp_mu (tb_1 (List.mem_of_getElem? (i := 12) rfl)) rfl, by decide, by decide +kernel⟩
theorem lv_X12_takesEnd : hp_LV yX12_takesEnd 13 := ⟨hp_mu (tm_7_6 (List.mem_of_getElem? (i := 7) rfl)) rfl, hp_mu (tm_0_2 (List.mem_of_getElem? (i := 15) rfl)) rfl, rfl, rfl, rfl⟩
theorem lb_X12_line : hp_LB yX12_line cX12_line 3 none 0 := ⟨hp_mu (tm_7_6 (List.mem_of_getElem? (i := 12) rfl)) rfl, hp_mu (tb_1 (List.mem_of_getElem? (i := 12) rfl)) rfl, by decide, by decide +kernel⟩
theorem lv_X12_line : hp_LV yX12_line 13 := ⟨hp_mu (tm_7_6 (List.mem_of_getElem? (i := 11) rfl)) rfl, hp_mu (tm_0_3 (List.mem_of_getElem? (i := 0) rfl)) rfl, rfl, rfl, rfl⟩
theorem lb_X12_addLine : hp_LB yX12_addLine cX12_addLine 2 none 0 := ⟨hp_mu (tm_7_7 (List.mem_of_getElem? (i := 0) rfl)) rfl, hp_mu (tb_1 (List.mem_of_getElem? (i := 12) rfl)) rfl, by decide, by decide +kernel⟩
theorem lv_X12_addLine : hp_LV yX12_addLine 13 := ⟨hp_mu (tm_7_6 (List.mem_of_getElem? (i := 15) rfl)) rfl, hp_mu (tm_0_3 (List.mem_of_getElem? (i := 1) rfl)) rfl, rfl, rfl, rfl⟩
theorem lb_X12_sizeOf : hp_LB yX12_sizeOf cX12_sizeOf 2 (some .int) 1 := ⟨hp_mu (tm_7_7 (List.mem_of_getElem? (i := 4) rfl)) rfl, hp_mu (tb_1 (List.mem_of_getElem? (i := 12) rfl)) rfl, by decide, by decide +kernel⟩
theorem lv_X12_sizeOf : hp_LV yX12_sizeOf 13 := ⟨hp_mu (tm_7_7 (List.mem_of_getElem? (i := 3) rfl)) rfl, hp_mu (tm_0_3 (List.mem_of_getElem? (i := 2) rfl)) rfl, rfl, rfl, rfl⟩
theorem lb_X12_adds : hp_LB yX12_adds cX12_adds 4 (some .int) 1 := ⟨hp_mu (tm_7_7 (List.mem_of_getElem? (i := 8) rfl)) rfl, hp_mu (tb_1 (List.mem_of_getElem? (i := 12) rfl)) rfl, by decide, by decide +kernel⟩
theorem lv_X12_adds : hp_LV yX12_adds 13 := ⟨hp_mu (tm_7_7 (List.mem_of_getElem? (i := 7) rfl)) rfl, hp_mu (tm_0_3 (List.mem_of_getElem? (i := 3) rfl)) rfl, rfl, rfl, rfl⟩
theorem lb_X12_refuse : hp_LB yX12_refuse cX12_refuse 2 (some .int) 1 := ⟨hp_mu (tm_7_7 (List.mem_of_getElem? (i := 12) rfl)) rfl, hp_mu (tb_1 (List.mem_of_getElem? (i := 12) rfl)) rfl, by decide, by decide +kernel⟩
theorem lv_X12_refuse : hp_LV yX12_refuse 13 := ⟨hp_mu (tm_7_7 (List.mem_of_getElem? (i := 11) rfl)) rfl, hp_mu (tm_0_3 (List.mem_of_getElem? (i := 4) rfl)) rfl, rfl, rfl, rfl⟩
theorem lb_X12_forkLine : hp_LB yX12_forkLine cX12_forkLine 2 none 0 := ⟨hp_mu (tm_7_8 (List.mem_of_getElem? (i := 0) rfl)) rfl, hp_mu (tb_1 (List.mem_of_getElem? (i := 12) rfl)) rfl, by decide, by decide +kernel⟩
theorem lv_X12_forkLine : hp_LV yX12_forkLine 13 := ⟨hp_mu (tm_7_7 (List.mem_of_getElem? (i := 15) rfl)) rfl, hp_mu (tm_0_3 (List.mem_of_getElem? (i := 5) rfl)) rfl, rfl, rfl, rfl⟩
theorem lb_X12_forks : hp_LB yX12_forks cX12_forks 6 (some .int) 2 := ⟨hp_mu (tm_7_8 (List.mem_of_getElem? (i := 4) rfl)) rfl, hp_mu (tb_1 (List.mem_of_getElem? (i := 12) rfl)) rfl, by decide, by decide +kernel⟩
theorem lv_X12_forks : hp_LV yX12_forks 13 := ⟨hp_mu (tm_7_8 (List.mem_of_getElem? (i := 3) rfl)) rfl, hp_mu (tm_0_3 (List.mem_of_getElem? (i := 6) rfl)) rfl, rfl, rfl, rfl⟩
theorem lb_X12_freezes : hp_LB yX12_freezes cX12_freezes 4 (some .int) 1 := ⟨hp_mu (tm_7_8 (List.mem_of_getElem? (i := 8) rfl)) rfl, hp_mu (tb_1 (List.mem_of_getElem? (i := 12) rfl)) rfl, by decide, by decide +kernel⟩
theorem lv_X12_freezes : hp_LV yX12_freezes 13 := ⟨hp_mu (tm_7_8 (List.mem_of_getElem? (i := 7) rfl)) rfl, hp_mu (tm_0_3 (List.mem_of_getElem? (i := 7) rfl)) rfl, rfl, rfl, rfl⟩
theorem lb_X12_headOf : hp_LB yX12_headOf cX12_headOf 3 (some .int) 2 := ⟨hp_mu (tm_7_8 (List.mem_of_getElem? (i := 12) rfl)) rfl, hp_mu (tb_1 (List.mem_of_getElem? (i := 12) rfl)) rfl, by decide, by decide +kernel⟩
theorem lv_X12_headOf : hp_LV yX12_headOf 13 := ⟨hp_mu (tm_7_8 (List.mem_of_getElem? (i := 11) rfl)) rfl, hp_mu (tm_0_3 (List.mem_of_getElem? (i := 8) rfl)) rfl, rfl, rfl, rfl⟩
theorem lb_X12_treeMark : hp_LB yX12_treeMark cX12_treeMark 5 (some .int) 3 := ⟨hp_mu (tm_7_9 (List.mem_of_getElem? (i := 0) rfl)) rfl, hp_mu (tb_1 (List.mem_of_getElem? (i := 12) rfl)) rfl, by decide, by decide +kernel⟩
theorem lv_X12_treeMark : hp_LV yX12_treeMark 13 := ⟨hp_mu (tm_7_8 (List.mem_of_getElem? (i := 15) rfl)) rfl, hp_mu (tm_0_3 (List.mem_of_getElem? (i := 9) rfl)) rfl, rfl, rfl, rfl⟩
theorem lb_X12_entryMark : hp_LB yX12_entryMark cX12_entryMark 6 (some .int) 2 := ⟨hp_mu (tm_7_9 (List.mem_of_getElem? (i := 4) rfl)) rfl, hp_mu (tb_1 (List.mem_of_getElem? (i := 12) rfl)) rfl, by decide, by decide +kernel⟩
theorem lv_X12_entryMark : hp_LV yX12_entryMark 13 := ⟨hp_mu (tm_7_9 (List.mem_of_getElem? (i := 3) rfl)) rfl, hp_mu (tm_0_3 (List.mem_of_getElem? (i := 10) rfl)) rfl, rfl, rfl, rfl⟩
theorem lb_X12_mixed : hp_LB yX12_mixed cX12_mixed 3 (some .int) 2 := ⟨hp_mu (tm_7_9 (List.mem_of_getElem? (i := 8) rfl)) rfl, hp_mu (tb_1 (List.mem_of_getElem? (i := 12) rfl)) rfl, by decide, by decide +kernel⟩
theorem lv_X12_mixed : hp_LV yX12_mixed 13 := ⟨hp_mu (tm_7_9 (List.mem_of_getElem? (i := 7) rfl)) rfl, hp_mu (tm_0_3 (List.mem_of_getElem? (i := 11) rfl)) rfl, rfl, rfl, rfl⟩
theorem lb_X12_part0 : hp_LB yX12_part0 cX12_part0 2 (some .int) 1 := ⟨hp_mu (tm_7_9 (List.mem_of_getElem? (i := 13) rfl)) rfl, hp_mu (tb_1 (List.mem_of_getElem? (i := 12) rfl)) rfl, by decide, by decide +kernel⟩
theorem ls_X12_part0 : Cond.static yX12_part0 ∈ lw_u := hp_mu (tm_7_9 (List.mem_of_getElem? (i := 12) rfl)) rfl
theorem lb_X12_both : hp_LB yX12_both cX12_both 3 (some .int) 2 := ⟨hp_mu (tm_7_10 (List.mem_of_getElem? (i := 1) rfl)) rfl, hp_mu (tb_1 (List.mem_of_getElem? (i := 12) rfl)) rfl, by decide, by decide +kernel⟩
theorem lv_X12_both : hp_LV yX12_both 13 := ⟨hp_mu (tm_7_10 (List.mem_of_getElem? (i := 0) rfl)) rfl, hp_mu (tm_0_3 (List.mem_of_getElem? (i := 12) rfl)) rfl, rfl, rfl, rfl⟩
theorem lb_X12_peaksOf : hp_LB yX12_peaksOf cX12_peaksOf 4 none 1 := ⟨hp_mu (tm_7_10 (List.mem_of_getElem? (i := 5) rfl)) rfl, hp_mu (tb_1 (List.mem_of_getElem? (i := 12) rfl)) rfl, by decide, by decide +kernel⟩
theorem lv_X12_peaksOf : hp_LV yX12_peaksOf 13 := ⟨hp_mu (tm_7_10 (List.mem_of_getElem? (i := 4) rfl)) rfl, hp_mu (tm_0_3 (List.mem_of_getElem? (i := 13) rfl)) rfl, rfl, rfl, rfl⟩
theorem lb_X12_asks : hp_LB yX12_asks cX12_asks 3 none 2 := ⟨hp_mu (tm_7_10 (List.mem_of_getElem? (i := 10) rfl)) rfl, hp_mu (tb_1 (List.mem_of_getElem? (i := 12) rfl)) rfl, by decide, by decide +kernel⟩
theorem lv_X12_asks : hp_LV yX12_asks 13 := ⟨hp_mu (tm_7_10 (List.mem_of_getElem? (i := 9) rfl)) rfl, hp_mu (tm_0_3 (List.mem_of_getElem? (i := 14) rfl)) rfl, rfl, rfl, rfl⟩
theorem lb_X12_fetches : hp_LB yX12_fetches cX12_fetches 3 none 1 := ⟨hp_mu (tm_7_10 (List.mem_of_getElem? (i := 14) rfl)) rfl, hp_mu (tb_1 (List.mem_of_getElem? (i := 12) rfl)) rfl, by decide, by decide +kernel⟩
theorem lv_X12_fetches : hp_LV yX12_fetches 13 := ⟨hp_mu (tm_7_10 (List.mem_of_getElem? (i := 13) rfl)) rfl, hp_mu (tm_0_3 (List.mem_of_getElem? (i := 15) rfl)) rfl, rfl, rfl, rfl⟩
theorem lb_X12_takes : hp_LB yX12_takes cX12_takes 2 none 1 := ⟨hp_mu (tm_7_11 (List.mem_of_getElem? (i := 2) rfl)) rfl, hp_mu (tb_1 (List.mem_of_getElem? (i := 12) rfl)) rfl, by decide, by decide +kernel⟩
theorem lv_X12_takes : hp_LV yX12_takes 13 := ⟨hp_mu (tm_7_11 (List.mem_of_getElem? (i := 1) rfl)) rfl, hp_mu (tm_0_4 (List.mem_of_getElem? (i := 0) rfl)) rfl, rfl, rfl, rfl⟩
theorem lb_X12_shows : hp_LB yX12_shows cX12_shows 7 (some .int) 3 := ⟨hp_mu (tm_7_11 (List.mem_of_getElem? (i := 6) rfl)) rfl, hp_mu (tb_1 (List.mem_of_getElem? (i := 12) rfl)) rfl, by decide, by decide +kernel⟩
theorem lv_X12_shows : hp_LV yX12_shows 13 := ⟨hp_mu (tm_7_11 (List.mem_of_getElem? (i := 5) rfl)) rfl, hp_mu (tm_0_4 (List.mem_of_getElem? (i := 1) rfl)) rfl, rfl, rfl, rfl⟩
theorem lb_X12_trust : hp_LB yX12_trust cX12_trust 3 (some .int) 2 := ⟨hp_mu (tm_7_11 (List.mem_of_getElem? (i := 10) rfl)) rfl, hp_mu (tb_1 (List.mem_of_getElem? (i := 12) rfl)) rfl, by decide, by decide +kernel⟩
theorem lv_X12_trust : hp_LV yX12_trust 13 := ⟨hp_mu (tm_7_11 (List.mem_of_getElem? (i := 9) rfl)) rfl, hp_mu (tm_0_4 (List.mem_of_getElem? (i := 2) rfl)) rfl, rfl, rfl, rfl⟩
theorem lb_X12_whyByRecord : hp_LB yX12_whyByRecord cX12_whyByRecord 6 (some .int) 5 := ⟨hp_mu (tm_7_11 (List.mem_of_getElem? (i := 14) rfl)) rfl, hp_mu (tb_1 (List.mem_of_getElem? (i := 12) rfl)) rfl, by decide, by decide +kernel⟩
theorem lv_X12_whyByRecord : hp_LV yX12_whyByRecord 13 := ⟨hp_mu (tm_7_11 (List.mem_of_getElem? (i := 13) rfl)) rfl, hp_mu (tm_0_4 (List.mem_of_getElem? (i := 3) rfl)) rfl, rfl, rfl, rfl⟩
theorem lb_X12_growth : hp_LB yX12_growth cX12_growth 3 none 2 := ⟨hp_mu (tm_7_12 (List.mem_of_getElem? (i := 2) rfl)) rfl, hp_mu (tb_1 (List.mem_of_getElem? (i := 12) rfl)) rfl, by decide, by decide +kernel⟩
theorem lv_X12_growth : hp_LV yX12_growth 13 := ⟨hp_mu (tm_7_12 (List.mem_of_getElem? (i := 1) rfl)) rfl, hp_mu (tm_0_4 (List.mem_of_getElem? (i := 4) rfl)) rfl, rfl, rfl, rfl⟩
theorem lb_X12_growsIn : hp_LB yX12_growsIn cX12_growsIn 6 none 4 := ⟨hp_mu (tm_7_12 (List.mem_of_getElem? (i := 6) rfl)) rfl, hp_mu (tb_1 (List.mem_of_getElem? (i := 12) rfl)) rfl, by decide, by decide +kernel⟩
theorem lv_X12_growsIn : hp_LV yX12_growsIn 13 := ⟨hp_mu (tm_7_12 (List.mem_of_getElem? (i := 5) rfl)) rfl, hp_mu (tm_0_4 (List.mem_of_getElem? (i := 5) rfl)) rfl, rfl, rfl, rfl⟩
theorem lb_X12_whyGrown : hp_LB yX12_whyGrown cX12_whyGrown 6 (some .int) 5 := ⟨hp_mu (tm_7_12 (List.mem_of_getElem? (i := 10) rfl)) rfl, hp_mu (tb_1 (List.mem_of_getElem? (i := 12) rfl)) rfl, by decide, by decide +kernel⟩
theorem lv_X12_whyGrown : hp_LV yX12_whyGrown 13 := ⟨hp_mu (tm_7_12 (List.mem_of_getElem? (i := 9) rfl)) rfl, hp_mu (tm_0_4 (List.mem_of_getElem? (i := 6) rfl)) rfl, rfl, rfl, rfl⟩
theorem lb_X12_foldsGrowth : hp_LB yX12_foldsGrowth cX12_foldsGrowth 6 none 4 := ⟨hp_mu (tm_7_12 (List.mem_of_getElem? (i := 14) rfl)) rfl, hp_mu (tb_1 (List.mem_of_getElem? (i := 12) rfl)) rfl, by decide, by decide +kernel⟩
theorem lv_X12_foldsGrowth : hp_LV yX12_foldsGrowth 13 := ⟨hp_mu (tm_7_12 (List.mem_of_getElem? (i := 13) rfl)) rfl, hp_mu (tm_0_4 (List.mem_of_getElem? (i := 7) rfl)) rfl, rfl, rfl, rfl⟩
theorem lb_X12_trusts : hp_LB yX12_trusts cX12_trusts 4 none 3 := ⟨hp_mu (tm_7_13 (List.mem_of_getElem? (i := 2) rfl)) rfl, hp_mu (tb_1 (List.mem_of_getElem? (i := 12) rfl)) rfl, by decide, by decide +kernel⟩
theorem lv_X12_trusts : hp_LV yX12_trusts 13 := ⟨hp_mu (tm_7_13 (List.mem_of_getElem? (i := 1) rfl)) rfl, hp_mu (tm_0_4 (List.mem_of_getElem? (i := 8) rfl)) rfl, rfl, rfl, rfl⟩
theorem lb_X12_ends : hp_LB yX12_ends cX12_ends 1 none 0 := ⟨hp_mu (tm_7_13 (List.mem_of_getElem? (i := 6) rfl)) rfl, hp_mu (tb_1 (List.mem_of_getElem? (i := 12) rfl)) rfl, by decide, by decide +kernel⟩
theorem lv_X12_ends : hp_LV yX12_ends 13 := ⟨hp_mu (tm_7_13 (List.mem_of_getElem? (i := 5) rfl)) rfl, hp_mu (tm_0_4 (List.mem_of_getElem? (i := 9) rfl)) rfl, rfl, rfl, rfl⟩
theorem lb_X12_hear : hp_LB yX12_hear cX12_hear 5 (some .int) 1 := ⟨hp_mu (tm_7_13 (List.mem_of_getElem? (i := 10) rfl)) rfl, hp_mu (tb_1 (List.mem_of_getElem? (i := 12) rfl)) rfl, by decide, by decide +kernel⟩
theorem lv_X12_hear : hp_LV yX12_hear 13 := ⟨hp_mu (tm_7_13 (List.mem_of_getElem? (i := 8) rfl)) rfl, hp_mu (tm_7_13 (List.mem_of_getElem? (i := 9) rfl)) rfl, rfl, rfl, rfl⟩
theorem lb_X12_statementIn : hp_LB yX12_statementIn cX12_statementIn 6 (some .int) 0 := ⟨hp_mu (tm_7_13 (List.mem_of_getElem? (i := 14) rfl)) rfl, hp_mu (tb_1 (List.mem_of_getElem? (i := 12) rfl)) rfl, by decide, by decide +kernel⟩
theorem lv_X12_statementIn : hp_LV yX12_statementIn 13 := ⟨hp_mu (tm_7_13 (List.mem_of_getElem? (i := 13) rfl)) rfl, hp_mu (tm_0_4 (List.mem_of_getElem? (i := 10) rfl)) rfl, rfl, rfl, rfl⟩
theorem lb_X12_takesMark : hp_LB yX12_takesMark cX12_takesMark 1 (some .int) 0 := ⟨hp_mu (tm_7_14 (List.mem_of_getElem? (i := 3) rfl)) rfl, hp_mu (tb_1 (List.mem_of_getElem? (i := 12) rfl)) rfl, by decide, by decide +kernel⟩
theorem lv_X12_takesMark : hp_LV yX12_takesMark 13 := ⟨hp_mu (tm_7_14 (List.mem_of_getElem? (i := 2) rfl)) rfl, hp_mu (tm_0_4 (List.mem_of_getElem? (i := 11) rfl)) rfl, rfl, rfl, rfl⟩
theorem lb_X12_takesMarks : hp_LB yX12_takesMarks cX12_takesMarks 2 (some .int) 0 := ⟨hp_mu (tm_7_14 (List.mem_of_getElem? (i := 7) rfl)) rfl, hp_mu (tb_1 (List.mem_of_getElem? (i := 12) rfl)) rfl, by decide, by decide +kernel⟩
theorem lv_X12_takesMarks : hp_LV yX12_takesMarks 13 := ⟨hp_mu (tm_7_14 (List.mem_of_getElem? (i := 6) rfl)) rfl, hp_mu (tm_0_4 (List.mem_of_getElem? (i := 12) rfl)) rfl, rfl, rfl, rfl⟩
theorem lb_X12_isMark : hp_LB yX12_isMark cX12_isMark 2 (some .boolean) 1 := ⟨hp_mu (tm_7_14 (List.mem_of_getElem? (i := 11) rfl)) rfl, hp_mu (tb_1 (List.mem_of_getElem? (i := 12) rfl)) rfl, by decide, by decide +kernel⟩
theorem lv_X12_isMark : hp_LV yX12_isMark 13 := ⟨hp_mu (tm_7_14 (List.mem_of_getElem? (i := 10) rfl)) rfl, hp_mu (tm_0_4 (List.mem_of_getElem? (i := 13) rfl)) rfl, rfl, rfl, rfl⟩
theorem lb_X12_whyIn : hp_LB yX12_whyIn cX12_whyIn 7 (some .int) 5 := ⟨hp_mu (tm_7_14 (List.mem_of_getElem? (i := 15) rfl)) rfl, hp_mu (tb_1 (List.mem_of_getElem? (i := 12) rfl)) rfl, by decide, by decide +kernel⟩
theorem lv_X12_whyIn : hp_LV yX12_whyIn 13 := ⟨hp_mu (tm_7_14 (List.mem_of_getElem? (i := 14) rfl)) rfl, hp_mu (tm_0_4 (List.mem_of_getElem? (i := 14) rfl)) rfl, rfl, rfl, rfl⟩
theorem lb_X12_inclusion : hp_LB yX12_inclusion cX12_inclusion 3 none 2 := ⟨hp_mu (tb_8 (List.mem_of_getElem? (i := 3) rfl)) rfl, hp_mu (tb_1 (List.mem_of_getElem? (i := 12) rfl)) rfl, by decide, by decide +kernel⟩
theorem lv_X12_inclusion : hp_LV yX12_inclusion 13 := ⟨hp_mu (tb_8 (List.mem_of_getElem? (i := 2) rfl)) rfl, hp_mu (tm_0_4 (List.mem_of_getElem? (i := 15) rfl)) rfl, rfl, rfl, rfl⟩
theorem lb_X12_waysIn : hp_LB yX12_waysIn cX12_waysIn 5 none 3 := ⟨hp_mu (tb_8 (List.mem_of_getElem? (i := 7) rfl)) rfl, hp_mu (tb_1 (List.mem_of_getElem? (i := 12) rfl)) rfl, by decide, by decide +kernel⟩
theorem lv_X12_waysIn : hp_LV yX12_waysIn 13 := ⟨hp_mu (tb_8 (List.mem_of_getElem? (i := 6) rfl)) rfl, hp_mu (tm_0_5 (List.mem_of_getElem? (i := 0) rfl)) rfl, rfl, rfl, rfl⟩
theorem lb_X12_folded : hp_LB yX12_folded cX12_folded 4 (some .int) 3 := ⟨hp_mu (tb_8 (List.mem_of_getElem? (i := 11) rfl)) rfl, hp_mu (tb_1 (List.mem_of_getElem? (i := 12) rfl)) rfl, by decide, by decide +kernel⟩
theorem lv_X12_folded : hp_LV yX12_folded 13 := ⟨hp_mu (tb_8 (List.mem_of_getElem? (i := 10) rfl)) rfl, hp_mu (tm_0_5 (List.mem_of_getElem? (i := 1) rfl)) rfl, rfl, rfl, rfl⟩
theorem lb_X12_foldsIn : hp_LB yX12_foldsIn cX12_foldsIn 6 (some .int) 3 := ⟨hp_mu (tb_8 (List.mem_of_getElem? (i := 15) rfl)) rfl, hp_mu (tb_1 (List.mem_of_getElem? (i := 12) rfl)) rfl, by decide, by decide +kernel⟩
theorem lv_X12_foldsIn : hp_LV yX12_foldsIn 13 := ⟨hp_mu (tb_8 (List.mem_of_getElem? (i := 14) rfl)) rfl, hp_mu (tm_0_5 (List.mem_of_getElem? (i := 2) rfl)) rfl, rfl, rfl, rfl⟩
theorem lb_X12_why : hp_LB yX12_why cX12_why 4 (some .int) 3 := ⟨hp_mu (tm_8_1 (List.mem_of_getElem? (i := 3) rfl)) rfl, hp_mu (tb_1 (List.mem_of_getElem? (i := 12) rfl)) rfl, by decide, by decide +kernel⟩
theorem lv_X12_why : hp_LV yX12_why 13 := ⟨hp_mu (tm_8_1 (List.mem_of_getElem? (i := 2) rfl)) rfl, hp_mu (tm_0_5 (List.mem_of_getElem? (i := 3) rfl)) rfl, rfl, rfl, rfl⟩
theorem lb_X12_statementGrow : hp_LB yX12_statementGrow cX12_statementGrow 6 (some .int) 0 := ⟨hp_mu (tm_8_1 (List.mem_of_getElem? (i := 7) rfl)) rfl, hp_mu (tb_1 (List.mem_of_getElem? (i := 12) rfl)) rfl, by decide, by decide +kernel⟩
theorem lv_X12_statementGrow : hp_LV yX12_statementGrow 13 := ⟨hp_mu (tm_8_1 (List.mem_of_getElem? (i := 6) rfl)) rfl, hp_mu (tm_0_5 (List.mem_of_getElem? (i := 4) rfl)) rfl, rfl, rfl, rfl⟩
theorem lb_X12_heard : hp_LB yX12_heard cX12_heard 2 (some .int) 1 := ⟨hp_mu (tm_8_1 (List.mem_of_getElem? (i := 11) rfl)) rfl, hp_mu (tb_1 (List.mem_of_getElem? (i := 12) rfl)) rfl, by decide, by decide +kernel⟩
theorem lv_X12_heard : hp_LV yX12_heard 13 := ⟨hp_mu (tm_8_1 (List.mem_of_getElem? (i := 9) rfl)) rfl, hp_mu (tm_8_1 (List.mem_of_getElem? (i := 10) rfl)) rfl, rfl, rfl, rfl⟩
theorem lb_X12_fault : hp_LB yX12_fault cX12_fault 2 (some .int) 1 := ⟨hp_mu (tm_8_1 (List.mem_of_getElem? (i := 15) rfl)) rfl, hp_mu (tb_1 (List.mem_of_getElem? (i := 12) rfl)) rfl, by decide, by decide +kernel⟩
theorem lv_X12_fault : hp_LV yX12_fault 13 := ⟨hp_mu (tm_8_1 (List.mem_of_getElem? (i := 13) rfl)) rfl, hp_mu (tm_8_1 (List.mem_of_getElem? (i := 14) rfl)) rfl, rfl, rfl, rfl⟩
theorem lb_X12_many : hp_LB yX12_many cX12_many 4 (some .int) 1 := ⟨hp_mu (tm_8_2 (List.mem_of_getElem? (i := 3) rfl)) rfl, hp_mu (tb_1 (List.mem_of_getElem? (i := 12) rfl)) rfl, by decide, by decide +kernel⟩
theorem lv_X12_many : hp_LV yX12_many 13 := ⟨hp_mu (tm_8_2 (List.mem_of_getElem? (i := 1) rfl)) rfl, hp_mu (tm_8_2 (List.mem_of_getElem? (i := 2) rfl)) rfl, rfl, rfl, rfl⟩
theorem lb_X12_size : hp_LB yX12_size cX12_size 2 (some .int) 1 := ⟨hp_mu (tm_8_2 (List.mem_of_getElem? (i := 7) rfl)) rfl, hp_mu (tb_1 (List.mem_of_getElem? (i := 12) rfl)) rfl, by decide, by decide +kernel⟩
theorem lv_X12_size : hp_LV yX12_size 13 := ⟨hp_mu (tm_8_2 (List.mem_of_getElem? (i := 5) rfl)) rfl, hp_mu (tm_8_2 (List.mem_of_getElem? (i := 6) rfl)) rfl, rfl, rfl, rfl⟩
theorem lb_X12_isRecord : hp_LB yX12_isRecord cX12_isRecord 2 (some .boolean) 1 := ⟨hp_mu (tm_8_2 (List.mem_of_getElem? (i := 11) rfl)) rfl, hp_mu (tb_1 (List.mem_of_getElem? (i := 12) rfl)) rfl, by decide, by decide +kernel⟩
theorem lv_X12_isRecord : hp_LV yX12_isRecord 13 := ⟨hp_mu (tm_8_2 (List.mem_of_getElem? (i := 10) rfl)) rfl, hp_mu (tm_0_5 (List.mem_of_getElem? (i := 5) rfl)) rfl, rfl, rfl, rfl⟩
theorem lb_X12_entry : hp_LB yX12_entry cX12_entry 5 (some .int) 3 := ⟨hp_mu (tm_8_2 (List.mem_of_getElem? (i := 15) rfl)) rfl, hp_mu (tb_1 (List.mem_of_getElem? (i := 12) rfl)) rfl, by decide, by decide +kernel⟩
theorem lv_X12_entry : hp_LV yX12_entry 13 := ⟨hp_mu (tm_8_2 (List.mem_of_getElem? (i := 13) rfl)) rfl, hp_mu (tm_8_2 (List.mem_of_getElem? (i := 14) rfl)) rfl, rfl, rfl, rfl⟩
theorem lb_X12_head : hp_LB yX12_head cX12_head 3 (some .int) 2 := ⟨hp_mu (tm_8_3 (List.mem_of_getElem? (i := 3) rfl)) rfl, hp_mu (tb_1 (List.mem_of_getElem? (i := 12) rfl)) rfl, by decide, by decide +kernel⟩
theorem lv_X12_head : hp_LV yX12_head 13 := ⟨hp_mu (tm_8_3 (List.mem_of_getElem? (i := 1) rfl)) rfl, hp_mu (tm_8_3 (List.mem_of_getElem? (i := 2) rfl)) rfl, rfl, rfl, rfl⟩
theorem lb_X12_noSize : hp_LB yX12_noSize cX12_noSize 3 (some .int) 2 := ⟨hp_mu (tm_8_3 (List.mem_of_getElem? (i := 7) rfl)) rfl, hp_mu (tb_1 (List.mem_of_getElem? (i := 12) rfl)) rfl, by decide, by decide +kernel⟩
theorem lv_X12_noSize : hp_LV yX12_noSize 13 := ⟨hp_mu (tm_8_3 (List.mem_of_getElem? (i := 6) rfl)) rfl, hp_mu (tm_0_5 (List.mem_of_getElem? (i := 6) rfl)) rfl, rfl, rfl, rfl⟩
theorem lb_X12_join : hp_LB yX12_join cX12_join 3 (some .int) 2 := ⟨hp_mu (tm_8_3 (List.mem_of_getElem? (i := 11) rfl)) rfl, hp_mu (tb_1 (List.mem_of_getElem? (i := 12) rfl)) rfl, by decide, by decide +kernel⟩
theorem lv_X12_join : hp_LV yX12_join 13 := ⟨hp_mu (tm_8_3 (List.mem_of_getElem? (i := 9) rfl)) rfl, hp_mu (tm_8_3 (List.mem_of_getElem? (i := 10) rfl)) rfl, rfl, rfl, rfl⟩
theorem lb_X12_mark : hp_LB yX12_mark cX12_mark 3 (some .int) 0 := ⟨hp_mu (tm_8_3 (List.mem_of_getElem? (i := 15) rfl)) rfl, hp_mu (tb_1 (List.mem_of_getElem? (i := 12) rfl)) rfl, by decide, by decide +kernel⟩
theorem lv_X12_mark : hp_LV yX12_mark 13 := ⟨hp_mu (tm_8_3 (List.mem_of_getElem? (i := 13) rfl)) rfl, hp_mu (tm_8_3 (List.mem_of_getElem? (i := 14) rfl)) rfl, rfl, rfl, rfl⟩
theorem lb_X12_frozen : hp_LB yX12_frozen cX12_frozen 3 (some .int) 2 := ⟨hp_mu (tm_8_4 (List.mem_of_getElem? (i := 3) rfl)) rfl, hp_mu (tb_1 (List.mem_of_getElem? (i := 12) rfl)) rfl, by decide, by decide +kernel⟩
theorem lv_X12_frozen : hp_LV yX12_frozen 13 := ⟨hp_mu (tm_8_4 (List.mem_of_getElem? (i := 1) rfl)) rfl, hp_mu (tm_8_4 (List.mem_of_getElem? (i := 2) rfl)) rfl, rfl, rfl, rfl⟩
theorem lb_X12_froze : hp_LB yX12_froze cX12_froze 3 (some .int) 2 := ⟨hp_mu (tm_8_4 (List.mem_of_getElem? (i := 7) rfl)) rfl, hp_mu (tb_1 (List.mem_of_getElem? (i := 12) rfl)) rfl, by decide, by decide +kernel⟩
theorem lv_X12_froze : hp_LV yX12_froze 13 := ⟨hp_mu (tm_8_4 (List.mem_of_getElem? (i := 6) rfl)) rfl, hp_mu (tm_0_5 (List.mem_of_getElem? (i := 7) rfl)) rfl, rfl, rfl, rfl⟩
theorem lb_X12_isSound : hp_LB yX12_isSound cX12_isSound 2 (some .boolean) 1 := ⟨hp_mu (tm_8_4 (List.mem_of_getElem? (i := 11) rfl)) rfl, hp_mu (tb_1 (List.mem_of_getElem? (i := 12) rfl)) rfl, by decide, by decide +kernel⟩
theorem lv_X12_isSound : hp_LV yX12_isSound 13 := ⟨hp_mu (tm_8_4 (List.mem_of_getElem? (i := 10) rfl)) rfl, hp_mu (tm_0_5 (List.mem_of_getElem? (i := 8) rfl)) rfl, rfl, rfl, rfl⟩
theorem lb_X12_watcher : hp_LB yX12_watcher cX12_watcher 3 (some .int) 2 := ⟨hp_mu (tm_8_4 (List.mem_of_getElem? (i := 15) rfl)) rfl, hp_mu (tb_1 (List.mem_of_getElem? (i := 12) rfl)) rfl, by decide, by decide +kernel⟩
theorem lv_X12_watcher : hp_LV yX12_watcher 13 := ⟨hp_mu (tm_8_4 (List.mem_of_getElem? (i := 13) rfl)) rfl, hp_mu (tm_8_4 (List.mem_of_getElem? (i := 14) rfl)) rfl, rfl, rfl, rfl⟩
theorem lb_X12_isWatcher : hp_LB yX12_isWatcher cX12_isWatcher 1 (some .boolean) 1 := ⟨hp_mu (tm_8_5 (List.mem_of_getElem? (i := 2) rfl)) rfl, hp_mu (tb_1 (List.mem_of_getElem? (i := 12) rfl)) rfl, by decide, by decide +kernel⟩
theorem ls_X12_isWatcher : Cond.static yX12_isWatcher ∈ lw_u := hp_mu (tm_8_5 (List.mem_of_getElem? (i := 1) rfl)) rfl
theorem lb_X12_add : hp_LB yX12_add cX12_add 2 (some .int) 1 := ⟨hp_mu (tm_8_5 (List.mem_of_getElem? (i := 6) rfl)) rfl, hp_mu (tb_1 (List.mem_of_getElem? (i := 12) rfl)) rfl, by decide, by decide +kernel⟩
theorem lv_X12_add : hp_LV yX12_add 13 := ⟨hp_mu (tm_8_5 (List.mem_of_getElem? (i := 4) rfl)) rfl, hp_mu (tm_8_5 (List.mem_of_getElem? (i := 5) rfl)) rfl, rfl, rfl, rfl⟩
theorem lb_X12_hand : hp_LB yX12_hand cX12_hand 2 none 0 := ⟨hp_mu (tm_8_5 (List.mem_of_getElem? (i := 10) rfl)) rfl, hp_mu (tb_1 (List.mem_of_getElem? (i := 12) rfl)) rfl, by decide, by decide +kernel⟩
theorem lv_X12_hand : hp_LV yX12_hand 13 := ⟨hp_mu (tm_8_5 (List.mem_of_getElem? (i := 9) rfl)) rfl, hp_mu (tm_0_5 (List.mem_of_getElem? (i := 9) rfl)) rfl, rfl, rfl, rfl⟩
theorem lb_X12_fork : hp_LB yX12_fork cX12_fork 3 (some .int) 2 := ⟨hp_mu (tm_8_5 (List.mem_of_getElem? (i := 14) rfl)) rfl, hp_mu (tb_1 (List.mem_of_getElem? (i := 12) rfl)) rfl, by decide, by decide +kernel⟩
theorem lv_X12_fork : hp_LV yX12_fork 13 := ⟨hp_mu (tm_8_5 (List.mem_of_getElem? (i := 12) rfl)) rfl, hp_mu (tm_8_5 (List.mem_of_getElem? (i := 13) rfl)) rfl, rfl, rfl, rfl⟩
theorem lb_X12_freeze : hp_LB yX12_freeze cX12_freeze 2 (some .int) 1 := ⟨hp_mu (tm_8_6 (List.mem_of_getElem? (i := 2) rfl)) rfl, hp_mu (tb_1 (List.mem_of_getElem? (i := 12) rfl)) rfl, by decide, by decide +kernel⟩
theorem lv_X12_freeze : hp_LV yX12_freeze 13 := ⟨hp_mu (tm_8_6 (List.mem_of_getElem? (i := 0) rfl)) rfl, hp_mu (tm_8_6 (List.mem_of_getElem? (i := 1) rfl)) rfl, rfl, rfl, rfl⟩
theorem lb_X12_show : hp_LB yX12_show cX12_show 4 (some .int) 3 := ⟨hp_mu (tm_8_6 (List.mem_of_getElem? (i := 6) rfl)) rfl, hp_mu (tb_1 (List.mem_of_getElem? (i := 12) rfl)) rfl, by decide, by decide +kernel⟩
theorem lv_X12_show : hp_LV yX12_show 13 := ⟨hp_mu (tm_8_6 (List.mem_of_getElem? (i := 4) rfl)) rfl, hp_mu (tm_8_6 (List.mem_of_getElem? (i := 5) rfl)) rfl, rfl, rfl, rfl⟩
theorem lb_X12_meet : hp_LB yX12_meet cX12_meet 9 (some .int) 3 := ⟨hp_mu (tm_8_6 (List.mem_of_getElem? (i := 10) rfl)) rfl, hp_mu (tb_1 (List.mem_of_getElem? (i := 12) rfl)) rfl, by decide, by decide +kernel⟩
theorem lv_X12_meet : hp_LV yX12_meet 13 := ⟨hp_mu (tm_8_6 (List.mem_of_getElem? (i := 8) rfl)) rfl, hp_mu (tm_8_6 (List.mem_of_getElem? (i := 9) rfl)) rfl, rfl, rfl, rfl⟩
theorem lb_X12_spoil : hp_LB yX12_spoil cX12_spoil 7 (some .int) 4 := ⟨hp_mu (tm_8_6 (List.mem_of_getElem? (i := 14) rfl)) rfl, hp_mu (tb_1 (List.mem_of_getElem? (i := 12) rfl)) rfl, by decide, by decide +kernel⟩
theorem lv_X12_spoil : hp_LV yX12_spoil 13 := ⟨hp_mu (tm_8_6 (List.mem_of_getElem? (i := 12) rfl)) rfl, hp_mu (tm_8_6 (List.mem_of_getElem? (i := 13) rfl)) rfl, rfl, rfl, rfl⟩
theorem lb_X12_push : hp_LB yX12_push cX12_push 2 (some .int) 1 := ⟨hp_mu (tm_8_7 (List.mem_of_getElem? (i := 2) rfl)) rfl, hp_mu (tb_1 (List.mem_of_getElem? (i := 12) rfl)) rfl, by decide, by decide +kernel⟩
theorem lv_X12_push : hp_LV yX12_push 13 := ⟨hp_mu (tm_8_7 (List.mem_of_getElem? (i := 0) rfl)) rfl, hp_mu (tm_8_7 (List.mem_of_getElem? (i := 1) rfl)) rfl, rfl, rfl, rfl⟩
theorem lb_X12_poke : hp_LB yX12_poke cX12_poke 4 (some .int) 2 := ⟨hp_mu (tm_8_7 (List.mem_of_getElem? (i := 6) rfl)) rfl, hp_mu (tb_1 (List.mem_of_getElem? (i := 12) rfl)) rfl, by decide, by decide +kernel⟩
theorem lv_X12_poke : hp_LV yX12_poke 13 := ⟨hp_mu (tm_8_7 (List.mem_of_getElem? (i := 4) rfl)) rfl, hp_mu (tm_8_7 (List.mem_of_getElem? (i := 5) rfl)) rfl, rfl, rfl, rfl⟩
theorem lb_X12_pad : hp_LB yX12_pad cX12_pad 2 (some .int) 1 := ⟨hp_mu (tm_8_7 (List.mem_of_getElem? (i := 10) rfl)) rfl, hp_mu (tb_1 (List.mem_of_getElem? (i := 12) rfl)) rfl, by decide, by decide +kernel⟩
theorem lv_X12_pad : hp_LV yX12_pad 13 := ⟨hp_mu (tm_8_7 (List.mem_of_getElem? (i := 8) rfl)) rfl, hp_mu (tm_8_7 (List.mem_of_getElem? (i := 9) rfl)) rfl, rfl, rfl, rfl⟩
theorem lb_X12_cut : hp_LB yX12_cut cX12_cut 2 (some .int) 1 := ⟨hp_mu (tm_8_7 (List.mem_of_getElem? (i := 14) rfl)) rfl, hp_mu (tb_1 (List.mem_of_getElem? (i := 12) rfl)) rfl, by decide, by decide +kernel⟩
theorem lv_X12_cut : hp_LV yX12_cut 13 := ⟨hp_mu (tm_8_7 (List.mem_of_getElem? (i := 12) rfl)) rfl, hp_mu (tm_8_7 (List.mem_of_getElem? (i := 13) rfl)) rfl, rfl, rfl, rfl⟩
theorem lb_X12_include : hp_LB yX12_include cX12_include 4 (some .int) 3 := ⟨hp_mu (tm_8_8 (List.mem_of_getElem? (i := 2) rfl)) rfl, hp_mu (tb_1 (List.mem_of_getElem? (i := 12) rfl)) rfl, by decide, by decide +kernel⟩
theorem lv_X12_include : hp_LV yX12_include 13 := ⟨hp_mu (tm_8_8 (List.mem_of_getElem? (i := 0) rfl)) rfl, hp_mu (tm_8_8 (List.mem_of_getElem? (i := 1) rfl)) rfl, rfl, rfl, rfl⟩
theorem lb_X12_noEntry : hp_LB yX12_noEntry cX12_noEntry 4 (some .int) 3 := ⟨hp_mu (tm_8_8 (List.mem_of_getElem? (i := 6) rfl)) rfl, hp_mu (tb_1 (List.mem_of_getElem? (i := 12) rfl)) rfl, by decide, by decide +kernel⟩
theorem lv_X12_noEntry : hp_LV yX12_noEntry 13 := ⟨hp_mu (tm_8_8 (List.mem_of_getElem? (i := 5) rfl)) rfl, hp_mu (tm_0_5 (List.mem_of_getElem? (i := 10) rfl)) rfl, rfl, rfl, rfl⟩
theorem lb_X12_pads : hp_LB yX12_pads cX12_pads 3 (some .int) 1 := ⟨hp_mu (tm_8_8 (List.mem_of_getElem? (i := 10) rfl)) rfl, hp_mu (tb_1 (List.mem_of_getElem? (i := 12) rfl)) rfl, by decide, by decide +kernel⟩
theorem lv_X12_pads : hp_LV yX12_pads 13 := ⟨hp_mu (tm_8_8 (List.mem_of_getElem? (i := 9) rfl)) rfl, hp_mu (tm_0_5 (List.mem_of_getElem? (i := 11) rfl)) rfl, rfl, rfl, rfl⟩
theorem lb_X12_grow : hp_LB yX12_grow cX12_grow 4 (some .int) 3 := ⟨hp_mu (tm_8_8 (List.mem_of_getElem? (i := 14) rfl)) rfl, hp_mu (tb_1 (List.mem_of_getElem? (i := 12) rfl)) rfl, by decide, by decide +kernel⟩
theorem lv_X12_grow : hp_LV yX12_grow 13 := ⟨hp_mu (tm_8_8 (List.mem_of_getElem? (i := 12) rfl)) rfl, hp_mu (tm_8_8 (List.mem_of_getElem? (i := 13) rfl)) rfl, rfl, rfl, rfl⟩
theorem lb_X12_bundle : hp_LB yX12_bundle cX12_bundle 4 (some .int) 3 := ⟨hp_mu (tm_8_9 (List.mem_of_getElem? (i := 2) rfl)) rfl, hp_mu (tb_1 (List.mem_of_getElem? (i := 12) rfl)) rfl, by decide, by decide +kernel⟩
theorem lv_X12_bundle : hp_LV yX12_bundle 13 := ⟨hp_mu (tm_8_9 (List.mem_of_getElem? (i := 0) rfl)) rfl, hp_mu (tm_8_9 (List.mem_of_getElem? (i := 1) rfl)) rfl, rfl, rfl, rfl⟩
theorem lb_X12_isBeyond : hp_LB yX12_isBeyond cX12_isBeyond 3 (some .boolean) 2 := ⟨hp_mu (tm_8_9 (List.mem_of_getElem? (i := 5) rfl)) rfl, hp_mu (tb_1 (List.mem_of_getElem? (i := 12) rfl)) rfl, by decide, by decide +kernel⟩
theorem ls_X12_isBeyond : Cond.static yX12_isBeyond ∈ lw_u := hp_mu (tm_8_9 (List.mem_of_getElem? (i := 4) rfl)) rfl
theorem lb_X12_bundleOf : hp_LB yX12_bundleOf cX12_bundleOf 3 none 2 := ⟨hp_mu (tm_8_9 (List.mem_of_getElem? (i := 9) rfl)) rfl, hp_mu (tb_1 (List.mem_of_getElem? (i := 12) rfl)) rfl, by decide, by decide +kernel⟩
theorem lv_X12_bundleOf : hp_LV yX12_bundleOf 13 := ⟨hp_mu (tm_8_9 (List.mem_of_getElem? (i := 8) rfl)) rfl, hp_mu (tm_0_5 (List.mem_of_getElem? (i := 12) rfl)) rfl, rfl, rfl, rfl⟩
theorem lb_X12_bundlesIn : hp_LB yX12_bundlesIn cX12_bundlesIn 5 none 3 := ⟨hp_mu (tm_8_9 (List.mem_of_getElem? (i := 13) rfl)) rfl, hp_mu (tb_1 (List.mem_of_getElem? (i := 12) rfl)) rfl, by decide, by decide +kernel⟩
theorem lv_X12_bundlesIn : hp_LV yX12_bundlesIn 13 := ⟨hp_mu (tm_8_9 (List.mem_of_getElem? (i := 12) rfl)) rfl, hp_mu (tm_0_5 (List.mem_of_getElem? (i := 13) rfl)) rfl, rfl, rfl, rfl⟩
theorem lb_X12_hasAny : hp_LB yX12_hasAny cX12_hasAny 4 (some .boolean) 3 := ⟨hp_mu (tm_8_10 (List.mem_of_getElem? (i := 0) rfl)) rfl, hp_mu (tb_1 (List.mem_of_getElem? (i := 12) rfl)) rfl, by decide, by decide +kernel⟩
theorem ls_X12_hasAny : Cond.static yX12_hasAny ∈ lw_u := hp_mu (tm_8_9 (List.mem_of_getElem? (i := 15) rfl)) rfl
theorem lb_X12_peaks : hp_LB yX12_peaks cX12_peaks 3 (some .int) 2 := ⟨hp_mu (tm_8_10 (List.mem_of_getElem? (i := 4) rfl)) rfl, hp_mu (tb_1 (List.mem_of_getElem? (i := 12) rfl)) rfl, by decide, by decide +kernel⟩
theorem lv_X12_peaks : hp_LV yX12_peaks 13 := ⟨hp_mu (tm_8_10 (List.mem_of_getElem? (i := 2) rfl)) rfl, hp_mu (tm_8_10 (List.mem_of_getElem? (i := 3) rfl)) rfl, rfl, rfl, rfl⟩
theorem lb_X12_extend : hp_LB yX12_extend cX12_extend 5 (some .int) 2 := ⟨hp_mu (tm_8_10 (List.mem_of_getElem? (i := 8) rfl)) rfl, hp_mu (tb_1 (List.mem_of_getElem? (i := 12) rfl)) rfl, by decide, by decide +kernel⟩
theorem lv_X12_extend : hp_LV yX12_extend 13 := ⟨hp_mu (tm_8_10 (List.mem_of_getElem? (i := 6) rfl)) rfl, hp_mu (tm_8_10 (List.mem_of_getElem? (i := 7) rfl)) rfl, rfl, rfl, rfl⟩
theorem lb_X12_checks : hp_LB yX12_checks cX12_checks 5 (some .int) 4 := ⟨hp_mu (tm_8_10 (List.mem_of_getElem? (i := 14) rfl)) rfl, hp_mu (tb_1 (List.mem_of_getElem? (i := 12) rfl)) rfl, by decide, by decide +kernel⟩
theorem lv_X12_checks : hp_LV yX12_checks 13 := ⟨hp_mu (tm_8_10 (List.mem_of_getElem? (i := 12) rfl)) rfl, hp_mu (tm_8_10 (List.mem_of_getElem? (i := 13) rfl)) rfl, rfl, rfl, rfl⟩
theorem lb_X12_isThing : hp_LB yX12_isThing cX12_isThing 3 (some .boolean) 2 := ⟨hp_mu (tm_8_11 (List.mem_of_getElem? (i := 2) rfl)) rfl, hp_mu (tb_1 (List.mem_of_getElem? (i := 12) rfl)) rfl, by decide, by decide +kernel⟩
theorem lv_X12_isThing : hp_LV yX12_isThing 13 := ⟨hp_mu (tm_8_11 (List.mem_of_getElem? (i := 1) rfl)) rfl, hp_mu (tm_0_5 (List.mem_of_getElem? (i := 14) rfl)) rfl, rfl, rfl, rfl⟩
theorem lb_X12_fromPad : hp_LB yX12_fromPad cX12_fromPad 2 (some .int) 0 := ⟨hp_mu (tm_8_11 (List.mem_of_getElem? (i := 6) rfl)) rfl, hp_mu (tb_1 (List.mem_of_getElem? (i := 12) rfl)) rfl, by decide, by decide +kernel⟩
theorem lv_X12_fromPad : hp_LV yX12_fromPad 13 := ⟨hp_mu (tm_8_11 (List.mem_of_getElem? (i := 5) rfl)) rfl, hp_mu (tm_0_5 (List.mem_of_getElem? (i := 15) rfl)) rfl, rfl, rfl, rfl⟩
theorem lb_X12_growth_ : hp_LB yX12_growth_ cX12_growth_ 5 (some .int) 4 := ⟨hp_mu (tm_8_11 (List.mem_of_getElem? (i := 10) rfl)) rfl, hp_mu (tb_1 (List.mem_of_getElem? (i := 12) rfl)) rfl, by decide, by decide +kernel⟩
theorem lv_X12_growth_ : hp_LV yX12_growth_ 13 := ⟨hp_mu (tm_8_11 (List.mem_of_getElem? (i := 8) rfl)) rfl, hp_mu (tm_8_11 (List.mem_of_getElem? (i := 9) rfl)) rfl, rfl, rfl, rfl⟩
theorem lb_X12_bundled : hp_LB yX12_bundled cX12_bundled 7 (some .int) 3 := ⟨hp_mu (tm_8_11 (List.mem_of_getElem? (i := 14) rfl)) rfl, hp_mu (tb_1 (List.mem_of_getElem? (i := 12) rfl)) rfl, by decide, by decide +kernel⟩
theorem lv_X12_bundled : hp_LV yX12_bundled 13 := ⟨hp_mu (tm_8_11 (List.mem_of_getElem? (i := 12) rfl)) rfl, hp_mu (tm_8_11 (List.mem_of_getElem? (i := 13) rfl)) rfl, rfl, rfl, rfl⟩
theorem lb_X12_foldsBundle : hp_LB yX12_foldsBundle cX12_foldsBundle 6 (some .int) 3 := ⟨hp_mu (tm_8_12 (List.mem_of_getElem? (i := 2) rfl)) rfl, hp_mu (tb_1 (List.mem_of_getElem? (i := 12) rfl)) rfl, by decide, by decide +kernel⟩
theorem lv_X12_foldsBundle : hp_LV yX12_foldsBundle 13 := ⟨hp_mu (tm_8_12 (List.mem_of_getElem? (i := 1) rfl)) rfl, hp_mu (tm_0_6 (List.mem_of_getElem? (i := 0) rfl)) rfl, rfl, rfl, rfl⟩
theorem lb_X12_fold : hp_LB yX12_fold cX12_fold 3 (some .int) 0 := ⟨hp_mu (tm_8_12 (List.mem_of_getElem? (i := 6) rfl)) rfl, hp_mu (tb_1 (List.mem_of_getElem? (i := 12) rfl)) rfl, by decide, by decide +kernel⟩
theorem lv_X12_fold : hp_LV yX12_fold 13 := ⟨hp_mu (tm_8_12 (List.mem_of_getElem? (i := 4) rfl)) rfl, hp_mu (tm_8_12 (List.mem_of_getElem? (i := 5) rfl)) rfl, rfl, rfl, rfl⟩
theorem lb_X12_steps : hp_LB yX12_steps cX12_steps 3 (some .int) 2 := ⟨hp_mu (tm_8_12 (List.mem_of_getElem? (i := 10) rfl)) rfl, hp_mu (tb_1 (List.mem_of_getElem? (i := 12) rfl)) rfl, by decide, by decide +kernel⟩
theorem lv_X12_steps : hp_LV yX12_steps 13 := ⟨hp_mu (tm_8_12 (List.mem_of_getElem? (i := 8) rfl)) rfl, hp_mu (tm_8_12 (List.mem_of_getElem? (i := 9) rfl)) rfl, rfl, rfl, rfl⟩
theorem lb_X12_climbs : hp_LB yX12_climbs cX12_climbs 3 (some .int) 2 := ⟨hp_mu (tm_8_12 (List.mem_of_getElem? (i := 14) rfl)) rfl, hp_mu (tb_1 (List.mem_of_getElem? (i := 12) rfl)) rfl, by decide, by decide +kernel⟩
theorem lv_X12_climbs : hp_LV yX12_climbs 13 := ⟨hp_mu (tm_8_12 (List.mem_of_getElem? (i := 12) rfl)) rfl, hp_mu (tm_8_12 (List.mem_of_getElem? (i := 13) rfl)) rfl, rfl, rfl, rfl⟩
theorem lb_X12_agree : hp_LB yX12_agree cX12_agree 3 (some .int) 2 := ⟨hp_mu (tm_8_13 (List.mem_of_getElem? (i := 2) rfl)) rfl, hp_mu (tb_1 (List.mem_of_getElem? (i := 12) rfl)) rfl, by decide, by decide +kernel⟩
theorem lv_X12_agree : hp_LV yX12_agree 13 := ⟨hp_mu (tm_8_13 (List.mem_of_getElem? (i := 0) rfl)) rfl, hp_mu (tm_8_13 (List.mem_of_getElem? (i := 1) rfl)) rfl, rfl, rfl, rfl⟩
theorem lb_X12_isAgreed : hp_LB yX12_isAgreed cX12_isAgreed 4 (some .boolean) 2 := ⟨hp_mu (tm_8_13 (List.mem_of_getElem? (i := 6) rfl)) rfl, hp_mu (tb_1 (List.mem_of_getElem? (i := 12) rfl)) rfl, by decide, by decide +kernel⟩
theorem lv_X12_isAgreed : hp_LV yX12_isAgreed 13 := ⟨hp_mu (tm_8_13 (List.mem_of_getElem? (i := 5) rfl)) rfl, hp_mu (tm_0_6 (List.mem_of_getElem? (i := 1) rfl)) rfl, rfl, rfl, rfl⟩
theorem lb_X12_isHead : hp_LB yX12_isHead cX12_isHead 4 (some .boolean) 3 := ⟨hp_mu (tm_8_13 (List.mem_of_getElem? (i := 10) rfl)) rfl, hp_mu (tb_1 (List.mem_of_getElem? (i := 12) rfl)) rfl, by decide, by decide +kernel⟩
theorem lv_X12_isHead : hp_LV yX12_isHead 13 := ⟨hp_mu (tm_8_13 (List.mem_of_getElem? (i := 9) rfl)) rfl, hp_mu (tm_0_6 (List.mem_of_getElem? (i := 2) rfl)) rfl, rfl, rfl, rfl⟩
theorem lb_X12_where : hp_LB yX12_where cX12_where 6 (some .int) 2 := ⟨hp_mu (tm_8_13 (List.mem_of_getElem? (i := 14) rfl)) rfl, hp_mu (tb_1 (List.mem_of_getElem? (i := 12) rfl)) rfl, by decide, by decide +kernel⟩
theorem lv_X12_where : hp_LV yX12_where 13 := ⟨hp_mu (tm_8_13 (List.mem_of_getElem? (i := 12) rfl)) rfl, hp_mu (tm_8_13 (List.mem_of_getElem? (i := 13) rfl)) rfl, rfl, rfl, rfl⟩
theorem lb_X12_isTyped : hp_LB yX12_isTyped cX12_isTyped 3 (some .boolean) 1 := ⟨hp_mu (tm_8_14 (List.mem_of_getElem? (i := 2) rfl)) rfl, hp_mu (tb_1 (List.mem_of_getElem? (i := 12) rfl)) rfl, by decide, by decide +kernel⟩
theorem lv_X12_isTyped : hp_LV yX12_isTyped 13 := ⟨hp_mu (tm_8_14 (List.mem_of_getElem? (i := 1) rfl)) rfl, hp_mu (tm_0_6 (List.mem_of_getElem? (i := 3) rfl)) rfl, rfl, rfl, rfl⟩
theorem lb_X12_tree : hp_LB yX12_tree cX12_tree 5 (some .int) 4 := ⟨hp_mu (tm_8_14 (List.mem_of_getElem? (i := 6) rfl)) rfl, hp_mu (tb_1 (List.mem_of_getElem? (i := 12) rfl)) rfl, by decide, by decide +kernel⟩
theorem lv_X12_tree : hp_LV yX12_tree 13 := ⟨hp_mu (tm_8_14 (List.mem_of_getElem? (i := 4) rfl)) rfl, hp_mu (tm_8_14 (List.mem_of_getElem? (i := 5) rfl)) rfl, rfl, rfl, rfl⟩
theorem lb_X12_seeks : hp_LB yX12_seeks cX12_seeks 4 none 2 := ⟨hp_mu (tm_8_14 (List.mem_of_getElem? (i := 10) rfl)) rfl, hp_mu (tb_1 (List.mem_of_getElem? (i := 12) rfl)) rfl, by decide, by decide +kernel⟩
theorem lv_X12_seeks : hp_LV yX12_seeks 13 := ⟨hp_mu (tm_8_14 (List.mem_of_getElem? (i := 9) rfl)) rfl, hp_mu (tm_0_6 (List.mem_of_getElem? (i := 4) rfl)) rfl, rfl, rfl, rfl⟩
theorem lb_X12_proves : hp_LB yX12_proves cX12_proves 3 (some .int) 2 := ⟨hp_mu (tm_8_14 (List.mem_of_getElem? (i := 14) rfl)) rfl, hp_mu (tb_1 (List.mem_of_getElem? (i := 12) rfl)) rfl, by decide, by decide +kernel⟩
theorem lv_X12_proves : hp_LV yX12_proves 13 := ⟨hp_mu (tm_8_14 (List.mem_of_getElem? (i := 12) rfl)) rfl, hp_mu (tm_8_14 (List.mem_of_getElem? (i := 13) rfl)) rfl, rfl, rfl, rfl⟩
theorem lb_X12_longest : hp_LB yX12_longest cX12_longest 7 (some .int) 2 := ⟨hp_mu (tb_9 (List.mem_of_getElem? (i := 2) rfl)) rfl, hp_mu (tb_1 (List.mem_of_getElem? (i := 12) rfl)) rfl, by decide, by decide +kernel⟩
theorem lv_X12_longest : hp_LV yX12_longest 13 := ⟨hp_mu (tb_9 (List.mem_of_getElem? (i := 0) rfl)) rfl, hp_mu (tb_9 (List.mem_of_getElem? (i := 1) rfl)) rfl, rfl, rfl, rfl⟩
theorem lb_X12_part : hp_LB yX12_part cX12_part 9 (some .int) 3 := ⟨hp_mu (tb_9 (List.mem_of_getElem? (i := 6) rfl)) rfl, hp_mu (tb_1 (List.mem_of_getElem? (i := 12) rfl)) rfl, by decide, by decide +kernel⟩
theorem lv_X12_part : hp_LV yX12_part 13 := ⟨hp_mu (tb_9 (List.mem_of_getElem? (i := 4) rfl)) rfl, hp_mu (tb_9 (List.mem_of_getElem? (i := 5) rfl)) rfl, rfl, rfl, rfl⟩
theorem lb_X12_blame : hp_LB yX12_blame cX12_blame 7 (some .int) 2 := ⟨hp_mu (tb_9 (List.mem_of_getElem? (i := 10) rfl)) rfl, hp_mu (tb_1 (List.mem_of_getElem? (i := 12) rfl)) rfl, by decide, by decide +kernel⟩
theorem lv_X12_blame : hp_LV yX12_blame 13 := ⟨hp_mu (tb_9 (List.mem_of_getElem? (i := 8) rfl)) rfl, hp_mu (tb_9 (List.mem_of_getElem? (i := 9) rfl)) rfl, rfl, rfl, rfl⟩
theorem lb_X12_weak : hp_LB yX12_weak cX12_weak 10 (some .int) 4 := ⟨hp_mu (tb_9 (List.mem_of_getElem? (i := 14) rfl)) rfl, hp_mu (tb_1 (List.mem_of_getElem? (i := 12) rfl)) rfl, by decide, by decide +kernel⟩
theorem lv_X12_weak : hp_LV yX12_weak 13 := ⟨hp_mu (tb_9 (List.mem_of_getElem? (i := 12) rfl)) rfl, hp_mu (tb_9 (List.mem_of_getElem? (i := 13) rfl)) rfl, rfl, rfl, rfl⟩
theorem lb_X12_clash : hp_LB yX12_clash cX12_clash 7 (some .int) 5 := ⟨hp_mu (tm_9_1 (List.mem_of_getElem? (i := 2) rfl)) rfl, hp_mu (tb_1 (List.mem_of_getElem? (i := 12) rfl)) rfl, by decide, by decide +kernel⟩
theorem lv_X12_clash : hp_LV yX12_clash 13 := ⟨hp_mu (tm_9_1 (List.mem_of_getElem? (i := 0) rfl)) rfl, hp_mu (tm_9_1 (List.mem_of_getElem? (i := 1) rfl)) rfl, rfl, rfl, rfl⟩
theorem lb_X12_stepsIn : hp_LB yX12_stepsIn cX12_stepsIn 6 (some .int) 3 := ⟨hp_mu (tm_9_1 (List.mem_of_getElem? (i := 6) rfl)) rfl, hp_mu (tb_1 (List.mem_of_getElem? (i := 12) rfl)) rfl, by decide, by decide +kernel⟩
theorem lv_X12_stepsIn : hp_LV yX12_stepsIn 13 := ⟨hp_mu (tm_9_1 (List.mem_of_getElem? (i := 5) rfl)) rfl, hp_mu (tm_0_6 (List.mem_of_getElem? (i := 5) rfl)) rfl, rfl, rfl, rfl⟩
theorem lb_X12_forge : hp_LB yX12_forge cX12_forge 7 (some .int) 5 := ⟨hp_mu (tm_9_1 (List.mem_of_getElem? (i := 10) rfl)) rfl, hp_mu (tb_1 (List.mem_of_getElem? (i := 12) rfl)) rfl, by decide, by decide +kernel⟩
theorem lv_X12_forge : hp_LV yX12_forge 13 := ⟨hp_mu (tm_9_1 (List.mem_of_getElem? (i := 8) rfl)) rfl, hp_mu (tm_9_1 (List.mem_of_getElem? (i := 9) rfl)) rfl, rfl, rfl, rfl⟩
theorem lb_X12_trace : hp_LB yX12_trace cX12_trace 6 (some .int) 4 := ⟨hp_mu (tm_9_1 (List.mem_of_getElem? (i := 14) rfl)) rfl, hp_mu (tb_1 (List.mem_of_getElem? (i := 12) rfl)) rfl, by decide, by decide +kernel⟩
theorem lv_X12_trace : hp_LV yX12_trace 13 := ⟨hp_mu (tm_9_1 (List.mem_of_getElem? (i := 12) rfl)) rfl, hp_mu (tm_9_1 (List.mem_of_getElem? (i := 13) rfl)) rfl, rfl, rfl, rfl⟩
theorem lb_X12_span : hp_LB yX12_span cX12_span 5 (some .int) 4 := ⟨hp_mu (tm_9_2 (List.mem_of_getElem? (i := 2) rfl)) rfl, hp_mu (tb_1 (List.mem_of_getElem? (i := 12) rfl)) rfl, by decide, by decide +kernel⟩
theorem lv_X12_span : hp_LV yX12_span 13 := ⟨hp_mu (tm_9_2 (List.mem_of_getElem? (i := 0) rfl)) rfl, hp_mu (tm_9_2 (List.mem_of_getElem? (i := 1) rfl)) rfl, rfl, rfl, rfl⟩
theorem lb_X12_wayAt : hp_LB yX12_wayAt cX12_wayAt 3 (some .int) 2 := ⟨hp_mu (tm_9_2 (List.mem_of_getElem? (i := 6) rfl)) rfl, hp_mu (tb_1 (List.mem_of_getElem? (i := 12) rfl)) rfl, by decide, by decide +kernel⟩
theorem lv_X12_wayAt : hp_LV yX12_wayAt 13 := ⟨hp_mu (tm_9_2 (List.mem_of_getElem? (i := 5) rfl)) rfl, hp_mu (tm_0_6 (List.mem_of_getElem? (i := 6) rfl)) rfl, rfl, rfl, rfl⟩
theorem lb_X12_rise : hp_LB yX12_rise cX12_rise 5 (some .int) 4 := ⟨hp_mu (tm_9_2 (List.mem_of_getElem? (i := 10) rfl)) rfl, hp_mu (tb_1 (List.mem_of_getElem? (i := 12) rfl)) rfl, by decide, by decide +kernel⟩
theorem lv_X12_rise : hp_LV yX12_rise 13 := ⟨hp_mu (tm_9_2 (List.mem_of_getElem? (i := 8) rfl)) rfl, hp_mu (tm_9_2 (List.mem_of_getElem? (i := 9) rfl)) rfl, rfl, rfl, rfl⟩
theorem lb_X12_kept : hp_LB yX12_kept cX12_kept 6 (some .int) 3 := ⟨hp_mu (tm_9_2 (List.mem_of_getElem? (i := 14) rfl)) rfl, hp_mu (tb_1 (List.mem_of_getElem? (i := 12) rfl)) rfl, by decide, by decide +kernel⟩
theorem lv_X12_kept : hp_LV yX12_kept 13 := ⟨hp_mu (tm_9_2 (List.mem_of_getElem? (i := 12) rfl)) rfl, hp_mu (tm_9_2 (List.mem_of_getElem? (i := 13) rfl)) rfl, rfl, rfl, rfl⟩
theorem lb_X12_notes : hp_LB yX12_notes cX12_notes 2 none 0 := ⟨hp_mu (tm_9_3 (List.mem_of_getElem? (i := 2) rfl)) rfl, hp_mu (tb_1 (List.mem_of_getElem? (i := 12) rfl)) rfl, by decide, by decide +kernel⟩
theorem lv_X12_notes : hp_LV yX12_notes 13 := ⟨hp_mu (tm_9_3 (List.mem_of_getElem? (i := 1) rfl)) rfl, hp_mu (tm_0_6 (List.mem_of_getElem? (i := 7) rfl)) rfl, rfl, rfl, rfl⟩
theorem lb_X12_had : hp_LB yX12_had cX12_had 4 (some .boolean) 2 := ⟨hp_mu (tm_9_3 (List.mem_of_getElem? (i := 6) rfl)) rfl, hp_mu (tb_1 (List.mem_of_getElem? (i := 12) rfl)) rfl, by decide, by decide +kernel⟩
theorem lv_X12_had : hp_LV yX12_had 13 := ⟨hp_mu (tm_9_3 (List.mem_of_getElem? (i := 5) rfl)) rfl, hp_mu (tm_0_6 (List.mem_of_getElem? (i := 8) rfl)) rfl, rfl, rfl, rfl⟩
theorem lb_X12_sick : hp_LB yX12_sick cX12_sick 4 (some .int) 1 := ⟨hp_mu (tm_9_3 (List.mem_of_getElem? (i := 10) rfl)) rfl, hp_mu (tb_1 (List.mem_of_getElem? (i := 12) rfl)) rfl, by decide, by decide +kernel⟩
theorem lv_X12_sick : hp_LV yX12_sick 13 := ⟨hp_mu (tm_9_3 (List.mem_of_getElem? (i := 8) rfl)) rfl, hp_mu (tm_9_3 (List.mem_of_getElem? (i := 9) rfl)) rfl, rfl, rfl, rfl⟩
theorem lb_X12_chain : hp_LB yX12_chain cX12_chain 7 (some .int) 2 := ⟨hp_mu (tm_9_3 (List.mem_of_getElem? (i := 14) rfl)) rfl, hp_mu (tb_1 (List.mem_of_getElem? (i := 12) rfl)) rfl, by decide, by decide +kernel⟩
theorem lv_X12_chain : hp_LV yX12_chain 13 := ⟨hp_mu (tm_9_3 (List.mem_of_getElem? (i := 12) rfl)) rfl, hp_mu (tm_9_3 (List.mem_of_getElem? (i := 13) rfl)) rfl, rfl, rfl, rfl⟩
theorem lb_X12_sizeAbove : hp_LB yX12_sizeAbove cX12_sizeAbove 5 (some .int) 2 := ⟨hp_mu (tm_9_4 (List.mem_of_getElem? (i := 2) rfl)) rfl, hp_mu (tb_1 (List.mem_of_getElem? (i := 12) rfl)) rfl, by decide, by decide +kernel⟩
theorem lv_X12_sizeAbove : hp_LV yX12_sizeAbove 13 := ⟨hp_mu (tm_9_4 (List.mem_of_getElem? (i := 1) rfl)) rfl, hp_mu (tm_0_6 (List.mem_of_getElem? (i := 9) rfl)) rfl, rfl, rfl, rfl⟩
theorem lb_X12_split : hp_LB yX12_split cX12_split 6 (some .int) 1 := ⟨hp_mu (tm_9_4 (List.mem_of_getElem? (i := 6) rfl)) rfl, hp_mu (tb_1 (List.mem_of_getElem? (i := 12) rfl)) rfl, by decide, by decide +kernel⟩
theorem lv_X12_split : hp_LV yX12_split 13 := ⟨hp_mu (tm_9_4 (List.mem_of_getElem? (i := 4) rfl)) rfl, hp_mu (tm_9_4 (List.mem_of_getElem? (i := 5) rfl)) rfl, rfl, rfl, rfl⟩
theorem lb_X12_tell : hp_LB yX12_tell cX12_tell 4 (some .int) 3 := ⟨hp_mu (tm_9_4 (List.mem_of_getElem? (i := 10) rfl)) rfl, hp_mu (tb_1 (List.mem_of_getElem? (i := 12) rfl)) rfl, by decide, by decide +kernel⟩
theorem lv_X12_tell : hp_LV yX12_tell 13 := ⟨hp_mu (tm_9_4 (List.mem_of_getElem? (i := 8) rfl)) rfl, hp_mu (tm_9_4 (List.mem_of_getElem? (i := 9) rfl)) rfl, rfl, rfl, rfl⟩
theorem lb_X12_says : hp_LB yX12_says cX12_says 4 none 2 := ⟨hp_mu (tm_9_4 (List.mem_of_getElem? (i := 15) rfl)) rfl, hp_mu (tb_1 (List.mem_of_getElem? (i := 12) rfl)) rfl, by decide, by decide +kernel⟩
theorem lv_X12_says : hp_LV yX12_says 13 := ⟨hp_mu (tm_9_4 (List.mem_of_getElem? (i := 14) rfl)) rfl, hp_mu (tm_0_6 (List.mem_of_getElem? (i := 10) rfl)) rfl, rfl, rfl, rfl⟩
theorem lb_X12_tells : hp_LB yX12_tells cX12_tells 2 none 1 := ⟨hp_mu (tm_9_5 (List.mem_of_getElem? (i := 3) rfl)) rfl, hp_mu (tb_1 (List.mem_of_getElem? (i := 12) rfl)) rfl, by decide, by decide +kernel⟩
theorem lv_X12_tells : hp_LV yX12_tells 13 := ⟨hp_mu (tm_9_5 (List.mem_of_getElem? (i := 2) rfl)) rfl, hp_mu (tm_0_6 (List.mem_of_getElem? (i := 11) rfl)) rfl, rfl, rfl, rfl⟩
theorem lb_X12_tellsNumber : hp_LB yX12_tellsNumber cX12_tellsNumber 3 none 1 := ⟨hp_mu (tm_9_5 (List.mem_of_getElem? (i := 9) rfl)) rfl, hp_mu (tb_1 (List.mem_of_getElem? (i := 12) rfl)) rfl, by decide, by decide +kernel⟩
theorem lv_X12_tellsNumber : hp_LV yX12_tellsNumber 13 := ⟨hp_mu (tm_9_5 (List.mem_of_getElem? (i := 8) rfl)) rfl, hp_mu (tm_0_6 (List.mem_of_getElem? (i := 12) rfl)) rfl, rfl, rfl, rfl⟩
theorem lb_X12_tellsMarks : hp_LB yX12_tellsMarks cX12_tellsMarks 3 (some .int) 1 := ⟨hp_mu (tm_9_6 (List.mem_of_getElem? (i := 0) rfl)) rfl, hp_mu (tb_1 (List.mem_of_getElem? (i := 12) rfl)) rfl, by decide, by decide +kernel⟩
theorem lv_X12_tellsMarks : hp_LV yX12_tellsMarks 13 := ⟨hp_mu (tm_9_5 (List.mem_of_getElem? (i := 15) rfl)) rfl, hp_mu (tm_0_6 (List.mem_of_getElem? (i := 13) rfl)) rfl, rfl, rfl, rfl⟩
theorem lb_X12_tellGrowth : hp_LB yX12_tellGrowth cX12_tellGrowth 4 (some .int) 3 := ⟨hp_mu (tm_9_6 (List.mem_of_getElem? (i := 4) rfl)) rfl, hp_mu (tb_1 (List.mem_of_getElem? (i := 12) rfl)) rfl, by decide, by decide +kernel⟩
theorem lv_X12_tellGrowth : hp_LV yX12_tellGrowth 13 := ⟨hp_mu (tm_9_6 (List.mem_of_getElem? (i := 2) rfl)) rfl, hp_mu (tm_9_6 (List.mem_of_getElem? (i := 3) rfl)) rfl, rfl, rfl, rfl⟩
theorem lb_X12_out : hp_LB yX12_out cX12_out 2 (some .int) 1 := ⟨hp_mu (tm_9_6 (List.mem_of_getElem? (i := 10) rfl)) rfl, hp_mu (tb_1 (List.mem_of_getElem? (i := 12) rfl)) rfl, by decide, by decide +kernel⟩
theorem lv_X12_out : hp_LV yX12_out 13 := ⟨hp_mu (tm_9_6 (List.mem_of_getElem? (i := 8) rfl)) rfl, hp_mu (tm_9_6 (List.mem_of_getElem? (i := 9) rfl)) rfl, rfl, rfl, rfl⟩
theorem lb_X12_trusted : hp_LB yX12_trusted cX12_trusted 5 (some .int) 2 := ⟨hp_mu (tm_9_6 (List.mem_of_getElem? (i := 14) rfl)) rfl, hp_mu (tb_1 (List.mem_of_getElem? (i := 12) rfl)) rfl, by decide, by decide +kernel⟩
theorem lv_X12_trusted : hp_LV yX12_trusted 13 := ⟨hp_mu (tm_9_6 (List.mem_of_getElem? (i := 12) rfl)) rfl, hp_mu (tm_9_6 (List.mem_of_getElem? (i := 13) rfl)) rfl, rfl, rfl, rfl⟩
theorem lb_X12_saves : hp_LB yX12_saves cX12_saves 5 (some .int) 2 := ⟨hp_mu (tm_9_7 (List.mem_of_getElem? (i := 2) rfl)) rfl, hp_mu (tb_1 (List.mem_of_getElem? (i := 12) rfl)) rfl, by decide, by decide +kernel⟩
theorem lv_X12_saves : hp_LV yX12_saves 13 := ⟨hp_mu (tm_9_7 (List.mem_of_getElem? (i := 0) rfl)) rfl, hp_mu (tm_9_7 (List.mem_of_getElem? (i := 1) rfl)) rfl, rfl, rfl, rfl⟩
theorem lb_X12_who : hp_LB yX12_who cX12_who 5 (some .int) 2 := ⟨hp_mu (tm_9_7 (List.mem_of_getElem? (i := 6) rfl)) rfl, hp_mu (tb_1 (List.mem_of_getElem? (i := 12) rfl)) rfl, by decide, by decide +kernel⟩
theorem lv_X12_who : hp_LV yX12_who 13 := ⟨hp_mu (tm_9_7 (List.mem_of_getElem? (i := 4) rfl)) rfl, hp_mu (tm_9_7 (List.mem_of_getElem? (i := 5) rfl)) rfl, rfl, rfl, rfl⟩
theorem lk_L_9 : hp_LK RL 9 yX11_init := Or.inl (hp_mu (tm_1_1 (List.mem_of_getElem? (i := 6) rfl)) rfl)
theorem lk_X11_15 : hp_LK RX11 15 yX10_init := Or.inl (hp_mu (tm_1_1 (List.mem_of_getElem? (i := 14) rfl)) rfl)
theorem lk_X10_49 : hp_LK RX10 49 yX5_init := Or.inr ⟨"ProvenRecord", List.mem_filter.mpr ⟨tm_1_2 (List.mem_of_getElem? (i := 11) rfl), by decide +kernel⟩⟩
theorem lk_X10_56 : hp_LK RX10 56 yX8_init := Or.inr ⟨"ProvenRecord", List.mem_filter.mpr ⟨tm_1_3 (List.mem_of_getElem? (i := 14) rfl), by decide +kernel⟩⟩
theorem lk_X10_61 : hp_LK RX10 61 yX2_init := Or.inl (hp_mu (tm_1_5 (List.mem_of_getElem? (i := 7) rfl)) rfl)
theorem lk_X2_25 : hp_LK RX2 25 yX9_init := Or.inr ⟨"ProvenRecord", List.mem_filter.mpr ⟨tm_1_5 (List.mem_of_getElem? (i := 14) rfl), by decide +kernel⟩⟩
theorem lk_X10_62 : hp_LK RX10 62 yX1_init := Or.inr ⟨"ProvenRecord", List.mem_filter.mpr ⟨tm_1_7 (List.mem_of_getElem? (i := 9) rfl), by decide +kernel⟩⟩
theorem lk_X1_24 : hp_LK RX1 24 yX5_init := Or.inr ⟨"ProvenRecord", List.mem_filter.mpr ⟨tm_1_7 (List.mem_of_getElem? (i := 14) rfl), by decide +kernel⟩⟩
theorem lk_X10_63 : hp_LK RX10 63 yX7_init := Or.inr ⟨"ProvenRecord", List.mem_filter.mpr ⟨tm_1_9 (List.mem_of_getElem? (i := 9) rfl), by decide +kernel⟩⟩
theorem lk_X11_25 : hp_LK RX11 25 yX5_init := Or.inr ⟨"ProvenRecord", List.mem_filter.mpr ⟨tm_1_13 (List.mem_of_getElem? (i := 9) rfl), by decide +kernel⟩⟩
theorem lk_X11_39 : hp_LK RX11 39 yX9_init := Or.inr ⟨"ProvenRecord", List.mem_filter.mpr ⟨tm_1_13 (List.mem_of_getElem? (i := 11) rfl), by decide +kernel⟩⟩
theorem lk_X11_61 : hp_LK RX11 61 yX8_init := Or.inr ⟨"ProvenRecord", List.mem_filter.mpr ⟨tm_1_13 (List.mem_of_getElem? (i := 13) rfl), by decide +kernel⟩⟩
theorem lk_X11_74 : hp_LK RX11 74 yX0_init := Or.inr ⟨"ProvenRecord", List.mem_filter.mpr ⟨tm_1_14 (List.mem_of_getElem? (i := 0) rfl), by decide +kernel⟩⟩
theorem lk_X0_17 : hp_LK RX0 17 yX5_init := Or.inr ⟨"ProvenRecord", List.mem_filter.mpr ⟨tm_1_14 (List.mem_of_getElem? (i := 5) rfl), by decide +kernel⟩⟩
theorem lk_X11_81 : hp_LK RX11 81 yX3_init := Or.inr ⟨"ProvenRecord", List.mem_filter.mpr ⟨tb_2 (List.mem_of_getElem? (i := 8) rfl), by decide +kernel⟩⟩
theorem lk_X3_11 : hp_LK RX3 11 yX6_init := Or.inr ⟨"ProvenRecord", List.mem_filter.mpr ⟨tb_2 (List.mem_of_getElem? (i := 14) rfl), by decide +kernel⟩⟩
theorem lk_X3_20 : hp_LK RX3 20 yX5_init := Or.inr ⟨"ProvenRecord", List.mem_filter.mpr ⟨tm_2_2 (List.mem_of_getElem? (i := 13) rfl), by decide +kernel⟩⟩
theorem lk_X3_27 : hp_LK RX3 27 yX8_init := Or.inr ⟨"ProvenRecord", List.mem_filter.mpr ⟨tm_2_2 (List.mem_of_getElem? (i := 15) rfl), by decide +kernel⟩⟩
theorem lk_X3_48 : hp_LK RX3 48 yX9_init := Or.inr ⟨"ProvenRecord", List.mem_filter.mpr ⟨tm_2_3 (List.mem_of_getElem? (i := 2) rfl), by decide +kernel⟩⟩
theorem lk_L_13 : hp_LK RL 13 yX11_status := Or.inl (hp_mu (tm_2_9 (List.mem_of_getElem? (i := 2) rfl)) rfl)
theorem lk_L_18 : hp_LK RL 18 yX11_feed := Or.inl (hp_mu (tm_2_9 (List.mem_of_getElem? (i := 6) rfl)) rfl)
theorem lk_X11_94 : hp_LK RX11 94 yX11_putOnTape := Or.inl (hp_mu (tm_2_9 (List.mem_of_getElem? (i := 10) rfl)) rfl)
theorem lk_L_23 : hp_LK RL 23 yX11_load := Or.inl (hp_mu (tm_2_9 (List.mem_of_getElem? (i := 14) rfl)) rfl)
theorem lk_X11_98 : hp_LK RX11 98 yX11_refuse := Or.inl (hp_mu (tm_2_10 (List.mem_of_getElem? (i := 2) rfl)) rfl)
theorem lk_X11_102 : hp_LK RX11 102 yX10_renew := Or.inl (hp_mu (tm_2_10 (List.mem_of_getElem? (i := 6) rfl)) rfl)
theorem lk_X10_64 : hp_LK RX10 64 yX10_logAt := Or.inl (hp_mu (tm_2_10 (List.mem_of_getElem? (i := 10) rfl)) rfl)
theorem lk_X10_71 : hp_LK RX10 71 yX10_watcherAt := Or.inl (hp_mu (tm_2_10 (List.mem_of_getElem? (i := 14) rfl)) rfl)
theorem lk_X10_75 : hp_LK RX10 75 yX7_renew := Or.inl (hp_mu (tm_2_11 (List.mem_of_getElem? (i := 2) rfl)) rfl)
theorem lk_X7_25 : hp_LK RX7 25 yX7_trust := Or.inl (hp_mu (tm_2_11 (List.mem_of_getElem? (i := 6) rfl)) rfl)
theorem lk_X11_105 : hp_LK RX11 105 yX11_loadLines := Or.inl (hp_mu (tm_2_11 (List.mem_of_getElem? (i := 10) rfl)) rfl)
theorem lk_X11_118 : hp_LK RX11 118 yX3_begin := Or.inl (hp_mu (tm_2_11 (List.mem_of_getElem? (i := 14) rfl)) rfl)
theorem lk_X3_59 : hp_LK RX3 59 yX6_begin := Or.inl (hp_mu (tm_2_12 (List.mem_of_getElem? (i := 2) rfl)) rfl)
theorem lk_X6_34 : hp_LK RX6 34 yJ9_min_7cf53 := Or.inl (hp_mu (tm_2_12 (List.mem_of_getElem? (i := 6) rfl)) rfl)
theorem lk_X6_40 : hp_LK RX6 40 yJ9_max_7cf53 := Or.inl (hp_mu (tm_2_12 (List.mem_of_getElem? (i := 9) rfl)) rfl)
theorem lk_X3_63 : hp_LK RX3 63 yX6_advance := Or.inl (hp_mu (tm_2_12 (List.mem_of_getElem? (i := 12) rfl)) rfl)
theorem lk_X6_43 : hp_LK RX6 43 yX6_byteAt := Or.inl (hp_mu (tm_2_13 (List.mem_of_getElem? (i := 0) rfl)) rfl)
theorem lk_X6_47 : hp_LK RX6 47 yX6_isBlank := Or.inl (hp_mu (tm_2_13 (List.mem_of_getElem? (i := 4) rfl)) rfl)
theorem lk_X6_51 : hp_LK RX6 51 yX6_kindOf := Or.inl (hp_mu (tm_2_13 (List.mem_of_getElem? (i := 7) rfl)) rfl)
theorem lk_X11_439 : hp_LK RX11 439 yX3_readModulus := Or.inl (hp_mu (tm_2_13 (List.mem_of_getElem? (i := 10) rfl)) rfl)
theorem lk_X3_71 : hp_LK RX3 71 yX6_spells := Or.inl (hp_mu (tm_2_13 (List.mem_of_getElem? (i := 15) rfl)) rfl)
theorem lk_X6_54 : hp_LK RX6 54 yJ0_length_8abf5 := Or.inl (hp_mu (tm_2_14 (List.mem_of_getElem? (i := 3) rfl)) rfl)
theorem lk_J0_335 : hp_LK RJ0 335 yJ0_coder_7d493 := Or.inl (hp_mu (tm_2_14 (List.mem_of_getElem? (i := 7) rfl)) rfl)
theorem lk_X6_59 : hp_LK RX6 59 yJ0_charAt_5068e := Or.inl (hp_mu (tm_2_14 (List.mem_of_getElem? (i := 13) rfl)) rfl)
theorem lk_J0_492 : hp_LK RJ0 492 yJ0_isLatin1_aae02 := Or.inl (hp_mu (tb_3 (List.mem_of_getElem? (i := 1) rfl)) rfl)
theorem lk_J0_495 : hp_LK RJ0 495 yJ1_charAt_3b067 := Or.inl (hp_mu (tb_3 (List.mem_of_getElem? (i := 5) rfl)) rfl)
theorem lk_J1_9 : hp_LK RJ1 9 yJ0_checkIndex_df160 := Or.inl (hp_mu (tb_3 (List.mem_of_getElem? (i := 8) rfl)) rfl)
theorem lk_J0_1059 : hp_LK RJ0 1059 yJ3_checkIndex_8e157 := Or.inl (hp_mu (tb_3 (List.mem_of_getElem? (i := 13) rfl)) rfl)
theorem lk_X3_75 : hp_LK RX3 75 yX3_readNumber := Or.inl (hp_mu (tm_3_2 (List.mem_of_getElem? (i := 3) rfl)) rfl)
theorem lk_X3_117 : hp_LK RX3 117 yX3_stray := Or.inl (hp_mu (tm_3_2 (List.mem_of_getElem? (i := 7) rfl)) rfl)
theorem lk_X3_145 : hp_LK RX3 145 yX3_fail := Or.inl (hp_mu (tm_3_2 (List.mem_of_getElem? (i := 11) rfl)) rfl)
theorem lk_X3_79 : hp_LK RX3 79 yX3_readSign := Or.inl (hp_mu (tm_3_2 (List.mem_of_getElem? (i := 15) rfl)) rfl)
theorem lk_X11_443 : hp_LK RX11 443 yX3_isAtEnd := Or.inl (hp_mu (tm_3_3 (List.mem_of_getElem? (i := 3) rfl)) rfl)
theorem lk_X11_163 : hp_LK RX11 163 yX10_logAt := Or.inl (hp_mu (tm_3_3 (List.mem_of_getElem? (i := 7) rfl)) rfl)
theorem lk_X11_447 : hp_LK RX11 447 yX3_readLine := Or.inl (hp_mu (tm_3_3 (List.mem_of_getElem? (i := 8) rfl)) rfl)
theorem lk_X3_88 : hp_LK RX3 88 yX3_readAdd := Or.inl (hp_mu (tm_3_3 (List.mem_of_getElem? (i := 13) rfl)) rfl)
theorem lk_X3_99 : hp_LK RX3 99 yX3_hasRoom := Or.inl (hp_mu (tm_3_4 (List.mem_of_getElem? (i := 1) rfl)) rfl)
theorem lk_X3_141 : hp_LK RX3 141 yX9_clear := Or.inl (hp_mu (tm_3_4 (List.mem_of_getElem? (i := 5) rfl)) rfl)
theorem lk_X3_149 : hp_LK RX3 149 yX6_copyWord := Or.inl (hp_mu (tm_3_4 (List.mem_of_getElem? (i := 9) rfl)) rfl)
theorem lk_X6_63 : hp_LK RX6 63 yX9_clear := Or.inl (hp_mu (tm_3_4 (List.mem_of_getElem? (i := 13) rfl)) rfl)
theorem lk_X6_68 : hp_LK RX6 68 yX9_put := Or.inl (hp_mu (tm_3_4 (List.mem_of_getElem? (i := 14) rfl)) rfl)
theorem lk_X3_114 : hp_LK RX3 114 yX3_readShow := Or.inl (hp_mu (tm_3_5 (List.mem_of_getElem? (i := 6) rfl)) rfl)
theorem lk_X11_237 : hp_LK RX11 237 yX10_addWord := Or.inl (hp_mu (tm_3_5 (List.mem_of_getElem? (i := 10) rfl)) rfl)
theorem lk_X10_120 : hp_LK RX10 120 yX2_putWord := Or.inl (hp_mu (tm_3_5 (List.mem_of_getElem? (i := 14) rfl)) rfl)
theorem lk_X2_26 : hp_LK RX2 26 yX9_copy := Or.inl (hp_mu (tm_3_6 (List.mem_of_getElem? (i := 2) rfl)) rfl)
theorem lk_X9_19 : hp_LK RX9 19 yX9_clear := Or.inl (hp_mu (tm_3_6 (List.mem_of_getElem? (i := 6) rfl)) rfl)
theorem lk_X9_22 : hp_LK RX9 22 yX9_letterAt := Or.inl (hp_mu (tm_3_6 (List.mem_of_getElem? (i := 7) rfl)) rfl)
theorem lk_X9_26 : hp_LK RX9 26 yX9_put := Or.inl (hp_mu (tm_3_6 (List.mem_of_getElem? (i := 11) rfl)) rfl)
theorem lk_X2_30 : hp_LK RX2 30 yX9_markBy := Or.inl (hp_mu (tm_3_6 (List.mem_of_getElem? (i := 12) rfl)) rfl)
theorem lk_X9_30 : hp_LK RX9 30 yX11_mixed := Or.inr ⟨"ProvenRecord", List.mem_filter.mpr ⟨tm_3_7 (List.mem_of_getElem? (i := 0) rfl), by decide +kernel⟩⟩
theorem lk_X11_241 : hp_LK RX11 241 yX10_forkLog := Or.inl (hp_mu (tm_3_7 (List.mem_of_getElem? (i := 5) rfl)) rfl)
theorem lk_X10_124 : hp_LK RX10 124 yX2_wordAt := Or.inl (hp_mu (tm_3_7 (List.mem_of_getElem? (i := 9) rfl)) rfl)
theorem lk_X11_244 : hp_LK RX11 244 yX10_freezeHead := Or.inl (hp_mu (tm_3_7 (List.mem_of_getElem? (i := 13) rfl)) rfl)
theorem lk_X10_107 : hp_LK RX10 107 yX10_headOf := Or.inl (hp_mu (tm_3_8 (List.mem_of_getElem? (i := 1) rfl)) rfl)
theorem lk_X10_100 : hp_LK RX10 100 yX10_treeMark := Or.inl (hp_mu (tm_3_8 (List.mem_of_getElem? (i := 5) rfl)) rfl)
theorem lk_X10_82 : hp_LK RX10 82 yJ9_min_7cf53 := Or.inl (hp_mu (tm_3_8 (List.mem_of_getElem? (i := 9) rfl)) rfl)
theorem lk_X10_88 : hp_LK RX10 88 yX2_markAt := Or.inl (hp_mu (tm_3_8 (List.mem_of_getElem? (i := 10) rfl)) rfl)
theorem lk_X10_92 : hp_LK RX10 92 yX11_markOfTwo := Or.inr ⟨"ProvenRecord", List.mem_filter.mpr ⟨tm_3_8 (List.mem_of_getElem? (i := 14) rfl), by decide +kernel⟩⟩
theorem lk_X10_143 : hp_LK RX10 143 yX10_peaksOf := Or.inl (hp_mu (tm_3_9 (List.mem_of_getElem? (i := 2) rfl)) rfl)
theorem lk_X10_96 : hp_LK RX10 96 yX5_shorten := Or.inl (hp_mu (tm_3_9 (List.mem_of_getElem? (i := 6) rfl)) rfl)
theorem lk_X10_104 : hp_LK RX10 104 yX5_put := Or.inl (hp_mu (tm_3_9 (List.mem_of_getElem? (i := 10) rfl)) rfl)
theorem lk_X11_220 : hp_LK RX11 220 yX10_watcherAt := Or.inl (hp_mu (tm_3_9 (List.mem_of_getElem? (i := 14) rfl)) rfl)
theorem lk_X11_247 : hp_LK RX11 247 yX10_showTo := Or.inl (hp_mu (tm_3_9 (List.mem_of_getElem? (i := 15) rfl)) rfl)
theorem lk_X10_167 : hp_LK RX10 167 yX10_whyGrown := Or.inl (hp_mu (tm_3_10 (List.mem_of_getElem? (i := 3) rfl)) rfl)
theorem lk_X10_151 : hp_LK RX10 151 yX8_toGrowth := Or.inl (hp_mu (tm_3_10 (List.mem_of_getElem? (i := 7) rfl)) rfl)
theorem lk_X8_30 : hp_LK RX8 30 yX8_clear := Or.inl (hp_mu (tm_3_10 (List.mem_of_getElem? (i := 11) rfl)) rfl)
theorem lk_X8_33 : hp_LK RX8 33 yX11_firstPartOf := Or.inr ⟨"ProvenRecord", List.mem_filter.mpr ⟨tm_3_10 (List.mem_of_getElem? (i := 15) rfl), by decide +kernel⟩⟩
theorem lk_X11_463 : hp_LK RX11 463 yJ6_highestOneBit_0f7a4 := Or.inl (hp_mu (tm_3_11 (List.mem_of_getElem? (i := 2) rfl)) rfl)
theorem lk_J6_51 : hp_LK RJ6 51 yJ6_numberOfLeadingZeros_0f7a4 := Or.inl (hp_mu (tm_3_11 (List.mem_of_getElem? (i := 6) rfl)) rfl)
theorem lk_X8_37 : hp_LK RX8 37 yX8_put := Or.inl (hp_mu (tm_3_11 (List.mem_of_getElem? (i := 10) rfl)) rfl)
theorem lk_X8_41 : hp_LK RX8 41 yX8_turnRound := Or.inl (hp_mu (tm_3_11 (List.mem_of_getElem? (i := 14) rfl)) rfl)
theorem lk_X10_155 : hp_LK RX10 155 yX10_marksAlong := Or.inl (hp_mu (tm_3_12 (List.mem_of_getElem? (i := 2) rfl)) rfl)
theorem lk_X10_114 : hp_LK RX10 114 yX8_firstAt := Or.inl (hp_mu (tm_3_12 (List.mem_of_getElem? (i := 6) rfl)) rfl)
theorem lk_X10_117 : hp_LK RX10 117 yX8_manyAt := Or.inl (hp_mu (tm_3_12 (List.mem_of_getElem? (i := 10) rfl)) rfl)
theorem lk_X10_159 : hp_LK RX10 159 yX8_whyGrowth := Or.inl (hp_mu (tm_3_12 (List.mem_of_getElem? (i := 14) rfl)) rfl)
theorem lk_X8_79 : hp_LK RX8 79 yX8_toGrowth := Or.inl (hp_mu (tm_3_13 (List.mem_of_getElem? (i := 2) rfl)) rfl)
theorem lk_X8_65 : hp_LK RX8 65 yX5_at := Or.inl (hp_mu (tm_3_13 (List.mem_of_getElem? (i := 3) rfl)) rfl)
theorem lk_X8_70 : hp_LK RX8 70 yX8_joined := Or.inl (hp_mu (tm_3_13 (List.mem_of_getElem? (i := 7) rfl)) rfl)
theorem lk_X8_58 : hp_LK RX8 58 yX8_isAhead := Or.inl (hp_mu (tm_3_13 (List.mem_of_getElem? (i := 11) rfl)) rfl)
theorem lk_X8_62 : hp_LK RX8 62 yX11_markOfTwo := Or.inr ⟨"ProvenRecord", List.mem_filter.mpr ⟨tm_3_13 (List.mem_of_getElem? (i := 15) rfl), by decide +kernel⟩⟩
theorem lk_X10_171 : hp_LK RX10 171 yX7_trust := Or.inl (hp_mu (tm_3_14 (List.mem_of_getElem? (i := 0) rfl)) rfl)
theorem lk_X10_174 : hp_LK RX10 174 yX7_hearWhy := Or.inl (hp_mu (tm_3_14 (List.mem_of_getElem? (i := 1) rfl)) rfl)
theorem lk_X11_109 : hp_LK RX11 109 yX5_shorten := Or.inl (hp_mu (tm_3_14 (List.mem_of_getElem? (i := 5) rfl)) rfl)
theorem lk_X11_115 : hp_LK RX11 115 yX11_answer := Or.inl (hp_mu (tm_3_14 (List.mem_of_getElem? (i := 6) rfl)) rfl)
theorem lk_L_28 : hp_LK RL 28 yX11_hear := Or.inl (hp_mu (tm_3_14 (List.mem_of_getElem? (i := 10) rfl)) rfl)
theorem lk_X11_125 : hp_LK RX11 125 yX3_readProofs := Or.inl (hp_mu (tm_3_14 (List.mem_of_getElem? (i := 14) rfl)) rfl)
theorem lk_X3_120 : hp_LK RX3 120 yX5_shorten := Or.inl (hp_mu (tb_4 (List.mem_of_getElem? (i := 2) rfl)) rfl)
theorem lk_X3_124 : hp_LK RX3 124 yX3_isAtEnd := Or.inl (hp_mu (tb_4 (List.mem_of_getElem? (i := 3) rfl)) rfl)
theorem lk_X3_134 : hp_LK RX3 134 yX3_readInclusion := Or.inl (hp_mu (tb_4 (List.mem_of_getElem? (i := 6) rfl)) rfl)
theorem lk_X3_158 : hp_LK RX3 158 yX3_readWord := Or.inl (hp_mu (tb_4 (List.mem_of_getElem? (i := 12) rfl)) rfl)
theorem lk_X3_163 : hp_LK RX3 163 yX3_readMark := Or.inl (hp_mu (tm_4_1 (List.mem_of_getElem? (i := 1) rfl)) rfl)
theorem lk_X3_168 : hp_LK RX3 168 yX3_readRow := Or.inl (hp_mu (tm_4_1 (List.mem_of_getElem? (i := 6) rfl)) rfl)
theorem lk_X3_179 : hp_LK RX3 179 yX5_put := Or.inl (hp_mu (tm_4_1 (List.mem_of_getElem? (i := 11) rfl)) rfl)
theorem lk_X3_171 : hp_LK RX3 171 yX8_toThing := Or.inl (hp_mu (tm_4_1 (List.mem_of_getElem? (i := 12) rfl)) rfl)
theorem lk_X3_175 : hp_LK RX3 175 yX8_whyInclusion := Or.inl (hp_mu (tm_4_2 (List.mem_of_getElem? (i := 0) rfl)) rfl)
theorem lk_X8_75 : hp_LK RX8 75 yX8_folded := Or.inl (hp_mu (tm_4_2 (List.mem_of_getElem? (i := 4) rfl)) rfl)
theorem lk_X3_138 : hp_LK RX3 138 yX3_readGrowth := Or.inl (hp_mu (tm_4_2 (List.mem_of_getElem? (i := 8) rfl)) rfl)
theorem lk_X3_182 : hp_LK RX3 182 yX8_whyGrowth := Or.inl (hp_mu (tm_4_2 (List.mem_of_getElem? (i := 12) rfl)) rfl)
theorem lk_X11_129 : hp_LK RX11 129 yX5_countOf := Or.inl (hp_mu (tm_4_2 (List.mem_of_getElem? (i := 13) rfl)) rfl)
theorem lk_X5_19 : hp_LK RX5 19 yX5_at := Or.inl (hp_mu (tm_4_3 (List.mem_of_getElem? (i := 1) rfl)) rfl)
theorem lk_L_32 : hp_LK RL 32 yX11_heard := Or.inl (hp_mu (tm_4_3 (List.mem_of_getElem? (i := 2) rfl)) rfl)
theorem lk_X11_135 : hp_LK RX11 135 yX5_at := Or.inl (hp_mu (tm_4_3 (List.mem_of_getElem? (i := 6) rfl)) rfl)
theorem lk_L_36 : hp_LK RL 36 yX11_fault := Or.inl (hp_mu (tm_4_3 (List.mem_of_getElem? (i := 7) rfl)) rfl)
theorem lk_L_40 : hp_LK RL 40 yX11_type := Or.inl (hp_mu (tm_4_3 (List.mem_of_getElem? (i := 11) rfl)) rfl)
theorem lk_X11_144 : hp_LK RX11 144 yX9_clear := Or.inl (hp_mu (tm_4_3 (List.mem_of_getElem? (i := 15) rfl)) rfl)
theorem lk_X11_147 : hp_LK RX11 147 yX9_put := Or.inl (hp_mu (tm_4_4 (List.mem_of_getElem? (i := 0) rfl)) rfl)
theorem lk_L_45 : hp_LK RL 45 yX11_many := Or.inl (hp_mu (tm_4_4 (List.mem_of_getElem? (i := 1) rfl)) rfl)
theorem lk_X11_159 : hp_LK RX11 159 yX10_alarmedBits := Or.inl (hp_mu (tm_4_4 (List.mem_of_getElem? (i := 5) rfl)) rfl)
theorem lk_L_49 : hp_LK RL 49 yX11_size := Or.inl (hp_mu (tm_4_4 (List.mem_of_getElem? (i := 9) rfl)) rfl)
theorem lk_L_53 : hp_LK RL 53 yX11_entry := Or.inl (hp_mu (tm_4_4 (List.mem_of_getElem? (i := 13) rfl)) rfl)
theorem lk_X11_170 : hp_LK RX11 170 yX2_wordAt := Or.inl (hp_mu (tm_4_5 (List.mem_of_getElem? (i := 1) rfl)) rfl)
theorem lk_X11_174 : hp_LK RX11 174 yX2_markAt := Or.inl (hp_mu (tm_4_5 (List.mem_of_getElem? (i := 2) rfl)) rfl)
theorem lk_X11_177 : hp_LK RX11 177 yX9_letterAt := Or.inl (hp_mu (tm_4_5 (List.mem_of_getElem? (i := 3) rfl)) rfl)
theorem lk_L_58 : hp_LK RL 58 yX11_head := Or.inl (hp_mu (tm_4_5 (List.mem_of_getElem? (i := 4) rfl)) rfl)
theorem lk_X11_180 : hp_LK RX11 180 yX11_wrongGrowth := Or.inl (hp_mu (tm_4_5 (List.mem_of_getElem? (i := 8) rfl)) rfl)
theorem lk_X11_184 : hp_LK RX11 184 yX10_headOf := Or.inl (hp_mu (tm_4_5 (List.mem_of_getElem? (i := 11) rfl)) rfl)
theorem lk_L_62 : hp_LK RL 62 yX11_join := Or.inl (hp_mu (tm_4_5 (List.mem_of_getElem? (i := 12) rfl)) rfl)
theorem lk_X11_188 : hp_LK RX11 188 yX11_isMark := Or.inl (hp_mu (tm_4_6 (List.mem_of_getElem? (i := 0) rfl)) rfl)
theorem lk_X11_191 : hp_LK RX11 191 yX11_markOfTwo := Or.inl (hp_mu (tm_4_6 (List.mem_of_getElem? (i := 4) rfl)) rfl)
theorem lk_L_66 : hp_LK RL 66 yX11_mark := Or.inl (hp_mu (tm_4_6 (List.mem_of_getElem? (i := 5) rfl)) rfl)
theorem lk_X11_195 : hp_LK RX11 195 yX9_markBy := Or.inl (hp_mu (tm_4_6 (List.mem_of_getElem? (i := 9) rfl)) rfl)
theorem lk_L_70 : hp_LK RL 70 yX11_frozen := Or.inl (hp_mu (tm_4_6 (List.mem_of_getElem? (i := 10) rfl)) rfl)
theorem lk_X11_198 : hp_LK RX11 198 yX10_frozenAt := Or.inl (hp_mu (tm_4_6 (List.mem_of_getElem? (i := 14) rfl)) rfl)
theorem lk_X11_216 : hp_LK RX11 216 yX10_isSound := Or.inl (hp_mu (tm_4_7 (List.mem_of_getElem? (i := 2) rfl)) rfl)
theorem lk_X10_180 : hp_LK RX10 180 yX10_hasHead := Or.inl (hp_mu (tm_4_7 (List.mem_of_getElem? (i := 6) rfl)) rfl)
theorem lk_L_74 : hp_LK RL 74 yX11_watcher := Or.inl (hp_mu (tm_4_7 (List.mem_of_getElem? (i := 10) rfl)) rfl)
theorem lk_L_78 : hp_LK RL 78 yX11_add := Or.inl (hp_mu (tm_4_7 (List.mem_of_getElem? (i := 14) rfl)) rfl)
theorem lk_L_82 : hp_LK RL 82 yX11_fork := Or.inl (hp_mu (tm_4_8 (List.mem_of_getElem? (i := 2) rfl)) rfl)
theorem lk_L_86 : hp_LK RL 86 yX11_freeze := Or.inl (hp_mu (tm_4_8 (List.mem_of_getElem? (i := 6) rfl)) rfl)
theorem lk_L_90 : hp_LK RL 90 yX11_show := Or.inl (hp_mu (tm_4_8 (List.mem_of_getElem? (i := 10) rfl)) rfl)
theorem lk_L_94 : hp_LK RL 94 yX11_meet := Or.inl (hp_mu (tm_4_8 (List.mem_of_getElem? (i := 14) rfl)) rfl)
theorem lk_X11_251 : hp_LK RX11 251 yX10_meetBy := Or.inl (hp_mu (tm_4_9 (List.mem_of_getElem? (i := 2) rfl)) rfl)
theorem lk_L_98 : hp_LK RL 98 yX11_spoil := Or.inl (hp_mu (tm_4_9 (List.mem_of_getElem? (i := 6) rfl)) rfl)
theorem lk_X11_255 : hp_LK RX11 255 yX10_spoilLetter := Or.inl (hp_mu (tm_4_9 (List.mem_of_getElem? (i := 10) rfl)) rfl)
theorem lk_X10_147 : hp_LK RX10 147 yX2_changeLetter := Or.inl (hp_mu (tm_4_9 (List.mem_of_getElem? (i := 14) rfl)) rfl)
theorem lk_X2_34 : hp_LK RX2 34 yX2_wordAt := Or.inl (hp_mu (tm_4_10 (List.mem_of_getElem? (i := 2) rfl)) rfl)
theorem lk_X2_38 : hp_LK RX2 38 yX9_change := Or.inl (hp_mu (tm_4_10 (List.mem_of_getElem? (i := 3) rfl)) rfl)
theorem lk_L_103 : hp_LK RL 103 yX11_push := Or.inl (hp_mu (tm_4_10 (List.mem_of_getElem? (i := 7) rfl)) rfl)
theorem lk_X11_259 : hp_LK RX11 259 yX5_put := Or.inl (hp_mu (tm_4_10 (List.mem_of_getElem? (i := 11) rfl)) rfl)
theorem lk_L_107 : hp_LK RL 107 yX11_poke := Or.inl (hp_mu (tm_4_10 (List.mem_of_getElem? (i := 12) rfl)) rfl)
theorem lk_X11_260 : hp_LK RX11 260 yX5_change := Or.inl (hp_mu (tm_4_11 (List.mem_of_getElem? (i := 0) rfl)) rfl)
theorem lk_L_111 : hp_LK RL 111 yX11_pad := Or.inl (hp_mu (tm_4_11 (List.mem_of_getElem? (i := 4) rfl)) rfl)
theorem lk_L_115 : hp_LK RL 115 yX11_cut := Or.inl (hp_mu (tm_4_11 (List.mem_of_getElem? (i := 8) rfl)) rfl)
theorem lk_L_119 : hp_LK RL 119 yX11_include := Or.inl (hp_mu (tm_4_11 (List.mem_of_getElem? (i := 12) rfl)) rfl)
theorem lk_X11_264 : hp_LK RX11 264 yX11_wrongInclusion := Or.inl (hp_mu (tm_4_12 (List.mem_of_getElem? (i := 0) rfl)) rfl)
theorem lk_X11_267 : hp_LK RX11 267 yX8_toThing := Or.inl (hp_mu (tm_4_12 (List.mem_of_getElem? (i := 3) rfl)) rfl)
theorem lk_X11_270 : hp_LK RX11 270 yX10_marksAlong := Or.inl (hp_mu (tm_4_12 (List.mem_of_getElem? (i := 4) rfl)) rfl)
theorem lk_L_123 : hp_LK RL 123 yX11_grow := Or.inl (hp_mu (tm_4_12 (List.mem_of_getElem? (i := 5) rfl)) rfl)
theorem lk_X11_274 : hp_LK RX11 274 yX8_toGrowth := Or.inl (hp_mu (tm_4_12 (List.mem_of_getElem? (i := 9) rfl)) rfl)
theorem lk_L_127 : hp_LK RL 127 yX11_bundle := Or.inl (hp_mu (tm_4_12 (List.mem_of_getElem? (i := 10) rfl)) rfl)
theorem lk_X11_277 : hp_LK RX11 277 yX11_isSet := Or.inl (hp_mu (tm_4_12 (List.mem_of_getElem? (i := 14) rfl)) rfl)
theorem lk_X11_280 : hp_LK RX11 280 yX11_lieBelow := Or.inl (hp_mu (tm_4_13 (List.mem_of_getElem? (i := 1) rfl)) rfl)
theorem lk_X11_466 : hp_LK RX11 466 yJ9_min_7cf53 := Or.inl (hp_mu (tm_4_13 (List.mem_of_getElem? (i := 4) rfl)) rfl)
theorem lk_X11_471 : hp_LK RX11 471 yJ9_max_7cf53 := Or.inl (hp_mu (tm_4_13 (List.mem_of_getElem? (i := 5) rfl)) rfl)
theorem lk_X11_284 : hp_LK RX11 284 yX8_toBundle := Or.inl (hp_mu (tm_4_13 (List.mem_of_getElem? (i := 6) rfl)) rfl)
theorem lk_X8_44 : hp_LK RX8 44 yX11_hasOneOf := Or.inr ⟨"ProvenRecord", List.mem_filter.mpr ⟨tm_4_13 (List.mem_of_getElem? (i := 10) rfl), by decide +kernel⟩⟩
theorem lk_X8_48 : hp_LK RX8 48 yX8_putGreatestWithout := Or.inl (hp_mu (tm_4_13 (List.mem_of_getElem? (i := 13) rfl)) rfl)
theorem lk_L_131 : hp_LK RL 131 yX11_peaks := Or.inl (hp_mu (tm_4_14 (List.mem_of_getElem? (i := 1) rfl)) rfl)
theorem lk_X11_287 : hp_LK RX11 287 yX10_peaksOf := Or.inl (hp_mu (tm_4_14 (List.mem_of_getElem? (i := 5) rfl)) rfl)
theorem lk_L_135 : hp_LK RL 135 yX11_extend := Or.inl (hp_mu (tm_4_14 (List.mem_of_getElem? (i := 6) rfl)) rfl)
theorem lk_X11_292 : hp_LK RX11 292 yJ6_bitCount_0f7a4 := Or.inl (hp_mu (tm_4_14 (List.mem_of_getElem? (i := 11) rfl)) rfl)
theorem lk_X11_297 : hp_LK RX11 297 yX5_putPeak := Or.inl (hp_mu (tb_5 (List.mem_of_getElem? (i := 1) rfl)) rfl)
theorem lk_X5_23 : hp_LK RX5 23 yX11_markOfTwo := Or.inr ⟨"ProvenRecord", List.mem_filter.mpr ⟨tb_5 (List.mem_of_getElem? (i := 5) rfl), by decide +kernel⟩⟩
theorem lk_X5_27 : hp_LK RX5 27 yX5_shorten := Or.inl (hp_mu (tb_5 (List.mem_of_getElem? (i := 6) rfl)) rfl)
theorem lk_X5_31 : hp_LK RX5 31 yX5_put := Or.inl (hp_mu (tb_5 (List.mem_of_getElem? (i := 7) rfl)) rfl)
theorem lk_L_139 : hp_LK RL 139 yX11_checks := Or.inl (hp_mu (tb_5 (List.mem_of_getElem? (i := 8) rfl)) rfl)
theorem lk_X11_301 : hp_LK RX11 301 yX11_isThing := Or.inl (hp_mu (tb_5 (List.mem_of_getElem? (i := 12) rfl)) rfl)
theorem lk_X11_304 : hp_LK RX11 304 yX8_whyInclusion := Or.inl (hp_mu (tb_5 (List.mem_of_getElem? (i := 15) rfl)) rfl)
theorem lk_L_143 : hp_LK RL 143 yX11_growth := Or.inl (hp_mu (tm_5_1 (List.mem_of_getElem? (i := 0) rfl)) rfl)
theorem lk_X11_308 : hp_LK RX11 308 yX8_whyGrowth := Or.inl (hp_mu (tm_5_1 (List.mem_of_getElem? (i := 4) rfl)) rfl)
theorem lk_L_147 : hp_LK RL 147 yX11_bundled := Or.inl (hp_mu (tm_5_1 (List.mem_of_getElem? (i := 5) rfl)) rfl)
theorem lk_X11_313 : hp_LK RX11 313 yX0_why := Or.inl (hp_mu (tm_5_1 (List.mem_of_getElem? (i := 9) rfl)) rfl)
theorem lk_X0_31 : hp_LK RX0 31 yJ6_bitCount_0f7a4 := Or.inl (hp_mu (tm_5_1 (List.mem_of_getElem? (i := 13) rfl)) rfl)
theorem lk_X0_40 : hp_LK RX0 40 yX0_foldedTree := Or.inl (hp_mu (tm_5_1 (List.mem_of_getElem? (i := 14) rfl)) rfl)
theorem lk_X0_44 : hp_LK RX0 44 yX11_hasOneOf := Or.inr ⟨"ProvenRecord", List.mem_filter.mpr ⟨tm_5_2 (List.mem_of_getElem? (i := 1) rfl), by decide +kernel⟩⟩
theorem lk_X0_48 : hp_LK RX0 48 yX5_at := Or.inl (hp_mu (tm_5_2 (List.mem_of_getElem? (i := 2) rfl)) rfl)
theorem lk_X0_51 : hp_LK RX0 51 yX11_firstPartOf := Or.inr ⟨"ProvenRecord", List.mem_filter.mpr ⟨tm_5_2 (List.mem_of_getElem? (i := 3) rfl), by decide +kernel⟩⟩
theorem lk_X0_54 : hp_LK RX0 54 yX11_markOfTwo := Or.inr ⟨"ProvenRecord", List.mem_filter.mpr ⟨tm_5_2 (List.mem_of_getElem? (i := 4) rfl), by decide +kernel⟩⟩
theorem lk_L_151 : hp_LK RL 151 yX11_fold := Or.inl (hp_mu (tm_5_2 (List.mem_of_getElem? (i := 5) rfl)) rfl)
theorem lk_X11_316 : hp_LK RX11 316 yX5_foldedPeaks := Or.inl (hp_mu (tm_5_2 (List.mem_of_getElem? (i := 9) rfl)) rfl)
theorem lk_L_155 : hp_LK RL 155 yX11_steps := Or.inl (hp_mu (tm_5_2 (List.mem_of_getElem? (i := 13) rfl)) rfl)
theorem lk_L_159 : hp_LK RL 159 yX11_climbs := Or.inl (hp_mu (tm_5_3 (List.mem_of_getElem? (i := 1) rfl)) rfl)
theorem lk_L_163 : hp_LK RL 163 yX11_agree := Or.inl (hp_mu (tm_5_3 (List.mem_of_getElem? (i := 5) rfl)) rfl)
theorem lk_X11_319 : hp_LK RX11 319 yX10_doAgree := Or.inl (hp_mu (tm_5_3 (List.mem_of_getElem? (i := 9) rfl)) rfl)
theorem lk_L_167 : hp_LK RL 167 yX11_where := Or.inl (hp_mu (tm_5_3 (List.mem_of_getElem? (i := 13) rfl)) rfl)
theorem lk_X11_323 : hp_LK RX11 323 yX2_countLike := Or.inl (hp_mu (tm_5_4 (List.mem_of_getElem? (i := 1) rfl)) rfl)
theorem lk_X2_42 : hp_LK RX2 42 yX9_isLike := Or.inl (hp_mu (tm_5_4 (List.mem_of_getElem? (i := 5) rfl)) rfl)
theorem lk_X11_327 : hp_LK RX11 327 yX2_firstLike := Or.inl (hp_mu (tm_5_4 (List.mem_of_getElem? (i := 9) rfl)) rfl)
theorem lk_L_171 : hp_LK RL 171 yX11_tree := Or.inl (hp_mu (tm_5_4 (List.mem_of_getElem? (i := 13) rfl)) rfl)
theorem lk_X11_330 : hp_LK RX11 330 yX8_toTree := Or.inl (hp_mu (tm_5_5 (List.mem_of_getElem? (i := 1) rfl)) rfl)
theorem lk_X11_333 : hp_LK RX11 333 yX8_firstAt := Or.inl (hp_mu (tm_5_5 (List.mem_of_getElem? (i := 5) rfl)) rfl)
theorem lk_X11_336 : hp_LK RX11 336 yX8_manyAt := Or.inl (hp_mu (tm_5_5 (List.mem_of_getElem? (i := 6) rfl)) rfl)
theorem lk_X11_339 : hp_LK RX11 339 yX10_treeMark := Or.inl (hp_mu (tm_5_5 (List.mem_of_getElem? (i := 7) rfl)) rfl)
theorem lk_L_175 : hp_LK RL 175 yX11_proves := Or.inl (hp_mu (tm_5_5 (List.mem_of_getElem? (i := 8) rfl)) rfl)
theorem lk_X11_342 : hp_LK RX11 342 yX10_whyGrown := Or.inl (hp_mu (tm_5_5 (List.mem_of_getElem? (i := 12) rfl)) rfl)
theorem lk_L_179 : hp_LK RL 179 yX11_longest := Or.inl (hp_mu (tm_5_5 (List.mem_of_getElem? (i := 13) rfl)) rfl)
theorem lk_L_183 : hp_LK RL 183 yX11_part := Or.inl (hp_mu (tm_5_6 (List.mem_of_getElem? (i := 1) rfl)) rfl)
theorem lk_X11_346 : hp_LK RX11 346 yX10_partingEntry := Or.inl (hp_mu (tm_5_6 (List.mem_of_getElem? (i := 5) rfl)) rfl)
theorem lk_X10_199 : hp_LK RX10 199 yX10_partingTrees := Or.inl (hp_mu (tm_5_6 (List.mem_of_getElem? (i := 9) rfl)) rfl)
theorem lk_X10_203 : hp_LK RX10 203 yX11_firstPartOf := Or.inr ⟨"ProvenRecord", List.mem_filter.mpr ⟨tm_5_6 (List.mem_of_getElem? (i := 13) rfl), by decide +kernel⟩⟩
theorem lk_X11_350 : hp_LK RX11 350 yX10_partingCompared := Or.inl (hp_mu (tm_5_6 (List.mem_of_getElem? (i := 14) rfl)) rfl)
theorem lk_L_187 : hp_LK RL 187 yX11_blame := Or.inl (hp_mu (tm_5_7 (List.mem_of_getElem? (i := 2) rfl)) rfl)
theorem lk_X11_353 : hp_LK RX11 353 yX10_countUnsound := Or.inl (hp_mu (tm_5_7 (List.mem_of_getElem? (i := 6) rfl)) rfl)
theorem lk_X10_188 : hp_LK RX10 188 yX10_frozenAt := Or.inl (hp_mu (tm_5_7 (List.mem_of_getElem? (i := 10) rfl)) rfl)
theorem lk_X10_192 : hp_LK RX10 192 yX10_isSound := Or.inl (hp_mu (tm_5_7 (List.mem_of_getElem? (i := 11) rfl)) rfl)
theorem lk_X11_356 : hp_LK RX11 356 yX10_leastUnsound := Or.inl (hp_mu (tm_5_7 (List.mem_of_getElem? (i := 12) rfl)) rfl)
theorem lk_X11_359 : hp_LK RX11 359 yX10_greatestSoundBelow := Or.inl (hp_mu (tm_5_8 (List.mem_of_getElem? (i := 0) rfl)) rfl)
theorem lk_X10_196 : hp_LK RX10 196 yJ9_max_7cf53 := Or.inl (hp_mu (tm_5_8 (List.mem_of_getElem? (i := 4) rfl)) rfl)
theorem lk_L_191 : hp_LK RL 191 yX11_weak := Or.inl (hp_mu (tm_5_8 (List.mem_of_getElem? (i := 5) rfl)) rfl)
theorem lk_X11_363 : hp_LK RX11 363 yX11_preparedRoots := Or.inl (hp_mu (tm_5_8 (List.mem_of_getElem? (i := 9) rfl)) rfl)
theorem lk_X11_474 : hp_LK RX11 474 yX4_init := Or.inr ⟨"ProvenRecord", List.mem_filter.mpr ⟨tm_5_8 (List.mem_of_getElem? (i := 15) rfl), by decide +kernel⟩⟩
theorem lk_X4_25 : hp_LK RX4 25 yX8_init := Or.inr ⟨"ProvenRecord", List.mem_filter.mpr ⟨tm_5_9 (List.mem_of_getElem? (i := 5) rfl), by decide +kernel⟩⟩
theorem lk_X4_32 : hp_LK RX4 32 yX5_init := Or.inr ⟨"ProvenRecord", List.mem_filter.mpr ⟨tm_5_9 (List.mem_of_getElem? (i := 7) rfl), by decide +kernel⟩⟩
theorem lk_X11_475 : hp_LK RX11 475 yX4_prepare := Or.inl (hp_mu (tm_5_11 (List.mem_of_getElem? (i := 12) rfl)) rfl)
theorem lk_X11_367 : hp_LK RX11 367 yX4_seekThing := Or.inl (hp_mu (tm_5_12 (List.mem_of_getElem? (i := 1) rfl)) rfl)
theorem lk_X4_57 : hp_LK RX4 57 yX4_seek := Or.inl (hp_mu (tm_5_12 (List.mem_of_getElem? (i := 5) rfl)) rfl)
theorem lk_X4_64 : hp_LK RX4 64 yX4_goBack := Or.inl (hp_mu (tm_5_12 (List.mem_of_getElem? (i := 9) rfl)) rfl)
theorem lk_X4_68 : hp_LK RX4 68 yX4_take := Or.inl (hp_mu (tm_5_12 (List.mem_of_getElem? (i := 12) rfl)) rfl)
theorem lk_X4_89 : hp_LK RX4 89 yJ9_min_7cf53 := Or.inl (hp_mu (tm_5_13 (List.mem_of_getElem? (i := 0) rfl)) rfl)
theorem lk_X4_71 : hp_LK RX4 71 yX5_at := Or.inl (hp_mu (tm_5_13 (List.mem_of_getElem? (i := 1) rfl)) rfl)
theorem lk_X4_75 : hp_LK RX4 75 yX8_isAhead := Or.inl (hp_mu (tm_5_13 (List.mem_of_getElem? (i := 2) rfl)) rfl)
theorem lk_X4_79 : hp_LK RX4 79 yX4_secondOf := Or.inl (hp_mu (tm_5_13 (List.mem_of_getElem? (i := 3) rfl)) rfl)
theorem lk_X4_94 : hp_LK RX4 94 yX11_markOfTwo := Or.inr ⟨"ProvenRecord", List.mem_filter.mpr ⟨tm_5_13 (List.mem_of_getElem? (i := 7) rfl), by decide +kernel⟩⟩
theorem lk_X4_98 : hp_LK RX4 98 yX4_restOf := Or.inl (hp_mu (tm_5_13 (List.mem_of_getElem? (i := 8) rfl)) rfl)
theorem lk_X4_104 : hp_LK RX4 104 yJ9_floorMod_f86c9 := Or.inl (hp_mu (tm_5_13 (List.mem_of_getElem? (i := 12) rfl)) rfl)
theorem lk_X4_83 : hp_LK RX4 83 yX4_leastRoot := Or.inl (hp_mu (tm_5_13 (List.mem_of_getElem? (i := 15) rfl)) rfl)
theorem lk_X4_86 : hp_LK RX4 86 yX4_firstOf := Or.inl (hp_mu (tm_5_14 (List.mem_of_getElem? (i := 3) rfl)) rfl)
theorem lk_L_195 : hp_LK RL 195 yX11_clash := Or.inl (hp_mu (tm_5_14 (List.mem_of_getElem? (i := 8) rfl)) rfl)
theorem lk_X11_379 : hp_LK RX11 379 yX11_clashingStep := Or.inl (hp_mu (tm_5_14 (List.mem_of_getElem? (i := 12) rfl)) rfl)
theorem lk_X11_478 : hp_LK RX11 478 yX8_joined := Or.inl (hp_mu (tb_6 (List.mem_of_getElem? (i := 0) rfl)) rfl)
theorem lk_X11_382 : hp_LK RX11 382 yX8_folded := Or.inl (hp_mu (tb_6 (List.mem_of_getElem? (i := 1) rfl)) rfl)
theorem lk_X11_385 : hp_LK RX11 385 yX8_isAhead := Or.inl (hp_mu (tb_6 (List.mem_of_getElem? (i := 2) rfl)) rfl)
theorem lk_L_199 : hp_LK RL 199 yX11_forge := Or.inl (hp_mu (tb_6 (List.mem_of_getElem? (i := 3) rfl)) rfl)
theorem lk_X11_388 : hp_LK RX11 388 yX4_seekStep := Or.inl (hp_mu (tb_6 (List.mem_of_getElem? (i := 7) rfl)) rfl)
theorem lk_L_203 : hp_LK RL 203 yX11_trace := Or.inl (hp_mu (tb_6 (List.mem_of_getElem? (i := 11) rfl)) rfl)
theorem lk_L_207 : hp_LK RL 207 yX11_span := Or.inl (hp_mu (tb_6 (List.mem_of_getElem? (i := 15) rfl)) rfl)
theorem lk_X11_392 : hp_LK RX11 392 yX11_treeOfWay := Or.inl (hp_mu (tm_6_1 (List.mem_of_getElem? (i := 3) rfl)) rfl)
theorem lk_L_211 : hp_LK RL 211 yX11_rise := Or.inl (hp_mu (tm_6_1 (List.mem_of_getElem? (i := 7) rfl)) rfl)
theorem lk_L_215 : hp_LK RL 215 yX11_kept := Or.inl (hp_mu (tm_6_1 (List.mem_of_getElem? (i := 11) rfl)) rfl)
theorem lk_X11_395 : hp_LK RX11 395 yX8_countShared := Or.inl (hp_mu (tm_6_1 (List.mem_of_getElem? (i := 15) rfl)) rfl)
theorem lk_X8_52 : hp_LK RX8 52 yX8_firstAt := Or.inl (hp_mu (tm_6_2 (List.mem_of_getElem? (i := 3) rfl)) rfl)
theorem lk_X8_55 : hp_LK RX8 55 yX8_manyAt := Or.inl (hp_mu (tm_6_2 (List.mem_of_getElem? (i := 4) rfl)) rfl)
theorem lk_L_219 : hp_LK RL 219 yX11_sick := Or.inl (hp_mu (tm_6_2 (List.mem_of_getElem? (i := 5) rfl)) rfl)
theorem lk_X11_399 : hp_LK RX11 399 yX10_sickBits := Or.inl (hp_mu (tm_6_2 (List.mem_of_getElem? (i := 9) rfl)) rfl)
theorem lk_X10_185 : hp_LK RX10 185 yX5_at := Or.inl (hp_mu (tm_6_2 (List.mem_of_getElem? (i := 13) rfl)) rfl)
theorem lk_L_223 : hp_LK RL 223 yX11_chain := Or.inl (hp_mu (tm_6_2 (List.mem_of_getElem? (i := 14) rfl)) rfl)
theorem lk_X11_403 : hp_LK RX11 403 yX10_leastFrozenAbove := Or.inl (hp_mu (tm_6_3 (List.mem_of_getElem? (i := 2) rfl)) rfl)
theorem lk_X11_406 : hp_LK RX11 406 yX11_addLinks := Or.inl (hp_mu (tm_6_3 (List.mem_of_getElem? (i := 6) rfl)) rfl)
theorem lk_X11_482 : hp_LK RX11 482 yX11_isLink := Or.inl (hp_mu (tm_6_3 (List.mem_of_getElem? (i := 10) rfl)) rfl)
theorem lk_L_227 : hp_LK RL 227 yX11_split := Or.inl (hp_mu (tm_6_3 (List.mem_of_getElem? (i := 14) rfl)) rfl)
theorem lk_L_231 : hp_LK RL 231 yX11_tell := Or.inl (hp_mu (tm_6_4 (List.mem_of_getElem? (i := 2) rfl)) rfl)
theorem lk_X11_411 : hp_LK RX11 411 yX11_tellText := Or.inl (hp_mu (tm_6_4 (List.mem_of_getElem? (i := 7) rfl)) rfl)
theorem lk_X11_485 : hp_LK RX11 485 yJ0_length_8abf5 := Or.inl (hp_mu (tm_6_4 (List.mem_of_getElem? (i := 11) rfl)) rfl)
theorem lk_X11_489 : hp_LK RX11 489 yJ0_charAt_5068e := Or.inl (hp_mu (tm_6_4 (List.mem_of_getElem? (i := 12) rfl)) rfl)
theorem lk_X11_493 : hp_LK RX11 493 yX11_tellByte := Or.inl (hp_mu (tm_6_4 (List.mem_of_getElem? (i := 13) rfl)) rfl)
theorem lk_X11_415 : hp_LK RX11 415 yX11_tellNumber := Or.inl (hp_mu (tm_6_5 (List.mem_of_getElem? (i := 1) rfl)) rfl)
theorem lk_X11_424 : hp_LK RX11 424 yX11_tellProof := Or.inl (hp_mu (tm_6_5 (List.mem_of_getElem? (i := 8) rfl)) rfl)
theorem lk_L_235 : hp_LK RL 235 yX11_tellGrowth := Or.inl (hp_mu (tm_6_5 (List.mem_of_getElem? (i := 15) rfl)) rfl)
theorem lk_L_239 : hp_LK RL 239 yX11_out := Or.inl (hp_mu (tm_6_6 (List.mem_of_getElem? (i := 5) rfl)) rfl)
theorem lk_L_243 : hp_LK RL 243 yX11_trusted := Or.inl (hp_mu (tm_6_6 (List.mem_of_getElem? (i := 9) rfl)) rfl)
theorem lk_L_247 : hp_LK RL 247 yX11_saves := Or.inl (hp_mu (tm_6_6 (List.mem_of_getElem? (i := 13) rfl)) rfl)
theorem lk_X11_431 : hp_LK RX11 431 yX11_hasOneOf := Or.inl (hp_mu (tm_6_7 (List.mem_of_getElem? (i := 1) rfl)) rfl)
theorem lk_L_251 : hp_LK RL 251 yX11_who := Or.inl (hp_mu (tm_6_7 (List.mem_of_getElem? (i := 2) rfl)) rfl)
theorem lk_X11_435 : hp_LK RX11 435 yX10_hasHead := Or.inl (hp_mu (tm_6_7 (List.mem_of_getElem? (i := 6) rfl)) rfl)
theorem lk_L_12 : hp_LK RL 12 yX12_init := Or.inl (hp_mu (tm_6_7 (List.mem_of_getElem? (i := 9) rfl)) rfl)
theorem lk_X12_103 : hp_LK RX12 103 yX12_clears := Or.inl (hp_mu (tm_6_8 (List.mem_of_getElem? (i := 9) rfl)) rfl)
theorem lk_L_17 : hp_LK RL 17 yX12_status := Or.inl (hp_mu (tm_7_3 (List.mem_of_getElem? (i := 0) rfl)) rfl)
theorem lk_L_44 : hp_LK RL 44 yX12_type := Or.inl (hp_mu (tm_7_3 (List.mem_of_getElem? (i := 4) rfl)) rfl)
theorem lk_L_22 : hp_LK RL 22 yX12_feed := Or.inl (hp_mu (tm_7_3 (List.mem_of_getElem? (i := 8) rfl)) rfl)
theorem lk_X12_233 : hp_LK RX12 233 yX12_puts := Or.inl (hp_mu (tm_7_3 (List.mem_of_getElem? (i := 12) rfl)) rfl)
theorem lk_L_27 : hp_LK RL 27 yX12_load := Or.inl (hp_mu (tm_7_4 (List.mem_of_getElem? (i := 0) rfl)) rfl)
theorem lk_X12_113 : hp_LK RX12 113 yX12_isIn := Or.inl (hp_mu (tm_7_4 (List.mem_of_getElem? (i := 4) rfl)) rfl)
theorem lk_X12_309 : hp_LK RX12 309 yX12_is := Or.inl (hp_mu (tm_7_4 (List.mem_of_getElem? (i := 7) rfl)) rfl)
theorem lk_X12_312 : hp_LK RX12 312 yX12_begins := Or.inl (hp_mu (tm_7_4 (List.mem_of_getElem? (i := 11) rfl)) rfl)
theorem lk_X12_276 : hp_LK RX12 276 yX12_reads := Or.inl (hp_mu (tm_7_4 (List.mem_of_getElem? (i := 15) rfl)) rfl)
theorem lk_X12_248 : hp_LK RX12 248 yX12_isOf := Or.inl (hp_mu (tm_7_5 (List.mem_of_getElem? (i := 3) rfl)) rfl)
theorem lk_X12_268 : hp_LK RX12 268 yX12_isWord := Or.inl (hp_mu (tm_7_5 (List.mem_of_getElem? (i := 9) rfl)) rfl)
theorem lk_X12_279 : hp_LK RX12 279 yX12_takesNumber := Or.inl (hp_mu (tm_7_5 (List.mem_of_getElem? (i := 13) rfl)) rfl)
theorem lk_X12_272 : hp_LK RX12 272 yX12_must := Or.inl (hp_mu (tm_7_6 (List.mem_of_getElem? (i := 1) rfl)) rfl)
theorem lk_X12_285 : hp_LK RX12 285 yX12_takesEnd := Or.inl (hp_mu (tm_7_6 (List.mem_of_getElem? (i := 5) rfl)) rfl)
theorem lk_X12_315 : hp_LK RX12 315 yX12_line := Or.inl (hp_mu (tm_7_6 (List.mem_of_getElem? (i := 9) rfl)) rfl)
theorem lk_X12_294 : hp_LK RX12 294 yX12_addLine := Or.inl (hp_mu (tm_7_6 (List.mem_of_getElem? (i := 13) rfl)) rfl)
theorem lk_X12_209 : hp_LK RX12 209 yX12_sizeOf := Or.inl (hp_mu (tm_7_7 (List.mem_of_getElem? (i := 1) rfl)) rfl)
theorem lk_X12_288 : hp_LK RX12 288 yX12_adds := Or.inl (hp_mu (tm_7_7 (List.mem_of_getElem? (i := 5) rfl)) rfl)
theorem lk_X12_212 : hp_LK RX12 212 yX12_refuse := Or.inl (hp_mu (tm_7_7 (List.mem_of_getElem? (i := 9) rfl)) rfl)
theorem lk_X12_297 : hp_LK RX12 297 yX12_forkLine := Or.inl (hp_mu (tm_7_7 (List.mem_of_getElem? (i := 13) rfl)) rfl)
theorem lk_X12_291 : hp_LK RX12 291 yX12_forks := Or.inl (hp_mu (tm_7_8 (List.mem_of_getElem? (i := 1) rfl)) rfl)
theorem lk_X12_300 : hp_LK RX12 300 yX12_freezes := Or.inl (hp_mu (tm_7_8 (List.mem_of_getElem? (i := 5) rfl)) rfl)
theorem lk_X12_215 : hp_LK RX12 215 yX12_headOf := Or.inl (hp_mu (tm_7_8 (List.mem_of_getElem? (i := 9) rfl)) rfl)
theorem lk_X12_132 : hp_LK RX12 132 yX12_treeMark := Or.inl (hp_mu (tm_7_8 (List.mem_of_getElem? (i := 13) rfl)) rfl)
theorem lk_X12_125 : hp_LK RX12 125 yX12_entryMark := Or.inl (hp_mu (tm_7_9 (List.mem_of_getElem? (i := 1) rfl)) rfl)
theorem lk_X12_121 : hp_LK RX12 121 yX12_mixed := Or.inl (hp_mu (tm_7_9 (List.mem_of_getElem? (i := 5) rfl)) rfl)
theorem lk_X12_128 : hp_LK RX12 128 yX12_part0 := Or.inl (hp_mu (tm_7_9 (List.mem_of_getElem? (i := 11) rfl)) rfl)
theorem lk_X12_136 : hp_LK RX12 136 yX12_both := Or.inl (hp_mu (tm_7_9 (List.mem_of_getElem? (i := 14) rfl)) rfl)
theorem lk_X12_218 : hp_LK RX12 218 yX12_peaksOf := Or.inl (hp_mu (tm_7_10 (List.mem_of_getElem? (i := 2) rfl)) rfl)
theorem lk_X12_146 : hp_LK RX12 146 yX12_asks := Or.inl (hp_mu (tm_7_10 (List.mem_of_getElem? (i := 7) rfl)) rfl)
theorem lk_X12_161 : hp_LK RX12 161 yX12_fetches := Or.inl (hp_mu (tm_7_10 (List.mem_of_getElem? (i := 11) rfl)) rfl)
theorem lk_X12_303 : hp_LK RX12 303 yX12_takes := Or.inl (hp_mu (tm_7_10 (List.mem_of_getElem? (i := 15) rfl)) rfl)
theorem lk_X12_306 : hp_LK RX12 306 yX12_shows := Or.inl (hp_mu (tm_7_11 (List.mem_of_getElem? (i := 3) rfl)) rfl)
theorem lk_X12_221 : hp_LK RX12 221 yX12_trust := Or.inl (hp_mu (tm_7_11 (List.mem_of_getElem? (i := 7) rfl)) rfl)
theorem lk_X12_224 : hp_LK RX12 224 yX12_whyByRecord := Or.inl (hp_mu (tm_7_11 (List.mem_of_getElem? (i := 11) rfl)) rfl)
theorem lk_X12_190 : hp_LK RX12 190 yX12_growth := Or.inl (hp_mu (tm_7_11 (List.mem_of_getElem? (i := 15) rfl)) rfl)
theorem lk_X12_150 : hp_LK RX12 150 yX12_growsIn := Or.inl (hp_mu (tm_7_12 (List.mem_of_getElem? (i := 3) rfl)) rfl)
theorem lk_X12_199 : hp_LK RX12 199 yX12_whyGrown := Or.inl (hp_mu (tm_7_12 (List.mem_of_getElem? (i := 7) rfl)) rfl)
theorem lk_X12_187 : hp_LK RX12 187 yX12_foldsGrowth := Or.inl (hp_mu (tm_7_12 (List.mem_of_getElem? (i := 11) rfl)) rfl)
theorem lk_X12_227 : hp_LK RX12 227 yX12_trusts := Or.inl (hp_mu (tm_7_12 (List.mem_of_getElem? (i := 15) rfl)) rfl)
theorem lk_X12_318 : hp_LK RX12 318 yX12_ends := Or.inl (hp_mu (tm_7_13 (List.mem_of_getElem? (i := 3) rfl)) rfl)
theorem lk_L_31 : hp_LK RL 31 yX12_hear := Or.inl (hp_mu (tm_7_13 (List.mem_of_getElem? (i := 7) rfl)) rfl)
theorem lk_X12_335 : hp_LK RX12 335 yX12_statementIn := Or.inl (hp_mu (tm_7_13 (List.mem_of_getElem? (i := 11) rfl)) rfl)
theorem lk_X12_325 : hp_LK RX12 325 yX12_takesMark := Or.inl (hp_mu (tm_7_14 (List.mem_of_getElem? (i := 0) rfl)) rfl)
theorem lk_X12_329 : hp_LK RX12 329 yX12_takesMarks := Or.inl (hp_mu (tm_7_14 (List.mem_of_getElem? (i := 4) rfl)) rfl)
theorem lk_X12_321 : hp_LK RX12 321 yX12_isMark := Or.inl (hp_mu (tm_7_14 (List.mem_of_getElem? (i := 8) rfl)) rfl)
theorem lk_X12_332 : hp_LK RX12 332 yX12_whyIn := Or.inl (hp_mu (tm_7_14 (List.mem_of_getElem? (i := 12) rfl)) rfl)
theorem lk_X12_171 : hp_LK RX12 171 yX12_inclusion := Or.inl (hp_mu (tb_8 (List.mem_of_getElem? (i := 0) rfl)) rfl)
theorem lk_X12_142 : hp_LK RX12 142 yX12_waysIn := Or.inl (hp_mu (tb_8 (List.mem_of_getElem? (i := 4) rfl)) rfl)
theorem lk_X12_174 : hp_LK RX12 174 yX12_folded := Or.inl (hp_mu (tb_8 (List.mem_of_getElem? (i := 8) rfl)) rfl)
theorem lk_X12_165 : hp_LK RX12 165 yX12_foldsIn := Or.inl (hp_mu (tb_8 (List.mem_of_getElem? (i := 12) rfl)) rfl)
theorem lk_X12_177 : hp_LK RX12 177 yX12_why := Or.inl (hp_mu (tm_8_1 (List.mem_of_getElem? (i := 0) rfl)) rfl)
theorem lk_X12_338 : hp_LK RX12 338 yX12_statementGrow := Or.inl (hp_mu (tm_8_1 (List.mem_of_getElem? (i := 4) rfl)) rfl)
theorem lk_L_35 : hp_LK RL 35 yX12_heard := Or.inl (hp_mu (tm_8_1 (List.mem_of_getElem? (i := 8) rfl)) rfl)
theorem lk_L_39 : hp_LK RL 39 yX12_fault := Or.inl (hp_mu (tm_8_1 (List.mem_of_getElem? (i := 12) rfl)) rfl)
theorem lk_L_48 : hp_LK RL 48 yX12_many := Or.inl (hp_mu (tm_8_2 (List.mem_of_getElem? (i := 0) rfl)) rfl)
theorem lk_L_52 : hp_LK RL 52 yX12_size := Or.inl (hp_mu (tm_8_2 (List.mem_of_getElem? (i := 4) rfl)) rfl)
theorem lk_X12_344 : hp_LK RX12 344 yX12_isRecord := Or.inl (hp_mu (tm_8_2 (List.mem_of_getElem? (i := 8) rfl)) rfl)
theorem lk_L_57 : hp_LK RL 57 yX12_entry := Or.inl (hp_mu (tm_8_2 (List.mem_of_getElem? (i := 12) rfl)) rfl)
theorem lk_L_61 : hp_LK RL 61 yX12_head := Or.inl (hp_mu (tm_8_3 (List.mem_of_getElem? (i := 0) rfl)) rfl)
theorem lk_X12_347 : hp_LK RX12 347 yX12_noSize := Or.inl (hp_mu (tm_8_3 (List.mem_of_getElem? (i := 4) rfl)) rfl)
theorem lk_L_65 : hp_LK RL 65 yX12_join := Or.inl (hp_mu (tm_8_3 (List.mem_of_getElem? (i := 8) rfl)) rfl)
theorem lk_L_69 : hp_LK RL 69 yX12_mark := Or.inl (hp_mu (tm_8_3 (List.mem_of_getElem? (i := 12) rfl)) rfl)
theorem lk_L_73 : hp_LK RL 73 yX12_frozen := Or.inl (hp_mu (tm_8_4 (List.mem_of_getElem? (i := 0) rfl)) rfl)
theorem lk_X12_350 : hp_LK RX12 350 yX12_froze := Or.inl (hp_mu (tm_8_4 (List.mem_of_getElem? (i := 4) rfl)) rfl)
theorem lk_X12_353 : hp_LK RX12 353 yX12_isSound := Or.inl (hp_mu (tm_8_4 (List.mem_of_getElem? (i := 8) rfl)) rfl)
theorem lk_L_77 : hp_LK RL 77 yX12_watcher := Or.inl (hp_mu (tm_8_4 (List.mem_of_getElem? (i := 12) rfl)) rfl)
theorem lk_X12_356 : hp_LK RX12 356 yX12_isWatcher := Or.inl (hp_mu (tm_8_5 (List.mem_of_getElem? (i := 0) rfl)) rfl)
theorem lk_L_81 : hp_LK RL 81 yX12_add := Or.inl (hp_mu (tm_8_5 (List.mem_of_getElem? (i := 3) rfl)) rfl)
theorem lk_X12_359 : hp_LK RX12 359 yX12_hand := Or.inl (hp_mu (tm_8_5 (List.mem_of_getElem? (i := 7) rfl)) rfl)
theorem lk_L_85 : hp_LK RL 85 yX12_fork := Or.inl (hp_mu (tm_8_5 (List.mem_of_getElem? (i := 11) rfl)) rfl)
theorem lk_L_89 : hp_LK RL 89 yX12_freeze := Or.inl (hp_mu (tm_8_5 (List.mem_of_getElem? (i := 15) rfl)) rfl)
theorem lk_L_93 : hp_LK RL 93 yX12_show := Or.inl (hp_mu (tm_8_6 (List.mem_of_getElem? (i := 3) rfl)) rfl)
theorem lk_L_97 : hp_LK RL 97 yX12_meet := Or.inl (hp_mu (tm_8_6 (List.mem_of_getElem? (i := 7) rfl)) rfl)
theorem lk_L_102 : hp_LK RL 102 yX12_spoil := Or.inl (hp_mu (tm_8_6 (List.mem_of_getElem? (i := 11) rfl)) rfl)
theorem lk_L_106 : hp_LK RL 106 yX12_push := Or.inl (hp_mu (tm_8_6 (List.mem_of_getElem? (i := 15) rfl)) rfl)
theorem lk_L_110 : hp_LK RL 110 yX12_poke := Or.inl (hp_mu (tm_8_7 (List.mem_of_getElem? (i := 3) rfl)) rfl)
theorem lk_L_114 : hp_LK RL 114 yX12_pad := Or.inl (hp_mu (tm_8_7 (List.mem_of_getElem? (i := 7) rfl)) rfl)
theorem lk_L_118 : hp_LK RL 118 yX12_cut := Or.inl (hp_mu (tm_8_7 (List.mem_of_getElem? (i := 11) rfl)) rfl)
theorem lk_L_122 : hp_LK RL 122 yX12_include := Or.inl (hp_mu (tm_8_7 (List.mem_of_getElem? (i := 15) rfl)) rfl)
theorem lk_X12_362 : hp_LK RX12 362 yX12_noEntry := Or.inl (hp_mu (tm_8_8 (List.mem_of_getElem? (i := 3) rfl)) rfl)
theorem lk_X12_365 : hp_LK RX12 365 yX12_pads := Or.inl (hp_mu (tm_8_8 (List.mem_of_getElem? (i := 7) rfl)) rfl)
theorem lk_L_126 : hp_LK RL 126 yX12_grow := Or.inl (hp_mu (tm_8_8 (List.mem_of_getElem? (i := 11) rfl)) rfl)
theorem lk_L_130 : hp_LK RL 130 yX12_bundle := Or.inl (hp_mu (tm_8_8 (List.mem_of_getElem? (i := 15) rfl)) rfl)
theorem lk_X12_368 : hp_LK RX12 368 yX12_isBeyond := Or.inl (hp_mu (tm_8_9 (List.mem_of_getElem? (i := 3) rfl)) rfl)
theorem lk_X12_372 : hp_LK RX12 372 yX12_bundleOf := Or.inl (hp_mu (tm_8_9 (List.mem_of_getElem? (i := 6) rfl)) rfl)
theorem lk_X12_157 : hp_LK RX12 157 yX12_bundlesIn := Or.inl (hp_mu (tm_8_9 (List.mem_of_getElem? (i := 10) rfl)) rfl)
theorem lk_X12_154 : hp_LK RX12 154 yX12_hasAny := Or.inl (hp_mu (tm_8_9 (List.mem_of_getElem? (i := 14) rfl)) rfl)
theorem lk_L_134 : hp_LK RL 134 yX12_peaks := Or.inl (hp_mu (tm_8_10 (List.mem_of_getElem? (i := 1) rfl)) rfl)
theorem lk_L_138 : hp_LK RL 138 yX12_extend := Or.inl (hp_mu (tm_8_10 (List.mem_of_getElem? (i := 5) rfl)) rfl)
theorem lk_X12_376 : hp_LK RX12 376 yJ6_bitCount_0f7a4 := Or.inl (hp_mu (tm_8_10 (List.mem_of_getElem? (i := 10) rfl)) rfl)
theorem lk_L_142 : hp_LK RL 142 yX12_checks := Or.inl (hp_mu (tm_8_10 (List.mem_of_getElem? (i := 11) rfl)) rfl)
theorem lk_X12_381 : hp_LK RX12 381 yX12_isThing := Or.inl (hp_mu (tm_8_10 (List.mem_of_getElem? (i := 15) rfl)) rfl)
theorem lk_X12_384 : hp_LK RX12 384 yX12_fromPad := Or.inl (hp_mu (tm_8_11 (List.mem_of_getElem? (i := 3) rfl)) rfl)
theorem lk_L_146 : hp_LK RL 146 yX12_growth_ := Or.inl (hp_mu (tm_8_11 (List.mem_of_getElem? (i := 7) rfl)) rfl)
theorem lk_L_150 : hp_LK RL 150 yX12_bundled := Or.inl (hp_mu (tm_8_11 (List.mem_of_getElem? (i := 11) rfl)) rfl)
theorem lk_X12_196 : hp_LK RX12 196 yX12_foldsBundle := Or.inl (hp_mu (tm_8_11 (List.mem_of_getElem? (i := 15) rfl)) rfl)
theorem lk_L_154 : hp_LK RL 154 yX12_fold := Or.inl (hp_mu (tm_8_12 (List.mem_of_getElem? (i := 3) rfl)) rfl)
theorem lk_L_158 : hp_LK RL 158 yX12_steps := Or.inl (hp_mu (tm_8_12 (List.mem_of_getElem? (i := 7) rfl)) rfl)
theorem lk_L_162 : hp_LK RL 162 yX12_climbs := Or.inl (hp_mu (tm_8_12 (List.mem_of_getElem? (i := 11) rfl)) rfl)
theorem lk_L_166 : hp_LK RL 166 yX12_agree := Or.inl (hp_mu (tm_8_12 (List.mem_of_getElem? (i := 15) rfl)) rfl)
theorem lk_X12_390 : hp_LK RX12 390 yX12_isAgreed := Or.inl (hp_mu (tm_8_13 (List.mem_of_getElem? (i := 3) rfl)) rfl)
theorem lk_X12_387 : hp_LK RX12 387 yX12_isHead := Or.inl (hp_mu (tm_8_13 (List.mem_of_getElem? (i := 7) rfl)) rfl)
theorem lk_L_170 : hp_LK RL 170 yX12_where := Or.inl (hp_mu (tm_8_13 (List.mem_of_getElem? (i := 11) rfl)) rfl)
theorem lk_X12_393 : hp_LK RX12 393 yX12_isTyped := Or.inl (hp_mu (tm_8_13 (List.mem_of_getElem? (i := 15) rfl)) rfl)
theorem lk_L_174 : hp_LK RL 174 yX12_tree := Or.inl (hp_mu (tm_8_14 (List.mem_of_getElem? (i := 3) rfl)) rfl)
theorem lk_X12_405 : hp_LK RX12 405 yX12_seeks := Or.inl (hp_mu (tm_8_14 (List.mem_of_getElem? (i := 7) rfl)) rfl)
theorem lk_L_178 : hp_LK RL 178 yX12_proves := Or.inl (hp_mu (tm_8_14 (List.mem_of_getElem? (i := 11) rfl)) rfl)
theorem lk_L_182 : hp_LK RL 182 yX12_longest := Or.inl (hp_mu (tm_8_14 (List.mem_of_getElem? (i := 15) rfl)) rfl)
theorem lk_L_186 : hp_LK RL 186 yX12_part := Or.inl (hp_mu (tb_9 (List.mem_of_getElem? (i := 3) rfl)) rfl)
theorem lk_L_190 : hp_LK RL 190 yX12_blame := Or.inl (hp_mu (tb_9 (List.mem_of_getElem? (i := 7) rfl)) rfl)
theorem lk_L_194 : hp_LK RL 194 yX12_weak := Or.inl (hp_mu (tb_9 (List.mem_of_getElem? (i := 11) rfl)) rfl)
theorem lk_L_198 : hp_LK RL 198 yX12_clash := Or.inl (hp_mu (tb_9 (List.mem_of_getElem? (i := 15) rfl)) rfl)
theorem lk_X12_408 : hp_LK RX12 408 yX12_stepsIn := Or.inl (hp_mu (tm_9_1 (List.mem_of_getElem? (i := 3) rfl)) rfl)
theorem lk_L_202 : hp_LK RL 202 yX12_forge := Or.inl (hp_mu (tm_9_1 (List.mem_of_getElem? (i := 7) rfl)) rfl)
theorem lk_L_206 : hp_LK RL 206 yX12_trace := Or.inl (hp_mu (tm_9_1 (List.mem_of_getElem? (i := 11) rfl)) rfl)
theorem lk_L_210 : hp_LK RL 210 yX12_span := Or.inl (hp_mu (tm_9_1 (List.mem_of_getElem? (i := 15) rfl)) rfl)
theorem lk_X12_414 : hp_LK RX12 414 yX12_wayAt := Or.inl (hp_mu (tm_9_2 (List.mem_of_getElem? (i := 3) rfl)) rfl)
theorem lk_L_214 : hp_LK RL 214 yX12_rise := Or.inl (hp_mu (tm_9_2 (List.mem_of_getElem? (i := 7) rfl)) rfl)
theorem lk_L_218 : hp_LK RL 218 yX12_kept := Or.inl (hp_mu (tm_9_2 (List.mem_of_getElem? (i := 11) rfl)) rfl)
theorem lk_X12_423 : hp_LK RX12 423 yX12_notes := Or.inl (hp_mu (tm_9_2 (List.mem_of_getElem? (i := 15) rfl)) rfl)
theorem lk_X12_420 : hp_LK RX12 420 yX12_had := Or.inl (hp_mu (tm_9_3 (List.mem_of_getElem? (i := 3) rfl)) rfl)
theorem lk_L_222 : hp_LK RL 222 yX12_sick := Or.inl (hp_mu (tm_9_3 (List.mem_of_getElem? (i := 7) rfl)) rfl)
theorem lk_L_226 : hp_LK RL 226 yX12_chain := Or.inl (hp_mu (tm_9_3 (List.mem_of_getElem? (i := 11) rfl)) rfl)
theorem lk_X12_426 : hp_LK RX12 426 yX12_sizeAbove := Or.inl (hp_mu (tm_9_3 (List.mem_of_getElem? (i := 15) rfl)) rfl)
theorem lk_L_230 : hp_LK RL 230 yX12_split := Or.inl (hp_mu (tm_9_4 (List.mem_of_getElem? (i := 3) rfl)) rfl)
theorem lk_L_234 : hp_LK RL 234 yX12_tell := Or.inl (hp_mu (tm_9_4 (List.mem_of_getElem? (i := 7) rfl)) rfl)
theorem lk_X12_449 : hp_LK RX12 449 yX12_says := Or.inl (hp_mu (tm_9_4 (List.mem_of_getElem? (i := 12) rfl)) rfl)
theorem lk_X12_429 : hp_LK RX12 429 yX12_tells := Or.inl (hp_mu (tm_9_5 (List.mem_of_getElem? (i := 0) rfl)) rfl)
theorem lk_X12_435 : hp_LK RX12 435 yJ0_length_8abf5 := Or.inl (hp_mu (tm_9_5 (List.mem_of_getElem? (i := 4) rfl)) rfl)
theorem lk_X12_440 : hp_LK RX12 440 yJ0_charAt_5068e := Or.inl (hp_mu (tm_9_5 (List.mem_of_getElem? (i := 5) rfl)) rfl)
theorem lk_X12_444 : hp_LK RX12 444 yX12_tellsNumber := Or.inl (hp_mu (tm_9_5 (List.mem_of_getElem? (i := 6) rfl)) rfl)
theorem lk_X12_459 : hp_LK RX12 459 yX12_tellsMarks := Or.inl (hp_mu (tm_9_5 (List.mem_of_getElem? (i := 13) rfl)) rfl)
theorem lk_L_238 : hp_LK RL 238 yX12_tellGrowth := Or.inl (hp_mu (tm_9_6 (List.mem_of_getElem? (i := 1) rfl)) rfl)
theorem lk_L_242 : hp_LK RL 242 yX12_out := Or.inl (hp_mu (tm_9_6 (List.mem_of_getElem? (i := 7) rfl)) rfl)
theorem lk_L_246 : hp_LK RL 246 yX12_trusted := Or.inl (hp_mu (tm_9_6 (List.mem_of_getElem? (i := 11) rfl)) rfl)
theorem lk_L_250 : hp_LK RL 250 yX12_saves := Or.inl (hp_mu (tm_9_6 (List.mem_of_getElem? (i := 15) rfl)) rfl)
theorem lk_L_254 : hp_LK RL 254 yX12_who := Or.inl (hp_mu (tm_9_7 (List.mem_of_getElem? (i := 3) rfl)) rfl)
