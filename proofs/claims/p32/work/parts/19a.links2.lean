theorem fo_J0_38 : Cond.fieldLink RJ0 38 "java/lang/String" "COMPACT_STRINGS" "Z" ∈ lw_u := hp_mu (tm_2_14 (List.mem_of_getElem? (i := 11) rfl)) rfl
theorem fo_J0_1053 : Cond.fieldLink RJ0 1053 "jdk/internal/util/Preconditions" "SIOOBE_FORMATTER" "Ljava/util/function/BiFunction;" ∈ lw_u := hp_mu (tb_3 (List.mem_of_getElem? (i := 11) rfl)) rfl
theorem fo_J0_9 : Cond.fieldLink RJ0 9 "java/lang/String" "value" "[B" ∈ lw_u := hp_mu (tm_9_7 (List.mem_of_getElem? (i := 7) rfl)) rfl
theorem fo_J0_15 : Cond.fieldLink RJ0 15 "java/lang/String" "coder" "B" ∈ lw_u := hp_mu (tm_9_7 (List.mem_of_getElem? (i := 8) rfl)) rfl
theorem sx_J0_length_8abf5 : Cond.selects yJ0_length_8abf5.cls yJ0_length_8abf5 yJ0_length_8abf5 ∈ lw_u := hp_mu (tm_2_14 (List.mem_of_getElem? (i := 5) rfl)) rfl
theorem sx_J0_charAt_5068e : Cond.selects yJ0_charAt_5068e.cls yJ0_charAt_5068e yJ0_charAt_5068e ∈ lw_u := hp_mu (tm_2_14 (List.mem_of_getElem? (i := 15) rfl)) rfl
theorem sx_J0_coder_7d493 : Cond.selects yJ0_coder_7d493.cls yJ0_coder_7d493 yJ0_coder_7d493 ∈ lw_u := hp_mu (tm_2_14 (List.mem_of_getElem? (i := 9) rfl)) rfl
theorem sx_J0_isLatin1_aae02 : Cond.selects yJ0_isLatin1_aae02.cls yJ0_isLatin1_aae02 yJ0_isLatin1_aae02 ∈ lw_u := hp_mu (tb_3 (List.mem_of_getElem? (i := 3) rfl)) rfl
theorem iz_X11 : Cond.initialized RX11 ∈ lw_u := hp_mu (tb_1 (List.mem_of_getElem? (i := 1) rfl)) rfl
theorem iz_X10 : Cond.initialized RX10 ∈ lw_u := hp_mu (tb_1 (List.mem_of_getElem? (i := 2) rfl)) rfl
theorem iz_X5 : Cond.initialized RX5 ∈ lw_u := hp_mu (tb_1 (List.mem_of_getElem? (i := 3) rfl)) rfl
theorem iz_X8 : Cond.initialized RX8 ∈ lw_u := hp_mu (tb_1 (List.mem_of_getElem? (i := 4) rfl)) rfl
theorem iz_X2 : Cond.initialized RX2 ∈ lw_u := hp_mu (tb_1 (List.mem_of_getElem? (i := 5) rfl)) rfl
theorem iz_X9 : Cond.initialized RX9 ∈ lw_u := hp_mu (tb_1 (List.mem_of_getElem? (i := 6) rfl)) rfl
theorem iz_X1 : Cond.initialized RX1 ∈ lw_u := hp_mu (tb_1 (List.mem_of_getElem? (i := 7) rfl)) rfl
theorem iz_X7 : Cond.initialized RX7 ∈ lw_u := hp_mu (tb_1 (List.mem_of_getElem? (i := 8) rfl)) rfl
theorem iz_X0 : Cond.initialized RX0 ∈ lw_u := hp_mu (tb_1 (List.mem_of_getElem? (i := 9) rfl)) rfl
theorem iz_X3 : Cond.initialized RX3 ∈ lw_u := hp_mu (tb_1 (List.mem_of_getElem? (i := 10) rfl)) rfl
theorem iz_X6 : Cond.initialized RX6 ∈ lw_u := hp_mu (tb_1 (List.mem_of_getElem? (i := 11) rfl)) rfl
theorem iz_X12 : Cond.initialized RX12 ∈ lw_u := hp_mu (tb_1 (List.mem_of_getElem? (i := 12) rfl)) rfl
theorem iz_X4 : Cond.initialized RX4 ∈ lw_u := hp_mu (tm_1_1 (List.mem_of_getElem? (i := 3) rfl)) rfl
theorem cl_L_7 : Cond.classLink RL 7 RX11 ∈ lw_u := hp_mu (tm_1_1 (List.mem_of_getElem? (i := 4) rfl)) rfl
theorem it_X11 : Cond.instantiable RX11 19 ∈ lw_u := hp_mu (tm_1_1 (List.mem_of_getElem? (i := 5) rfl)) rfl
theorem ol_X11 : Cond.methodLink RX11 1 objectInit ∈ lw_u := hp_mu (tm_1_1 (List.mem_of_getElem? (i := 9) rfl)) rfl
theorem oi_in : Cond.instanceMethod objectInit ∈ lw_u := hp_mu (tm_1_1 (List.mem_of_getElem? (i := 10) rfl)) rfl
theorem oi_cd : Cond.code objectInit ⟨#[0xb1]⟩ 1 none ∈ lw_u := hp_mu (tm_1_1 (List.mem_of_getElem? (i := 11) rfl)) rfl
theorem cl_X11_13 : Cond.classLink RX11 13 RX10 ∈ lw_u := hp_mu (tm_1_1 (List.mem_of_getElem? (i := 12) rfl)) rfl
theorem it_X10 : Cond.instantiable RX10 10 ∈ lw_u := hp_mu (tm_1_1 (List.mem_of_getElem? (i := 13) rfl)) rfl
theorem ol_X10 : Cond.methodLink RX10 3 objectInit ∈ lw_u := hp_mu (tm_1_2 (List.mem_of_getElem? (i := 1) rfl)) rfl
theorem cl_X10_16 : Cond.classLink RX10 16 RX2 ∈ lw_u := hp_mu (tm_1_2 (List.mem_of_getElem? (i := 3) rfl)) rfl
theorem ao_X2 : Cond.arrayOver (.object "ProvenRecord$Log") ∈ hp_nest := List.mem_filter.mpr ⟨tm_1_2 (List.mem_of_getElem? (i := 4) rfl), by decide +kernel⟩
theorem cl_X10_25 : Cond.classLink RX10 25 RX1 ∈ lw_u := hp_mu (tm_1_2 (List.mem_of_getElem? (i := 5) rfl)) rfl
theorem ao_X1 : Cond.arrayOver (.object "ProvenRecord$Frozen") ∈ hp_nest := List.mem_filter.mpr ⟨tm_1_2 (List.mem_of_getElem? (i := 6) rfl), by decide +kernel⟩
theorem cl_X10_34 : Cond.classLink RX10 34 RX7 ∈ lw_u := hp_mu (tm_1_2 (List.mem_of_getElem? (i := 7) rfl)) rfl
theorem ao_X7 : Cond.arrayOver (.object "ProvenRecord$Watcher") ∈ hp_nest := List.mem_filter.mpr ⟨tm_1_2 (List.mem_of_getElem? (i := 8) rfl), by decide +kernel⟩
theorem cl_X10_47 : Cond.classLink RX10 47 RX5 ∈ lw_u := hp_mu (tm_1_2 (List.mem_of_getElem? (i := 9) rfl)) rfl
theorem it_X5 : Cond.instantiable RX5 2 ∈ lw_u := hp_mu (tm_1_2 (List.mem_of_getElem? (i := 10) rfl)) rfl
theorem ol_X5 : Cond.methodLink RX5 3 objectInit ∈ lw_u := hp_mu (tm_1_2 (List.mem_of_getElem? (i := 14) rfl)) rfl
theorem ac_int : Cond.arrayClass .int ∈ lw_u := hp_mu (tm_1_3 (List.mem_of_getElem? (i := 11) rfl)) rfl
theorem cl_X10_54 : Cond.classLink RX10 54 RX8 ∈ lw_u := hp_mu (tm_1_3 (List.mem_of_getElem? (i := 12) rfl)) rfl
theorem it_X8 : Cond.instantiable RX8 5 ∈ lw_u := hp_mu (tm_1_3 (List.mem_of_getElem? (i := 13) rfl)) rfl
theorem ol_X8 : Cond.methodLink RX8 3 objectInit ∈ lw_u := hp_mu (tm_1_4 (List.mem_of_getElem? (i := 1) rfl)) rfl
theorem ac_boolean : Cond.arrayClass .boolean ∈ lw_u := hp_mu (tm_1_5 (List.mem_of_getElem? (i := 5) rfl)) rfl
theorem it_X2 : Cond.instantiable RX2 3 ∈ lw_u := hp_mu (tm_1_5 (List.mem_of_getElem? (i := 6) rfl)) rfl
theorem ol_X2 : Cond.methodLink RX2 3 objectInit ∈ lw_u := hp_mu (tm_1_5 (List.mem_of_getElem? (i := 10) rfl)) rfl
theorem cl_X2_9 : Cond.classLink RX2 9 RX9 ∈ lw_u := hp_mu (tm_1_5 (List.mem_of_getElem? (i := 11) rfl)) rfl
theorem ao_X9 : Cond.arrayOver (.object "ProvenRecord$Word") ∈ hp_nest := List.mem_filter.mpr ⟨tm_1_5 (List.mem_of_getElem? (i := 12) rfl), by decide +kernel⟩
theorem it_X9 : Cond.instantiable RX9 2 ∈ lw_u := hp_mu (tm_1_5 (List.mem_of_getElem? (i := 13) rfl)) rfl
theorem ol_X9 : Cond.methodLink RX9 3 objectInit ∈ lw_u := hp_mu (tm_1_6 (List.mem_of_getElem? (i := 1) rfl)) rfl
theorem ac_byte : Cond.arrayClass .byte ∈ lw_u := hp_mu (tm_1_6 (List.mem_of_getElem? (i := 10) rfl)) rfl
theorem it_X1 : Cond.instantiable RX1 5 ∈ lw_u := hp_mu (tm_1_7 (List.mem_of_getElem? (i := 8) rfl)) rfl
theorem ol_X1 : Cond.methodLink RX1 1 objectInit ∈ lw_u := hp_mu (tm_1_7 (List.mem_of_getElem? (i := 12) rfl)) rfl
theorem cl_X1_22 : Cond.classLink RX1 22 RX5 ∈ lw_u := hp_mu (tm_1_7 (List.mem_of_getElem? (i := 13) rfl)) rfl
theorem it_X7 : Cond.instantiable RX7 4 ∈ lw_u := hp_mu (tm_1_9 (List.mem_of_getElem? (i := 8) rfl)) rfl
theorem ol_X7 : Cond.methodLink RX7 3 objectInit ∈ lw_u := hp_mu (tm_1_9 (List.mem_of_getElem? (i := 12) rfl)) rfl
theorem cl_X11_23 : Cond.classLink RX11 23 RX5 ∈ lw_u := hp_mu (tm_1_13 (List.mem_of_getElem? (i := 8) rfl)) rfl
theorem cl_X11_37 : Cond.classLink RX11 37 RX9 ∈ lw_u := hp_mu (tm_1_13 (List.mem_of_getElem? (i := 10) rfl)) rfl
theorem cl_X11_59 : Cond.classLink RX11 59 RX8 ∈ lw_u := hp_mu (tm_1_13 (List.mem_of_getElem? (i := 12) rfl)) rfl
theorem cl_X11_72 : Cond.classLink RX11 72 RX0 ∈ lw_u := hp_mu (tm_1_13 (List.mem_of_getElem? (i := 14) rfl)) rfl
theorem it_X0 : Cond.instantiable RX0 5 ∈ lw_u := hp_mu (tm_1_13 (List.mem_of_getElem? (i := 15) rfl)) rfl
theorem ol_X0 : Cond.methodLink RX0 3 objectInit ∈ lw_u := hp_mu (tm_1_14 (List.mem_of_getElem? (i := 3) rfl)) rfl
theorem cl_X0_15 : Cond.classLink RX0 15 RX5 ∈ lw_u := hp_mu (tm_1_14 (List.mem_of_getElem? (i := 4) rfl)) rfl
theorem cl_X11_79 : Cond.classLink RX11 79 RX3 ∈ lw_u := hp_mu (tb_2 (List.mem_of_getElem? (i := 6) rfl)) rfl
theorem it_X3 : Cond.instantiable RX3 10 ∈ lw_u := hp_mu (tb_2 (List.mem_of_getElem? (i := 7) rfl)) rfl
theorem ol_X3 : Cond.methodLink RX3 3 objectInit ∈ lw_u := hp_mu (tb_2 (List.mem_of_getElem? (i := 11) rfl)) rfl
theorem cl_X3_9 : Cond.classLink RX3 9 RX6 ∈ lw_u := hp_mu (tb_2 (List.mem_of_getElem? (i := 12) rfl)) rfl
theorem it_X6 : Cond.instantiable RX6 7 ∈ lw_u := hp_mu (tb_2 (List.mem_of_getElem? (i := 13) rfl)) rfl
theorem ol_X6 : Cond.methodLink RX6 3 objectInit ∈ lw_u := hp_mu (tm_2_1 (List.mem_of_getElem? (i := 1) rfl)) rfl
theorem cl_X3_18 : Cond.classLink RX3 18 RX5 ∈ lw_u := hp_mu (tm_2_2 (List.mem_of_getElem? (i := 12) rfl)) rfl
theorem cl_X3_25 : Cond.classLink RX3 25 RX8 ∈ lw_u := hp_mu (tm_2_2 (List.mem_of_getElem? (i := 14) rfl)) rfl
theorem cl_X3_46 : Cond.classLink RX3 46 RX9 ∈ lw_u := hp_mu (tm_2_3 (List.mem_of_getElem? (i := 1) rfl)) rfl
theorem cl_X11_368 : Cond.classLink RX11 368 RX4 ∈ lw_u := hp_mu (tm_5_8 (List.mem_of_getElem? (i := 13) rfl)) rfl
theorem it_X4 : Cond.instantiable RX4 11 ∈ lw_u := hp_mu (tm_5_8 (List.mem_of_getElem? (i := 14) rfl)) rfl
theorem ol_X4 : Cond.methodLink RX4 3 objectInit ∈ lw_u := hp_mu (tm_5_9 (List.mem_of_getElem? (i := 2) rfl)) rfl
theorem cl_X4_23 : Cond.classLink RX4 23 RX8 ∈ lw_u := hp_mu (tm_5_9 (List.mem_of_getElem? (i := 4) rfl)) rfl
theorem cl_X4_30 : Cond.classLink RX4 30 RX5 ∈ lw_u := hp_mu (tm_5_9 (List.mem_of_getElem? (i := 6) rfl)) rfl
theorem cl_L_10 : Cond.classLink RL 10 RX12 ∈ lw_u := hp_mu (tm_6_7 (List.mem_of_getElem? (i := 7) rfl)) rfl
theorem it_X12 : Cond.instantiable RX12 48 ∈ lw_u := hp_mu (tm_6_7 (List.mem_of_getElem? (i := 8) rfl)) rfl
theorem ol_X12 : Cond.methodLink RX12 1 objectInit ∈ lw_u := hp_mu (tm_6_7 (List.mem_of_getElem? (i := 12) rfl)) rfl
theorem ac_long : Cond.arrayClass .long ∈ lw_u := hp_mu (tm_7_2 (List.mem_of_getElem? (i := 15) rfl)) rfl
