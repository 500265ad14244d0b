theorem tcX0_init_0 : (cX0_init.data.toList.drop 0).take 12 = [42, 183, 0, 3, 42, 16, 101, 181, 0, 9, 42, 187] := by decide +kernel
theorem dX0_init_0 : decode cX0_init 0 = .ok (.aload_n 0, 1) := dk_1042 (dk_g tcX0_init_0 0 rfl)
theorem dX0_init_1 : decode cX0_init 1 = .ok (.invokespecial 3, 3) := dk_1183 (dk_g tcX0_init_0 1 rfl) (dk_g tcX0_init_0 2 rfl) (dk_g tcX0_init_0 3 rfl) rfl
theorem dX0_init_4 : decode cX0_init 4 = .ok (.aload_n 0, 1) := dk_1042 (dk_g tcX0_init_0 4 rfl)
theorem dX0_init_5 : decode cX0_init 5 = .ok (.bipush 101, 2) := dk_1016 (dk_g tcX0_init_0 5 rfl) (dk_g tcX0_init_0 6 rfl) (by decide +kernel)
theorem dX0_init_7 : decode cX0_init 7 = .ok (.putfield 9, 3) := dk_1181 (dk_g tcX0_init_0 7 rfl) (dk_g tcX0_init_0 8 rfl) (dk_g tcX0_init_0 9 rfl) rfl
theorem dX0_init_10 : decode cX0_init 10 = .ok (.aload_n 0, 1) := dk_1042 (dk_g tcX0_init_0 10 rfl)
theorem tcX0_init_1 : (cX0_init.data.toList.drop 12).take 12 = [0, 15, 89, 183, 0, 17, 181, 0, 18, 42, 3, 181] := by decide +kernel
theorem dX0_init_11 : decode cX0_init 11 = .ok (.new 15, 3) := dk_1187 (dk_g tcX0_init_0 11 rfl) (dk_g tcX0_init_1 0 rfl) (dk_g tcX0_init_1 1 rfl) rfl
theorem dX0_init_14 : decode cX0_init 14 = .ok (.dup, 1) := dk_1089 (dk_g tcX0_init_1 2 rfl)
theorem dX0_init_15 : decode cX0_init 15 = .ok (.invokespecial 17, 3) := dk_1183 (dk_g tcX0_init_1 3 rfl) (dk_g tcX0_init_1 4 rfl) (dk_g tcX0_init_1 5 rfl) rfl
theorem dX0_init_18 : decode cX0_init 18 = .ok (.putfield 18, 3) := dk_1181 (dk_g tcX0_init_1 6 rfl) (dk_g tcX0_init_1 7 rfl) (dk_g tcX0_init_1 8 rfl) rfl
theorem dX0_init_21 : decode cX0_init 21 = .ok (.aload_n 0, 1) := dk_1042 (dk_g tcX0_init_1 9 rfl)
theorem dX0_init_22 : decode cX0_init 22 = .ok (.iconst 0, 1) := dk_1003 (dk_g tcX0_init_1 10 rfl)
theorem tcX0_init_2 : (cX0_init.data.toList.drop 24).take 12 = [0, 22, 42, 3, 181, 0, 25, 42, 3, 181, 0, 28] := by decide +kernel
theorem dX0_init_23 : decode cX0_init 23 = .ok (.putfield 22, 3) := dk_1181 (dk_g tcX0_init_1 11 rfl) (dk_g tcX0_init_2 0 rfl) (dk_g tcX0_init_2 1 rfl) rfl
theorem dX0_init_26 : decode cX0_init 26 = .ok (.aload_n 0, 1) := dk_1042 (dk_g tcX0_init_2 2 rfl)
theorem dX0_init_27 : decode cX0_init 27 = .ok (.iconst 0, 1) := dk_1003 (dk_g tcX0_init_2 3 rfl)
theorem dX0_init_28 : decode cX0_init 28 = .ok (.putfield 25, 3) := dk_1181 (dk_g tcX0_init_2 4 rfl) (dk_g tcX0_init_2 5 rfl) (dk_g tcX0_init_2 6 rfl) rfl
theorem dX0_init_31 : decode cX0_init 31 = .ok (.aload_n 0, 1) := dk_1042 (dk_g tcX0_init_2 7 rfl)
theorem dX0_init_32 : decode cX0_init 32 = .ok (.iconst 0, 1) := dk_1003 (dk_g tcX0_init_2 8 rfl)
theorem dX0_init_33 : decode cX0_init 33 = .ok (.putfield 28, 3) := dk_1181 (dk_g tcX0_init_2 9 rfl) (dk_g tcX0_init_2 10 rfl) (dk_g tcX0_init_2 11 rfl) rfl
theorem tcX0_init_3 : (cX0_init.data.toList.drop 36).take 12 = [177] := by decide +kernel
theorem dX0_init_36 : decode cX0_init 36 = .ok (.return_, 1) := dk_1177 (dk_g tcX0_init_3 0 rfl)
theorem tcX0_why_0 : (cX0_why.data.toList.drop 0).take 12 = [29, 184, 0, 31, 54, 7, 44, 180, 0, 37, 21, 7] := by decide +kernel
theorem dX0_why_0 : decode cX0_why 0 = .ok (.iload_n 3, 1) := dk_1029 (dk_g tcX0_why_0 0 rfl)
theorem dX0_why_1 : decode cX0_why 1 = .ok (.invokestatic 31, 3) := dk_1184 (dk_g tcX0_why_0 1 rfl) (dk_g tcX0_why_0 2 rfl) (dk_g tcX0_why_0 3 rfl) rfl
theorem dX0_why_4 : decode cX0_why 4 = .ok (.istore 7, 2) := dk_1054 (dk_g tcX0_why_0 4 rfl) (dk_g tcX0_why_0 5 rfl) rfl
theorem dX0_why_6 : decode cX0_why 6 = .ok (.aload_n 2, 1) := dk_1044 (dk_g tcX0_why_0 6 rfl)
theorem dX0_why_7 : decode cX0_why 7 = .ok (.getfield 37, 3) := dk_1180 (dk_g tcX0_why_0 7 rfl) (dk_g tcX0_why_0 8 rfl) (dk_g tcX0_why_0 9 rfl) rfl
theorem dX0_why_10 : decode cX0_why 10 = .ok (.iload 7, 2) := dk_1021 (dk_g tcX0_why_0 10 rfl) (dk_g tcX0_why_0 11 rfl) rfl
theorem tcX0_why_1 : (cX0_why.data.toList.drop 12).take 12 = [21, 5, 96, 159, 0, 21, 44, 180, 0, 37, 21, 7] := by decide +kernel
theorem dX0_why_12 : decode cX0_why 12 = .ok (.iload 5, 2) := dk_1021 (dk_g tcX0_why_1 0 rfl) (dk_g tcX0_why_1 1 rfl) rfl
theorem dX0_why_14 : decode cX0_why 14 = .ok (.iadd, 1) := dk_1096 (dk_g tcX0_why_1 2 rfl)
theorem dX0_why_15 : decode cX0_why 15 = .ok (.if_icmp .eq 21, 3) := dk_2159 (dk_g tcX0_why_1 3 rfl) (dk_g tcX0_why_1 4 rfl) (dk_g tcX0_why_1 5 rfl) rfl rfl
theorem dX0_why_18 : decode cX0_why 18 = .ok (.aload_n 2, 1) := dk_1044 (dk_g tcX0_why_1 6 rfl)
theorem dX0_why_19 : decode cX0_why 19 = .ok (.getfield 37, 3) := dk_1180 (dk_g tcX0_why_1 7 rfl) (dk_g tcX0_why_1 8 rfl) (dk_g tcX0_why_1 9 rfl) rfl
theorem dX0_why_22 : decode cX0_why 22 = .ok (.iload 7, 2) := dk_1021 (dk_g tcX0_why_1 10 rfl) (dk_g tcX0_why_1 11 rfl) rfl
theorem tcX0_why_2 : (cX0_why.data.toList.drop 24).take 12 = [21, 5, 96, 162, 0, 7, 4, 167, 0, 4, 5, 172] := by decide +kernel
theorem dX0_why_24 : decode cX0_why 24 = .ok (.iload 5, 2) := dk_1021 (dk_g tcX0_why_2 0 rfl) (dk_g tcX0_why_2 1 rfl) rfl
theorem dX0_why_26 : decode cX0_why 26 = .ok (.iadd, 1) := dk_1096 (dk_g tcX0_why_2 2 rfl)
theorem dX0_why_27 : decode cX0_why 27 = .ok (.if_icmp .ge 7, 3) := dk_2162 (dk_g tcX0_why_2 3 rfl) (dk_g tcX0_why_2 4 rfl) (dk_g tcX0_why_2 5 rfl) rfl rfl
theorem dX0_why_30 : decode cX0_why 30 = .ok (.iconst 1, 1) := dk_1004 (dk_g tcX0_why_2 6 rfl)
theorem dX0_why_31 : decode cX0_why 31 = .ok (.goto 4, 3) := dk_2167 (dk_g tcX0_why_2 7 rfl) (dk_g tcX0_why_2 8 rfl) (dk_g tcX0_why_2 9 rfl) rfl rfl
theorem dX0_why_34 : decode cX0_why 34 = .ok (.iconst 2, 1) := dk_1005 (dk_g tcX0_why_2 10 rfl)
theorem dX0_why_35 : decode cX0_why 35 = .ok (.ireturn, 1) := dk_1172 (dk_g tcX0_why_2 11 rfl)
theorem tcX0_why_3 : (cX0_why.data.toList.drop 36).take 12 = [42, 27, 181, 0, 9, 42, 44, 181, 0, 18, 42, 29] := by decide +kernel
theorem dX0_why_36 : decode cX0_why 36 = .ok (.aload_n 0, 1) := dk_1042 (dk_g tcX0_why_3 0 rfl)
theorem dX0_why_37 : decode cX0_why 37 = .ok (.iload_n 1, 1) := dk_1027 (dk_g tcX0_why_3 1 rfl)
theorem dX0_why_38 : decode cX0_why 38 = .ok (.putfield 9, 3) := dk_1181 (dk_g tcX0_why_3 2 rfl) (dk_g tcX0_why_3 3 rfl) (dk_g tcX0_why_3 4 rfl) rfl
theorem dX0_why_41 : decode cX0_why 41 = .ok (.aload_n 0, 1) := dk_1042 (dk_g tcX0_why_3 5 rfl)
theorem dX0_why_42 : decode cX0_why 42 = .ok (.aload_n 2, 1) := dk_1044 (dk_g tcX0_why_3 6 rfl)
theorem dX0_why_43 : decode cX0_why 43 = .ok (.putfield 18, 3) := dk_1181 (dk_g tcX0_why_3 7 rfl) (dk_g tcX0_why_3 8 rfl) (dk_g tcX0_why_3 9 rfl) rfl
theorem dX0_why_46 : decode cX0_why 46 = .ok (.aload_n 0, 1) := dk_1042 (dk_g tcX0_why_3 10 rfl)
theorem dX0_why_47 : decode cX0_why 47 = .ok (.iload_n 3, 1) := dk_1029 (dk_g tcX0_why_3 11 rfl)
theorem tcX0_why_4 : (cX0_why.data.toList.drop 48).take 12 = [181, 0, 22, 42, 3, 181, 0, 25, 42, 21, 7, 181] := by decide +kernel
theorem dX0_why_48 : decode cX0_why 48 = .ok (.putfield 22, 3) := dk_1181 (dk_g tcX0_why_4 0 rfl) (dk_g tcX0_why_4 1 rfl) (dk_g tcX0_why_4 2 rfl) rfl
theorem dX0_why_51 : decode cX0_why 51 = .ok (.aload_n 0, 1) := dk_1042 (dk_g tcX0_why_4 3 rfl)
theorem dX0_why_52 : decode cX0_why 52 = .ok (.iconst 0, 1) := dk_1003 (dk_g tcX0_why_4 4 rfl)
theorem dX0_why_53 : decode cX0_why 53 = .ok (.putfield 25, 3) := dk_1181 (dk_g tcX0_why_4 5 rfl) (dk_g tcX0_why_4 6 rfl) (dk_g tcX0_why_4 7 rfl) rfl
theorem dX0_why_56 : decode cX0_why 56 = .ok (.aload_n 0, 1) := dk_1042 (dk_g tcX0_why_4 8 rfl)
theorem dX0_why_57 : decode cX0_why 57 = .ok (.iload 7, 2) := dk_1021 (dk_g tcX0_why_4 9 rfl) (dk_g tcX0_why_4 10 rfl) rfl
theorem tcX0_why_5 : (cX0_why.data.toList.drop 60).take 12 = [0, 28, 42, 3, 21, 4, 3, 184, 0, 40, 21, 6] := by decide +kernel
theorem dX0_why_59 : decode cX0_why 59 = .ok (.putfield 28, 3) := dk_1181 (dk_g tcX0_why_4 11 rfl) (dk_g tcX0_why_5 0 rfl) (dk_g tcX0_why_5 1 rfl) rfl
theorem dX0_why_62 : decode cX0_why 62 = .ok (.aload_n 0, 1) := dk_1042 (dk_g tcX0_why_5 2 rfl)
theorem dX0_why_63 : decode cX0_why 63 = .ok (.iconst 0, 1) := dk_1003 (dk_g tcX0_why_5 3 rfl)
theorem dX0_why_64 : decode cX0_why 64 = .ok (.iload 4, 2) := dk_1021 (dk_g tcX0_why_5 4 rfl) (dk_g tcX0_why_5 5 rfl) rfl
theorem dX0_why_66 : decode cX0_why 66 = .ok (.iconst 0, 1) := dk_1003 (dk_g tcX0_why_5 6 rfl)
theorem dX0_why_67 : decode cX0_why 67 = .ok (.invokestatic 40, 3) := dk_1184 (dk_g tcX0_why_5 7 rfl) (dk_g tcX0_why_5 8 rfl) (dk_g tcX0_why_5 9 rfl) rfl
theorem dX0_why_70 : decode cX0_why 70 = .ok (.iload 6, 2) := dk_1021 (dk_g tcX0_why_5 10 rfl) (dk_g tcX0_why_5 11 rfl) rfl
theorem tcX0_why_6 : (cX0_why.data.toList.drop 72).take 12 = [160, 0, 7, 3, 167, 0, 4, 6, 172] := by decide +kernel
theorem dX0_why_72 : decode cX0_why 72 = .ok (.if_icmp .ne 7, 3) := dk_2160 (dk_g tcX0_why_6 0 rfl) (dk_g tcX0_why_6 1 rfl) (dk_g tcX0_why_6 2 rfl) rfl rfl
theorem dX0_why_75 : decode cX0_why 75 = .ok (.iconst 0, 1) := dk_1003 (dk_g tcX0_why_6 3 rfl)
theorem dX0_why_76 : decode cX0_why 76 = .ok (.goto 4, 3) := dk_2167 (dk_g tcX0_why_6 4 rfl) (dk_g tcX0_why_6 5 rfl) (dk_g tcX0_why_6 6 rfl) rfl rfl
theorem dX0_why_79 : decode cX0_why 79 = .ok (.iconst 3, 1) := dk_1006 (dk_g tcX0_why_6 7 rfl)
theorem dX0_why_80 : decode cX0_why 80 = .ok (.ireturn, 1) := dk_1172 (dk_g tcX0_why_6 8 rfl)
theorem tcX0_foldedTree_0 : (cX0_foldedTree.data.toList.drop 0).take 12 = [29, 16, 40, 163, 0, 15, 42, 180, 0, 22, 27, 28] := by decide +kernel
theorem dX0_foldedTree_0 : decode cX0_foldedTree 0 = .ok (.iload_n 3, 1) := dk_1029 (dk_g tcX0_foldedTree_0 0 rfl)
theorem dX0_foldedTree_1 : decode cX0_foldedTree 1 = .ok (.bipush 40, 2) := dk_1016 (dk_g tcX0_foldedTree_0 1 rfl) (dk_g tcX0_foldedTree_0 2 rfl) (by decide +kernel)
theorem dX0_foldedTree_3 : decode cX0_foldedTree 3 = .ok (.if_icmp .gt 15, 3) := dk_2163 (dk_g tcX0_foldedTree_0 3 rfl) (dk_g tcX0_foldedTree_0 4 rfl) (dk_g tcX0_foldedTree_0 5 rfl) rfl rfl
theorem dX0_foldedTree_6 : decode cX0_foldedTree 6 = .ok (.aload_n 0, 1) := dk_1042 (dk_g tcX0_foldedTree_0 6 rfl)
theorem dX0_foldedTree_7 : decode cX0_foldedTree 7 = .ok (.getfield 22, 3) := dk_1180 (dk_g tcX0_foldedTree_0 7 rfl) (dk_g tcX0_foldedTree_0 8 rfl) (dk_g tcX0_foldedTree_0 9 rfl) rfl
theorem dX0_foldedTree_10 : decode cX0_foldedTree 10 = .ok (.iload_n 1, 1) := dk_1027 (dk_g tcX0_foldedTree_0 10 rfl)
theorem dX0_foldedTree_11 : decode cX0_foldedTree 11 = .ok (.iload_n 2, 1) := dk_1028 (dk_g tcX0_foldedTree_0 11 rfl)
theorem tcX0_foldedTree_1 : (cX0_foldedTree.data.toList.drop 12).take 12 = [184, 0, 44, 154, 0, 27, 42, 89, 180, 0, 28, 4] := by decide +kernel
theorem dX0_foldedTree_12 : decode cX0_foldedTree 12 = .ok (.invokestatic 44, 3) := dk_1184 (dk_g tcX0_foldedTree_1 0 rfl) (dk_g tcX0_foldedTree_1 1 rfl) (dk_g tcX0_foldedTree_1 2 rfl) rfl
theorem dX0_foldedTree_15 : decode cX0_foldedTree 15 = .ok (.ifCond .ne 27, 3) := dk_2154 (dk_g tcX0_foldedTree_1 3 rfl) (dk_g tcX0_foldedTree_1 4 rfl) (dk_g tcX0_foldedTree_1 5 rfl) rfl rfl
theorem dX0_foldedTree_18 : decode cX0_foldedTree 18 = .ok (.aload_n 0, 1) := dk_1042 (dk_g tcX0_foldedTree_1 6 rfl)
theorem dX0_foldedTree_19 : decode cX0_foldedTree 19 = .ok (.dup, 1) := dk_1089 (dk_g tcX0_foldedTree_1 7 rfl)
theorem dX0_foldedTree_20 : decode cX0_foldedTree 20 = .ok (.getfield 28, 3) := dk_1180 (dk_g tcX0_foldedTree_1 8 rfl) (dk_g tcX0_foldedTree_1 9 rfl) (dk_g tcX0_foldedTree_1 10 rfl) rfl
theorem dX0_foldedTree_23 : decode cX0_foldedTree 23 = .ok (.iconst 1, 1) := dk_1004 (dk_g tcX0_foldedTree_1 11 rfl)
theorem tcX0_foldedTree_2 : (cX0_foldedTree.data.toList.drop 24).take 12 = [96, 181, 0, 28, 42, 180, 0, 18, 42, 180, 0, 28] := by decide +kernel
theorem dX0_foldedTree_24 : decode cX0_foldedTree 24 = .ok (.iadd, 1) := dk_1096 (dk_g tcX0_foldedTree_2 0 rfl)
theorem dX0_foldedTree_25 : decode cX0_foldedTree 25 = .ok (.putfield 28, 3) := dk_1181 (dk_g tcX0_foldedTree_2 1 rfl) (dk_g tcX0_foldedTree_2 2 rfl) (dk_g tcX0_foldedTree_2 3 rfl) rfl
theorem dX0_foldedTree_28 : decode cX0_foldedTree 28 = .ok (.aload_n 0, 1) := dk_1042 (dk_g tcX0_foldedTree_2 4 rfl)
theorem dX0_foldedTree_29 : decode cX0_foldedTree 29 = .ok (.getfield 18, 3) := dk_1180 (dk_g tcX0_foldedTree_2 5 rfl) (dk_g tcX0_foldedTree_2 6 rfl) (dk_g tcX0_foldedTree_2 7 rfl) rfl
theorem dX0_foldedTree_32 : decode cX0_foldedTree 32 = .ok (.aload_n 0, 1) := dk_1042 (dk_g tcX0_foldedTree_2 8 rfl)
theorem dX0_foldedTree_33 : decode cX0_foldedTree 33 = .ok (.getfield 28, 3) := dk_1180 (dk_g tcX0_foldedTree_2 9 rfl) (dk_g tcX0_foldedTree_2 10 rfl) (dk_g tcX0_foldedTree_2 11 rfl) rfl
theorem tcX0_foldedTree_3 : (cX0_foldedTree.data.toList.drop 36).take 12 = [4, 100, 182, 0, 48, 172, 28, 5, 162, 0, 27, 42] := by decide +kernel
theorem dX0_foldedTree_36 : decode cX0_foldedTree 36 = .ok (.iconst 1, 1) := dk_1004 (dk_g tcX0_foldedTree_3 0 rfl)
theorem dX0_foldedTree_37 : decode cX0_foldedTree 37 = .ok (.isub, 1) := dk_1100 (dk_g tcX0_foldedTree_3 1 rfl)
theorem dX0_foldedTree_38 : decode cX0_foldedTree 38 = .ok (.invokevirtual 48, 3) := dk_1182 (dk_g tcX0_foldedTree_3 2 rfl) (dk_g tcX0_foldedTree_3 3 rfl) (dk_g tcX0_foldedTree_3 4 rfl) rfl
theorem dX0_foldedTree_41 : decode cX0_foldedTree 41 = .ok (.ireturn, 1) := dk_1172 (dk_g tcX0_foldedTree_3 5 rfl)
theorem dX0_foldedTree_42 : decode cX0_foldedTree 42 = .ok (.iload_n 2, 1) := dk_1028 (dk_g tcX0_foldedTree_3 6 rfl)
theorem dX0_foldedTree_43 : decode cX0_foldedTree 43 = .ok (.iconst 2, 1) := dk_1005 (dk_g tcX0_foldedTree_3 7 rfl)
theorem dX0_foldedTree_44 : decode cX0_foldedTree 44 = .ok (.if_icmp .ge 27, 3) := dk_2162 (dk_g tcX0_foldedTree_3 8 rfl) (dk_g tcX0_foldedTree_3 9 rfl) (dk_g tcX0_foldedTree_3 10 rfl) rfl rfl
theorem dX0_foldedTree_47 : decode cX0_foldedTree 47 = .ok (.aload_n 0, 1) := dk_1042 (dk_g tcX0_foldedTree_3 11 rfl)
theorem tcX0_foldedTree_4 : (cX0_foldedTree.data.toList.drop 48).take 12 = [89, 180, 0, 25, 4, 96, 181, 0, 25, 42, 180, 0] := by decide +kernel
theorem dX0_foldedTree_48 : decode cX0_foldedTree 48 = .ok (.dup, 1) := dk_1089 (dk_g tcX0_foldedTree_4 0 rfl)
theorem dX0_foldedTree_49 : decode cX0_foldedTree 49 = .ok (.getfield 25, 3) := dk_1180 (dk_g tcX0_foldedTree_4 1 rfl) (dk_g tcX0_foldedTree_4 2 rfl) (dk_g tcX0_foldedTree_4 3 rfl) rfl
theorem dX0_foldedTree_52 : decode cX0_foldedTree 52 = .ok (.iconst 1, 1) := dk_1004 (dk_g tcX0_foldedTree_4 4 rfl)
theorem dX0_foldedTree_53 : decode cX0_foldedTree 53 = .ok (.iadd, 1) := dk_1096 (dk_g tcX0_foldedTree_4 5 rfl)
theorem dX0_foldedTree_54 : decode cX0_foldedTree 54 = .ok (.putfield 25, 3) := dk_1181 (dk_g tcX0_foldedTree_4 6 rfl) (dk_g tcX0_foldedTree_4 7 rfl) (dk_g tcX0_foldedTree_4 8 rfl) rfl
theorem dX0_foldedTree_57 : decode cX0_foldedTree 57 = .ok (.aload_n 0, 1) := dk_1042 (dk_g tcX0_foldedTree_4 9 rfl)
theorem tcX0_foldedTree_5 : (cX0_foldedTree.data.toList.drop 60).take 12 = [18, 42, 180, 0, 25, 4, 100, 182, 0, 48, 172, 28] := by decide +kernel
theorem dX0_foldedTree_58 : decode cX0_foldedTree 58 = .ok (.getfield 18, 3) := dk_1180 (dk_g tcX0_foldedTree_4 10 rfl) (dk_g tcX0_foldedTree_4 11 rfl) (dk_g tcX0_foldedTree_5 0 rfl) rfl
theorem dX0_foldedTree_61 : decode cX0_foldedTree 61 = .ok (.aload_n 0, 1) := dk_1042 (dk_g tcX0_foldedTree_5 1 rfl)
theorem dX0_foldedTree_62 : decode cX0_foldedTree 62 = .ok (.getfield 25, 3) := dk_1180 (dk_g tcX0_foldedTree_5 2 rfl) (dk_g tcX0_foldedTree_5 3 rfl) (dk_g tcX0_foldedTree_5 4 rfl) rfl
theorem dX0_foldedTree_65 : decode cX0_foldedTree 65 = .ok (.iconst 1, 1) := dk_1004 (dk_g tcX0_foldedTree_5 5 rfl)
theorem dX0_foldedTree_66 : decode cX0_foldedTree 66 = .ok (.isub, 1) := dk_1100 (dk_g tcX0_foldedTree_5 6 rfl)
theorem dX0_foldedTree_67 : decode cX0_foldedTree 67 = .ok (.invokevirtual 48, 3) := dk_1182 (dk_g tcX0_foldedTree_5 7 rfl) (dk_g tcX0_foldedTree_5 8 rfl) (dk_g tcX0_foldedTree_5 9 rfl) rfl
theorem dX0_foldedTree_70 : decode cX0_foldedTree 70 = .ok (.ireturn, 1) := dk_1172 (dk_g tcX0_foldedTree_5 10 rfl)
theorem dX0_foldedTree_71 : decode cX0_foldedTree 71 = .ok (.iload_n 2, 1) := dk_1028 (dk_g tcX0_foldedTree_5 11 rfl)
theorem tcX0_foldedTree_6 : (cX0_foldedTree.data.toList.drop 72).take 12 = [184, 0, 51, 54, 4, 42, 27, 21, 4, 29, 4, 96] := by decide +kernel
theorem dX0_foldedTree_72 : decode cX0_foldedTree 72 = .ok (.invokestatic 51, 3) := dk_1184 (dk_g tcX0_foldedTree_6 0 rfl) (dk_g tcX0_foldedTree_6 1 rfl) (dk_g tcX0_foldedTree_6 2 rfl) rfl
theorem dX0_foldedTree_75 : decode cX0_foldedTree 75 = .ok (.istore 4, 2) := dk_1054 (dk_g tcX0_foldedTree_6 3 rfl) (dk_g tcX0_foldedTree_6 4 rfl) rfl
theorem dX0_foldedTree_77 : decode cX0_foldedTree 77 = .ok (.aload_n 0, 1) := dk_1042 (dk_g tcX0_foldedTree_6 5 rfl)
theorem dX0_foldedTree_78 : decode cX0_foldedTree 78 = .ok (.iload_n 1, 1) := dk_1027 (dk_g tcX0_foldedTree_6 6 rfl)
theorem dX0_foldedTree_79 : decode cX0_foldedTree 79 = .ok (.iload 4, 2) := dk_1021 (dk_g tcX0_foldedTree_6 7 rfl) (dk_g tcX0_foldedTree_6 8 rfl) rfl
theorem dX0_foldedTree_81 : decode cX0_foldedTree 81 = .ok (.iload_n 3, 1) := dk_1029 (dk_g tcX0_foldedTree_6 9 rfl)
theorem dX0_foldedTree_82 : decode cX0_foldedTree 82 = .ok (.iconst 1, 1) := dk_1004 (dk_g tcX0_foldedTree_6 10 rfl)
theorem dX0_foldedTree_83 : decode cX0_foldedTree 83 = .ok (.iadd, 1) := dk_1096 (dk_g tcX0_foldedTree_6 11 rfl)
theorem tcX0_foldedTree_7 : (cX0_foldedTree.data.toList.drop 84).take 12 = [184, 0, 40, 54, 5, 42, 27, 21, 4, 96, 28, 21] := by decide +kernel
theorem dX0_foldedTree_84 : decode cX0_foldedTree 84 = .ok (.invokestatic 40, 3) := dk_1184 (dk_g tcX0_foldedTree_7 0 rfl) (dk_g tcX0_foldedTree_7 1 rfl) (dk_g tcX0_foldedTree_7 2 rfl) rfl
theorem dX0_foldedTree_87 : decode cX0_foldedTree 87 = .ok (.istore 5, 2) := dk_1054 (dk_g tcX0_foldedTree_7 3 rfl) (dk_g tcX0_foldedTree_7 4 rfl) rfl
theorem dX0_foldedTree_89 : decode cX0_foldedTree 89 = .ok (.aload_n 0, 1) := dk_1042 (dk_g tcX0_foldedTree_7 5 rfl)
theorem dX0_foldedTree_90 : decode cX0_foldedTree 90 = .ok (.iload_n 1, 1) := dk_1027 (dk_g tcX0_foldedTree_7 6 rfl)
theorem dX0_foldedTree_91 : decode cX0_foldedTree 91 = .ok (.iload 4, 2) := dk_1021 (dk_g tcX0_foldedTree_7 7 rfl) (dk_g tcX0_foldedTree_7 8 rfl) rfl
theorem dX0_foldedTree_93 : decode cX0_foldedTree 93 = .ok (.iadd, 1) := dk_1096 (dk_g tcX0_foldedTree_7 9 rfl)
theorem dX0_foldedTree_94 : decode cX0_foldedTree 94 = .ok (.iload_n 2, 1) := dk_1028 (dk_g tcX0_foldedTree_7 10 rfl)
theorem tcX0_foldedTree_8 : (cX0_foldedTree.data.toList.drop 96).take 12 = [4, 100, 29, 4, 96, 184, 0, 40, 54, 6, 42, 180] := by decide +kernel
theorem dX0_foldedTree_95 : decode cX0_foldedTree 95 = .ok (.iload 4, 2) := dk_1021 (dk_g tcX0_foldedTree_7 11 rfl) (dk_g tcX0_foldedTree_8 0 rfl) rfl
theorem dX0_foldedTree_97 : decode cX0_foldedTree 97 = .ok (.isub, 1) := dk_1100 (dk_g tcX0_foldedTree_8 1 rfl)
theorem dX0_foldedTree_98 : decode cX0_foldedTree 98 = .ok (.iload_n 3, 1) := dk_1029 (dk_g tcX0_foldedTree_8 2 rfl)
theorem dX0_foldedTree_99 : decode cX0_foldedTree 99 = .ok (.iconst 1, 1) := dk_1004 (dk_g tcX0_foldedTree_8 3 rfl)
theorem dX0_foldedTree_100 : decode cX0_foldedTree 100 = .ok (.iadd, 1) := dk_1096 (dk_g tcX0_foldedTree_8 4 rfl)
theorem dX0_foldedTree_101 : decode cX0_foldedTree 101 = .ok (.invokestatic 40, 3) := dk_1184 (dk_g tcX0_foldedTree_8 5 rfl) (dk_g tcX0_foldedTree_8 6 rfl) (dk_g tcX0_foldedTree_8 7 rfl) rfl
theorem dX0_foldedTree_104 : decode cX0_foldedTree 104 = .ok (.istore 6, 2) := dk_1054 (dk_g tcX0_foldedTree_8 8 rfl) (dk_g tcX0_foldedTree_8 9 rfl) rfl
theorem dX0_foldedTree_106 : decode cX0_foldedTree 106 = .ok (.aload_n 0, 1) := dk_1042 (dk_g tcX0_foldedTree_8 10 rfl)
theorem tcX0_foldedTree_9 : (cX0_foldedTree.data.toList.drop 108).take 12 = [0, 9, 21, 5, 21, 6, 184, 0, 54, 172] := by decide +kernel
theorem dX0_foldedTree_107 : decode cX0_foldedTree 107 = .ok (.getfield 9, 3) := dk_1180 (dk_g tcX0_foldedTree_8 11 rfl) (dk_g tcX0_foldedTree_9 0 rfl) (dk_g tcX0_foldedTree_9 1 rfl) rfl
theorem dX0_foldedTree_110 : decode cX0_foldedTree 110 = .ok (.iload 5, 2) := dk_1021 (dk_g tcX0_foldedTree_9 2 rfl) (dk_g tcX0_foldedTree_9 3 rfl) rfl
theorem dX0_foldedTree_112 : decode cX0_foldedTree 112 = .ok (.iload 6, 2) := dk_1021 (dk_g tcX0_foldedTree_9 4 rfl) (dk_g tcX0_foldedTree_9 5 rfl) rfl
theorem dX0_foldedTree_114 : decode cX0_foldedTree 114 = .ok (.invokestatic 54, 3) := dk_1184 (dk_g tcX0_foldedTree_9 6 rfl) (dk_g tcX0_foldedTree_9 7 rfl) (dk_g tcX0_foldedTree_9 8 rfl) rfl
theorem dX0_foldedTree_117 : decode cX0_foldedTree 117 = .ok (.ireturn, 1) := dk_1172 (dk_g tcX0_foldedTree_9 9 rfl)
theorem tcX1_init_0 : (cX1_init.data.toList.drop 0).take 12 = [42, 183, 0, 1, 42, 3, 181, 0, 7, 42, 3, 181] := by decide +kernel
theorem dX1_init_0 : decode cX1_init 0 = .ok (.aload_n 0, 1) := dk_1042 (dk_g tcX1_init_0 0 rfl)
theorem dX1_init_1 : decode cX1_init 1 = .ok (.invokespecial 1, 3) := dk_1183 (dk_g tcX1_init_0 1 rfl) (dk_g tcX1_init_0 2 rfl) (dk_g tcX1_init_0 3 rfl) rfl
theorem dX1_init_4 : decode cX1_init 4 = .ok (.aload_n 0, 1) := dk_1042 (dk_g tcX1_init_0 4 rfl)
theorem dX1_init_5 : decode cX1_init 5 = .ok (.iconst 0, 1) := dk_1003 (dk_g tcX1_init_0 5 rfl)
theorem dX1_init_6 : decode cX1_init 6 = .ok (.putfield 7, 3) := dk_1181 (dk_g tcX1_init_0 6 rfl) (dk_g tcX1_init_0 7 rfl) (dk_g tcX1_init_0 8 rfl) rfl
theorem dX1_init_9 : decode cX1_init 9 = .ok (.aload_n 0, 1) := dk_1042 (dk_g tcX1_init_0 9 rfl)
theorem dX1_init_10 : decode cX1_init 10 = .ok (.iconst 0, 1) := dk_1003 (dk_g tcX1_init_0 10 rfl)
theorem tcX1_init_1 : (cX1_init.data.toList.drop 12).take 12 = [0, 13, 42, 3, 181, 0, 16, 42, 3, 181, 0, 19] := by decide +kernel
theorem dX1_init_11 : decode cX1_init 11 = .ok (.putfield 13, 3) := dk_1181 (dk_g tcX1_init_0 11 rfl) (dk_g tcX1_init_1 0 rfl) (dk_g tcX1_init_1 1 rfl) rfl
theorem dX1_init_14 : decode cX1_init 14 = .ok (.aload_n 0, 1) := dk_1042 (dk_g tcX1_init_1 2 rfl)
theorem dX1_init_15 : decode cX1_init 15 = .ok (.iconst 0, 1) := dk_1003 (dk_g tcX1_init_1 3 rfl)
theorem dX1_init_16 : decode cX1_init 16 = .ok (.putfield 16, 3) := dk_1181 (dk_g tcX1_init_1 4 rfl) (dk_g tcX1_init_1 5 rfl) (dk_g tcX1_init_1 6 rfl) rfl
theorem dX1_init_19 : decode cX1_init 19 = .ok (.aload_n 0, 1) := dk_1042 (dk_g tcX1_init_1 7 rfl)
theorem dX1_init_20 : decode cX1_init 20 = .ok (.iconst 0, 1) := dk_1003 (dk_g tcX1_init_1 8 rfl)
theorem dX1_init_21 : decode cX1_init 21 = .ok (.putfield 19, 3) := dk_1181 (dk_g tcX1_init_1 9 rfl) (dk_g tcX1_init_1 10 rfl) (dk_g tcX1_init_1 11 rfl) rfl
theorem tcX1_init_2 : (cX1_init.data.toList.drop 24).take 12 = [42, 187, 0, 22, 89, 183, 0, 24, 181, 0, 25, 177] := by decide +kernel
theorem dX1_init_24 : decode cX1_init 24 = .ok (.aload_n 0, 1) := dk_1042 (dk_g tcX1_init_2 0 rfl)
theorem dX1_init_25 : decode cX1_init 25 = .ok (.new 22, 3) := dk_1187 (dk_g tcX1_init_2 1 rfl) (dk_g tcX1_init_2 2 rfl) (dk_g tcX1_init_2 3 rfl) rfl
theorem dX1_init_28 : decode cX1_init 28 = .ok (.dup, 1) := dk_1089 (dk_g tcX1_init_2 4 rfl)
theorem dX1_init_29 : decode cX1_init 29 = .ok (.invokespecial 24, 3) := dk_1183 (dk_g tcX1_init_2 5 rfl) (dk_g tcX1_init_2 6 rfl) (dk_g tcX1_init_2 7 rfl) rfl
theorem dX1_init_32 : decode cX1_init 32 = .ok (.putfield 25, 3) := dk_1181 (dk_g tcX1_init_2 8 rfl) (dk_g tcX1_init_2 9 rfl) (dk_g tcX1_init_2 10 rfl) rfl
theorem dX1_init_35 : decode cX1_init 35 = .ok (.return_, 1) := dk_1177 (dk_g tcX1_init_2 11 rfl)
theorem tcX2_init_0 : (cX2_init.data.toList.drop 0).take 12 = [42, 183, 0, 3, 42, 16, 48, 189, 0, 9, 181, 0] := by decide +kernel
theorem dX2_init_0 : decode cX2_init 0 = .ok (.aload_n 0, 1) := dk_1042 (dk_g tcX2_init_0 0 rfl)
theorem dX2_init_1 : decode cX2_init 1 = .ok (.invokespecial 3, 3) := dk_1183 (dk_g tcX2_init_0 1 rfl) (dk_g tcX2_init_0 2 rfl) (dk_g tcX2_init_0 3 rfl) rfl
theorem dX2_init_4 : decode cX2_init 4 = .ok (.aload_n 0, 1) := dk_1042 (dk_g tcX2_init_0 4 rfl)
theorem dX2_init_5 : decode cX2_init 5 = .ok (.bipush 48, 2) := dk_1016 (dk_g tcX2_init_0 5 rfl) (dk_g tcX2_init_0 6 rfl) (by decide +kernel)
theorem dX2_init_7 : decode cX2_init 7 = .ok (.anewarray 9, 3) := dk_1189 (dk_g tcX2_init_0 7 rfl) (dk_g tcX2_init_0 8 rfl) (dk_g tcX2_init_0 9 rfl) rfl
theorem tcX2_init_1 : (cX2_init.data.toList.drop 12).take 12 = [11, 42, 16, 48, 188, 10, 181, 0, 17, 42, 3, 181] := by decide +kernel
theorem dX2_init_10 : decode cX2_init 10 = .ok (.putfield 11, 3) := dk_1181 (dk_g tcX2_init_0 10 rfl) (dk_g tcX2_init_0 11 rfl) (dk_g tcX2_init_1 0 rfl) rfl
theorem dX2_init_13 : decode cX2_init 13 = .ok (.aload_n 0, 1) := dk_1042 (dk_g tcX2_init_1 1 rfl)
theorem dX2_init_14 : decode cX2_init 14 = .ok (.bipush 48, 2) := dk_1016 (dk_g tcX2_init_1 2 rfl) (dk_g tcX2_init_1 3 rfl) (by decide +kernel)
theorem dX2_init_16 : decode cX2_init 16 = .ok (.newarray .int, 2) := dk_1188_10 (dk_g tcX2_init_1 4 rfl) (dk_g tcX2_init_1 5 rfl)
theorem dX2_init_18 : decode cX2_init 18 = .ok (.putfield 17, 3) := dk_1181 (dk_g tcX2_init_1 6 rfl) (dk_g tcX2_init_1 7 rfl) (dk_g tcX2_init_1 8 rfl) rfl
theorem dX2_init_21 : decode cX2_init 21 = .ok (.aload_n 0, 1) := dk_1042 (dk_g tcX2_init_1 9 rfl)
theorem dX2_init_22 : decode cX2_init 22 = .ok (.iconst 0, 1) := dk_1003 (dk_g tcX2_init_1 10 rfl)
theorem tcX2_init_2 : (cX2_init.data.toList.drop 24).take 12 = [0, 21, 3, 60, 27, 42, 180, 0, 11, 190, 162, 0] := by decide +kernel
theorem dX2_init_23 : decode cX2_init 23 = .ok (.putfield 21, 3) := dk_1181 (dk_g tcX2_init_1 11 rfl) (dk_g tcX2_init_2 0 rfl) (dk_g tcX2_init_2 1 rfl) rfl
theorem dX2_init_26 : decode cX2_init 26 = .ok (.iconst 0, 1) := dk_1003 (dk_g tcX2_init_2 2 rfl)
theorem dX2_init_27 : decode cX2_init 27 = .ok (.istore_n 1, 1) := dk_1060 (dk_g tcX2_init_2 3 rfl)
theorem dX2_init_28 : decode cX2_init 28 = .ok (.iload_n 1, 1) := dk_1027 (dk_g tcX2_init_2 4 rfl)
theorem dX2_init_29 : decode cX2_init 29 = .ok (.aload_n 0, 1) := dk_1042 (dk_g tcX2_init_2 5 rfl)
theorem dX2_init_30 : decode cX2_init 30 = .ok (.getfield 11, 3) := dk_1180 (dk_g tcX2_init_2 6 rfl) (dk_g tcX2_init_2 7 rfl) (dk_g tcX2_init_2 8 rfl) rfl
theorem dX2_init_33 : decode cX2_init 33 = .ok (.arraylength, 1) := dk_1190 (dk_g tcX2_init_2 9 rfl)
theorem tcX2_init_3 : (cX2_init.data.toList.drop 36).take 12 = [22, 42, 180, 0, 11, 27, 187, 0, 9, 89, 183, 0] := by decide +kernel
theorem dX2_init_34 : decode cX2_init 34 = .ok (.if_icmp .ge 22, 3) := dk_2162 (dk_g tcX2_init_2 10 rfl) (dk_g tcX2_init_2 11 rfl) (dk_g tcX2_init_3 0 rfl) rfl rfl
theorem dX2_init_37 : decode cX2_init 37 = .ok (.aload_n 0, 1) := dk_1042 (dk_g tcX2_init_3 1 rfl)
theorem dX2_init_38 : decode cX2_init 38 = .ok (.getfield 11, 3) := dk_1180 (dk_g tcX2_init_3 2 rfl) (dk_g tcX2_init_3 3 rfl) (dk_g tcX2_init_3 4 rfl) rfl
theorem dX2_init_41 : decode cX2_init 41 = .ok (.iload_n 1, 1) := dk_1027 (dk_g tcX2_init_3 5 rfl)
theorem dX2_init_42 : decode cX2_init 42 = .ok (.new 9, 3) := dk_1187 (dk_g tcX2_init_3 6 rfl) (dk_g tcX2_init_3 7 rfl) (dk_g tcX2_init_3 8 rfl) rfl
theorem dX2_init_45 : decode cX2_init 45 = .ok (.dup, 1) := dk_1089 (dk_g tcX2_init_3 9 rfl)
theorem tcX2_init_4 : (cX2_init.data.toList.drop 48).take 12 = [25, 83, 132, 1, 1, 167, 255, 231, 177] := by decide +kernel
theorem dX2_init_46 : decode cX2_init 46 = .ok (.invokespecial 25, 3) := dk_1183 (dk_g tcX2_init_3 10 rfl) (dk_g tcX2_init_3 11 rfl) (dk_g tcX2_init_4 0 rfl) rfl
theorem dX2_init_49 : decode cX2_init 49 = .ok (.aastore, 1) := dk_1083 (dk_g tcX2_init_4 1 rfl)
theorem dX2_init_50 : decode cX2_init 50 = .ok (.iinc 1 1, 3) := dk_1132 (dk_g tcX2_init_4 2 rfl) (dk_g tcX2_init_4 3 rfl) (dk_g tcX2_init_4 4 rfl) rfl (by decide +kernel)
theorem dX2_init_53 : decode cX2_init 53 = .ok (.goto (-25), 3) := dk_1167 (dk_g tcX2_init_4 5 rfl) (dk_g tcX2_init_4 6 rfl) (dk_g tcX2_init_4 7 rfl) (by decide +kernel)
theorem dX2_init_56 : decode cX2_init 56 = .ok (.return_, 1) := dk_1177 (dk_g tcX2_init_4 8 rfl)
theorem tcX2_wordAt_0 : (cX2_wordAt.data.toList.drop 0).take 12 = [27, 155, 0, 29, 27, 42, 180, 0, 21, 162, 0, 21] := by decide +kernel
theorem dX2_wordAt_0 : decode cX2_wordAt 0 = .ok (.iload_n 1, 1) := dk_1027 (dk_g tcX2_wordAt_0 0 rfl)
theorem dX2_wordAt_1 : decode cX2_wordAt 1 = .ok (.ifCond .lt 29, 3) := dk_2155 (dk_g tcX2_wordAt_0 1 rfl) (dk_g tcX2_wordAt_0 2 rfl) (dk_g tcX2_wordAt_0 3 rfl) rfl rfl
theorem dX2_wordAt_4 : decode cX2_wordAt 4 = .ok (.iload_n 1, 1) := dk_1027 (dk_g tcX2_wordAt_0 4 rfl)
theorem dX2_wordAt_5 : decode cX2_wordAt 5 = .ok (.aload_n 0, 1) := dk_1042 (dk_g tcX2_wordAt_0 5 rfl)
theorem dX2_wordAt_6 : decode cX2_wordAt 6 = .ok (.getfield 21, 3) := dk_1180 (dk_g tcX2_wordAt_0 6 rfl) (dk_g tcX2_wordAt_0 7 rfl) (dk_g tcX2_wordAt_0 8 rfl) rfl
theorem dX2_wordAt_9 : decode cX2_wordAt 9 = .ok (.if_icmp .ge 21, 3) := dk_2162 (dk_g tcX2_wordAt_0 9 rfl) (dk_g tcX2_wordAt_0 10 rfl) (dk_g tcX2_wordAt_0 11 rfl) rfl rfl
theorem tcX2_wordAt_1 : (cX2_wordAt.data.toList.drop 12).take 12 = [27, 42, 180, 0, 11, 190, 162, 0, 12, 42, 180, 0] := by decide +kernel
theorem dX2_wordAt_12 : decode cX2_wordAt 12 = .ok (.iload_n 1, 1) := dk_1027 (dk_g tcX2_wordAt_1 0 rfl)
theorem dX2_wordAt_13 : decode cX2_wordAt 13 = .ok (.aload_n 0, 1) := dk_1042 (dk_g tcX2_wordAt_1 1 rfl)
theorem dX2_wordAt_14 : decode cX2_wordAt 14 = .ok (.getfield 11, 3) := dk_1180 (dk_g tcX2_wordAt_1 2 rfl) (dk_g tcX2_wordAt_1 3 rfl) (dk_g tcX2_wordAt_1 4 rfl) rfl
theorem dX2_wordAt_17 : decode cX2_wordAt 17 = .ok (.arraylength, 1) := dk_1190 (dk_g tcX2_wordAt_1 5 rfl)
theorem dX2_wordAt_18 : decode cX2_wordAt 18 = .ok (.if_icmp .ge 12, 3) := dk_2162 (dk_g tcX2_wordAt_1 6 rfl) (dk_g tcX2_wordAt_1 7 rfl) (dk_g tcX2_wordAt_1 8 rfl) rfl rfl
theorem dX2_wordAt_21 : decode cX2_wordAt 21 = .ok (.aload_n 0, 1) := dk_1042 (dk_g tcX2_wordAt_1 9 rfl)
theorem tcX2_wordAt_2 : (cX2_wordAt.data.toList.drop 24).take 12 = [11, 27, 50, 167, 0, 4, 1, 176] := by decide +kernel
theorem dX2_wordAt_22 : decode cX2_wordAt 22 = .ok (.getfield 11, 3) := dk_1180 (dk_g tcX2_wordAt_1 10 rfl) (dk_g tcX2_wordAt_1 11 rfl) (dk_g tcX2_wordAt_2 0 rfl) rfl
theorem dX2_wordAt_25 : decode cX2_wordAt 25 = .ok (.iload_n 1, 1) := dk_1027 (dk_g tcX2_wordAt_2 1 rfl)
theorem dX2_wordAt_26 : decode cX2_wordAt 26 = .ok (.aaload, 1) := dk_1050 (dk_g tcX2_wordAt_2 2 rfl)
theorem dX2_wordAt_27 : decode cX2_wordAt 27 = .ok (.goto 4, 3) := dk_2167 (dk_g tcX2_wordAt_2 3 rfl) (dk_g tcX2_wordAt_2 4 rfl) (dk_g tcX2_wordAt_2 5 rfl) rfl rfl
theorem dX2_wordAt_30 : decode cX2_wordAt 30 = .ok (.aconst_null, 1) := dk_1001 (dk_g tcX2_wordAt_2 6 rfl)
theorem dX2_wordAt_31 : decode cX2_wordAt 31 = .ok (.areturn, 1) := dk_1176 (dk_g tcX2_wordAt_2 7 rfl)
theorem tcX2_markAt_0 : (cX2_markAt.data.toList.drop 0).take 12 = [27, 155, 0, 29, 27, 42, 180, 0, 21, 162, 0, 21] := by decide +kernel
theorem dX2_markAt_0 : decode cX2_markAt 0 = .ok (.iload_n 1, 1) := dk_1027 (dk_g tcX2_markAt_0 0 rfl)
theorem dX2_markAt_1 : decode cX2_markAt 1 = .ok (.ifCond .lt 29, 3) := dk_2155 (dk_g tcX2_markAt_0 1 rfl) (dk_g tcX2_markAt_0 2 rfl) (dk_g tcX2_markAt_0 3 rfl) rfl rfl
theorem dX2_markAt_4 : decode cX2_markAt 4 = .ok (.iload_n 1, 1) := dk_1027 (dk_g tcX2_markAt_0 4 rfl)
theorem dX2_markAt_5 : decode cX2_markAt 5 = .ok (.aload_n 0, 1) := dk_1042 (dk_g tcX2_markAt_0 5 rfl)
theorem dX2_markAt_6 : decode cX2_markAt 6 = .ok (.getfield 21, 3) := dk_1180 (dk_g tcX2_markAt_0 6 rfl) (dk_g tcX2_markAt_0 7 rfl) (dk_g tcX2_markAt_0 8 rfl) rfl
theorem dX2_markAt_9 : decode cX2_markAt 9 = .ok (.if_icmp .ge 21, 3) := dk_2162 (dk_g tcX2_markAt_0 9 rfl) (dk_g tcX2_markAt_0 10 rfl) (dk_g tcX2_markAt_0 11 rfl) rfl rfl
theorem tcX2_markAt_1 : (cX2_markAt.data.toList.drop 12).take 12 = [27, 42, 180, 0, 17, 190, 162, 0, 12, 42, 180, 0] := by decide +kernel
theorem dX2_markAt_12 : decode cX2_markAt 12 = .ok (.iload_n 1, 1) := dk_1027 (dk_g tcX2_markAt_1 0 rfl)
theorem dX2_markAt_13 : decode cX2_markAt 13 = .ok (.aload_n 0, 1) := dk_1042 (dk_g tcX2_markAt_1 1 rfl)
theorem dX2_markAt_14 : decode cX2_markAt 14 = .ok (.getfield 17, 3) := dk_1180 (dk_g tcX2_markAt_1 2 rfl) (dk_g tcX2_markAt_1 3 rfl) (dk_g tcX2_markAt_1 4 rfl) rfl
theorem dX2_markAt_17 : decode cX2_markAt 17 = .ok (.arraylength, 1) := dk_1190 (dk_g tcX2_markAt_1 5 rfl)
theorem dX2_markAt_18 : decode cX2_markAt 18 = .ok (.if_icmp .ge 12, 3) := dk_2162 (dk_g tcX2_markAt_1 6 rfl) (dk_g tcX2_markAt_1 7 rfl) (dk_g tcX2_markAt_1 8 rfl) rfl rfl
theorem dX2_markAt_21 : decode cX2_markAt 21 = .ok (.aload_n 0, 1) := dk_1042 (dk_g tcX2_markAt_1 9 rfl)
theorem tcX2_markAt_2 : (cX2_markAt.data.toList.drop 24).take 12 = [17, 27, 46, 167, 0, 4, 3, 172] := by decide +kernel
theorem dX2_markAt_22 : decode cX2_markAt 22 = .ok (.getfield 17, 3) := dk_1180 (dk_g tcX2_markAt_1 10 rfl) (dk_g tcX2_markAt_1 11 rfl) (dk_g tcX2_markAt_2 0 rfl) rfl
theorem dX2_markAt_25 : decode cX2_markAt 25 = .ok (.iload_n 1, 1) := dk_1027 (dk_g tcX2_markAt_2 1 rfl)
theorem dX2_markAt_26 : decode cX2_markAt 26 = .ok (.iaload, 1) := dk_1046 (dk_g tcX2_markAt_2 2 rfl)
theorem dX2_markAt_27 : decode cX2_markAt 27 = .ok (.goto 4, 3) := dk_2167 (dk_g tcX2_markAt_2 3 rfl) (dk_g tcX2_markAt_2 4 rfl) (dk_g tcX2_markAt_2 5 rfl) rfl rfl
theorem dX2_markAt_30 : decode cX2_markAt 30 = .ok (.iconst 0, 1) := dk_1003 (dk_g tcX2_markAt_2 6 rfl)
theorem dX2_markAt_31 : decode cX2_markAt 31 = .ok (.ireturn, 1) := dk_1172 (dk_g tcX2_markAt_2 7 rfl)
theorem tcX2_putWord_0 : (cX2_putWord.data.toList.drop 0).take 12 = [42, 180, 0, 21, 155, 0, 39, 42, 180, 0, 21, 42] := by decide +kernel
theorem dX2_putWord_0 : decode cX2_putWord 0 = .ok (.aload_n 0, 1) := dk_1042 (dk_g tcX2_putWord_0 0 rfl)
theorem dX2_putWord_1 : decode cX2_putWord 1 = .ok (.getfield 21, 3) := dk_1180 (dk_g tcX2_putWord_0 1 rfl) (dk_g tcX2_putWord_0 2 rfl) (dk_g tcX2_putWord_0 3 rfl) rfl
theorem dX2_putWord_4 : decode cX2_putWord 4 = .ok (.ifCond .lt 39, 3) := dk_2155 (dk_g tcX2_putWord_0 4 rfl) (dk_g tcX2_putWord_0 5 rfl) (dk_g tcX2_putWord_0 6 rfl) rfl rfl
theorem dX2_putWord_7 : decode cX2_putWord 7 = .ok (.aload_n 0, 1) := dk_1042 (dk_g tcX2_putWord_0 7 rfl)
theorem dX2_putWord_8 : decode cX2_putWord 8 = .ok (.getfield 21, 3) := dk_1180 (dk_g tcX2_putWord_0 8 rfl) (dk_g tcX2_putWord_0 9 rfl) (dk_g tcX2_putWord_0 10 rfl) rfl
theorem dX2_putWord_11 : decode cX2_putWord 11 = .ok (.aload_n 0, 1) := dk_1042 (dk_g tcX2_putWord_0 11 rfl)
theorem tcX2_putWord_1 : (cX2_putWord.data.toList.drop 12).take 12 = [180, 0, 11, 190, 162, 0, 27, 42, 180, 0, 21, 42] := by decide +kernel
theorem dX2_putWord_12 : decode cX2_putWord 12 = .ok (.getfield 11, 3) := dk_1180 (dk_g tcX2_putWord_1 0 rfl) (dk_g tcX2_putWord_1 1 rfl) (dk_g tcX2_putWord_1 2 rfl) rfl
theorem dX2_putWord_15 : decode cX2_putWord 15 = .ok (.arraylength, 1) := dk_1190 (dk_g tcX2_putWord_1 3 rfl)
theorem dX2_putWord_16 : decode cX2_putWord 16 = .ok (.if_icmp .ge 27, 3) := dk_2162 (dk_g tcX2_putWord_1 4 rfl) (dk_g tcX2_putWord_1 5 rfl) (dk_g tcX2_putWord_1 6 rfl) rfl rfl
theorem dX2_putWord_19 : decode cX2_putWord 19 = .ok (.aload_n 0, 1) := dk_1042 (dk_g tcX2_putWord_1 7 rfl)
theorem dX2_putWord_20 : decode cX2_putWord 20 = .ok (.getfield 21, 3) := dk_1180 (dk_g tcX2_putWord_1 8 rfl) (dk_g tcX2_putWord_1 9 rfl) (dk_g tcX2_putWord_1 10 rfl) rfl
theorem dX2_putWord_23 : decode cX2_putWord 23 = .ok (.aload_n 0, 1) := dk_1042 (dk_g tcX2_putWord_1 11 rfl)
theorem tcX2_putWord_2 : (cX2_putWord.data.toList.drop 24).take 12 = [180, 0, 17, 190, 162, 0, 15, 42, 180, 0, 11, 42] := by decide +kernel
theorem dX2_putWord_24 : decode cX2_putWord 24 = .ok (.getfield 17, 3) := dk_1180 (dk_g tcX2_putWord_2 0 rfl) (dk_g tcX2_putWord_2 1 rfl) (dk_g tcX2_putWord_2 2 rfl) rfl
theorem dX2_putWord_27 : decode cX2_putWord 27 = .ok (.arraylength, 1) := dk_1190 (dk_g tcX2_putWord_2 3 rfl)
theorem dX2_putWord_28 : decode cX2_putWord 28 = .ok (.if_icmp .ge 15, 3) := dk_2162 (dk_g tcX2_putWord_2 4 rfl) (dk_g tcX2_putWord_2 5 rfl) (dk_g tcX2_putWord_2 6 rfl) rfl rfl
theorem dX2_putWord_31 : decode cX2_putWord 31 = .ok (.aload_n 0, 1) := dk_1042 (dk_g tcX2_putWord_2 7 rfl)
theorem dX2_putWord_32 : decode cX2_putWord 32 = .ok (.getfield 11, 3) := dk_1180 (dk_g tcX2_putWord_2 8 rfl) (dk_g tcX2_putWord_2 9 rfl) (dk_g tcX2_putWord_2 10 rfl) rfl
theorem dX2_putWord_35 : decode cX2_putWord 35 = .ok (.aload_n 0, 1) := dk_1042 (dk_g tcX2_putWord_2 11 rfl)
theorem tcX2_putWord_3 : (cX2_putWord.data.toList.drop 36).take 12 = [180, 0, 21, 50, 199, 0, 4, 177, 42, 180, 0, 11] := by decide +kernel
theorem dX2_putWord_36 : decode cX2_putWord 36 = .ok (.getfield 21, 3) := dk_1180 (dk_g tcX2_putWord_3 0 rfl) (dk_g tcX2_putWord_3 1 rfl) (dk_g tcX2_putWord_3 2 rfl) rfl
theorem dX2_putWord_39 : decode cX2_putWord 39 = .ok (.aaload, 1) := dk_1050 (dk_g tcX2_putWord_3 3 rfl)
theorem dX2_putWord_40 : decode cX2_putWord 40 = .ok (.ifnonnull 4, 3) := dk_2199 (dk_g tcX2_putWord_3 4 rfl) (dk_g tcX2_putWord_3 5 rfl) (dk_g tcX2_putWord_3 6 rfl) rfl rfl
theorem dX2_putWord_43 : decode cX2_putWord 43 = .ok (.return_, 1) := dk_1177 (dk_g tcX2_putWord_3 7 rfl)
theorem dX2_putWord_44 : decode cX2_putWord 44 = .ok (.aload_n 0, 1) := dk_1042 (dk_g tcX2_putWord_3 8 rfl)
theorem dX2_putWord_45 : decode cX2_putWord 45 = .ok (.getfield 11, 3) := dk_1180 (dk_g tcX2_putWord_3 9 rfl) (dk_g tcX2_putWord_3 10 rfl) (dk_g tcX2_putWord_3 11 rfl) rfl
theorem tcX2_putWord_4 : (cX2_putWord.data.toList.drop 48).take 12 = [42, 180, 0, 21, 50, 43, 182, 0, 26, 42, 180, 0] := by decide +kernel
theorem dX2_putWord_48 : decode cX2_putWord 48 = .ok (.aload_n 0, 1) := dk_1042 (dk_g tcX2_putWord_4 0 rfl)
theorem dX2_putWord_49 : decode cX2_putWord 49 = .ok (.getfield 21, 3) := dk_1180 (dk_g tcX2_putWord_4 1 rfl) (dk_g tcX2_putWord_4 2 rfl) (dk_g tcX2_putWord_4 3 rfl) rfl
theorem dX2_putWord_52 : decode cX2_putWord 52 = .ok (.aaload, 1) := dk_1050 (dk_g tcX2_putWord_4 4 rfl)
theorem dX2_putWord_53 : decode cX2_putWord 53 = .ok (.aload_n 1, 1) := dk_1043 (dk_g tcX2_putWord_4 5 rfl)
theorem dX2_putWord_54 : decode cX2_putWord 54 = .ok (.invokevirtual 26, 3) := dk_1182 (dk_g tcX2_putWord_4 6 rfl) (dk_g tcX2_putWord_4 7 rfl) (dk_g tcX2_putWord_4 8 rfl) rfl
theorem dX2_putWord_57 : decode cX2_putWord 57 = .ok (.aload_n 0, 1) := dk_1042 (dk_g tcX2_putWord_4 9 rfl)
theorem tcX2_putWord_5 : (cX2_putWord.data.toList.drop 60).take 12 = [17, 42, 180, 0, 21, 43, 28, 182, 0, 30, 79, 42] := by decide +kernel
theorem dX2_putWord_58 : decode cX2_putWord 58 = .ok (.getfield 17, 3) := dk_1180 (dk_g tcX2_putWord_4 10 rfl) (dk_g tcX2_putWord_4 11 rfl) (dk_g tcX2_putWord_5 0 rfl) rfl
theorem dX2_putWord_61 : decode cX2_putWord 61 = .ok (.aload_n 0, 1) := dk_1042 (dk_g tcX2_putWord_5 1 rfl)
theorem dX2_putWord_62 : decode cX2_putWord 62 = .ok (.getfield 21, 3) := dk_1180 (dk_g tcX2_putWord_5 2 rfl) (dk_g tcX2_putWord_5 3 rfl) (dk_g tcX2_putWord_5 4 rfl) rfl
theorem dX2_putWord_65 : decode cX2_putWord 65 = .ok (.aload_n 1, 1) := dk_1043 (dk_g tcX2_putWord_5 5 rfl)
theorem dX2_putWord_66 : decode cX2_putWord 66 = .ok (.iload_n 2, 1) := dk_1028 (dk_g tcX2_putWord_5 6 rfl)
theorem dX2_putWord_67 : decode cX2_putWord 67 = .ok (.invokevirtual 30, 3) := dk_1182 (dk_g tcX2_putWord_5 7 rfl) (dk_g tcX2_putWord_5 8 rfl) (dk_g tcX2_putWord_5 9 rfl) rfl
theorem dX2_putWord_70 : decode cX2_putWord 70 = .ok (.iastore, 1) := dk_1079 (dk_g tcX2_putWord_5 10 rfl)
theorem dX2_putWord_71 : decode cX2_putWord 71 = .ok (.aload_n 0, 1) := dk_1042 (dk_g tcX2_putWord_5 11 rfl)
theorem tcX2_putWord_6 : (cX2_putWord.data.toList.drop 72).take 12 = [89, 180, 0, 21, 4, 96, 181, 0, 21, 177] := by decide +kernel
theorem dX2_putWord_72 : decode cX2_putWord 72 = .ok (.dup, 1) := dk_1089 (dk_g tcX2_putWord_6 0 rfl)
theorem dX2_putWord_73 : decode cX2_putWord 73 = .ok (.getfield 21, 3) := dk_1180 (dk_g tcX2_putWord_6 1 rfl) (dk_g tcX2_putWord_6 2 rfl) (dk_g tcX2_putWord_6 3 rfl) rfl
theorem dX2_putWord_76 : decode cX2_putWord 76 = .ok (.iconst 1, 1) := dk_1004 (dk_g tcX2_putWord_6 4 rfl)
theorem dX2_putWord_77 : decode cX2_putWord 77 = .ok (.iadd, 1) := dk_1096 (dk_g tcX2_putWord_6 5 rfl)
theorem dX2_putWord_78 : decode cX2_putWord 78 = .ok (.putfield 21, 3) := dk_1181 (dk_g tcX2_putWord_6 6 rfl) (dk_g tcX2_putWord_6 7 rfl) (dk_g tcX2_putWord_6 8 rfl) rfl
theorem dX2_putWord_81 : decode cX2_putWord 81 = .ok (.return_, 1) := dk_1177 (dk_g tcX2_putWord_6 9 rfl)
theorem tcX2_changeLetter_0 : (cX2_changeLetter.data.toList.drop 0).take 12 = [42, 27, 182, 0, 34, 58, 5, 25, 5, 198, 0, 32] := by decide +kernel
theorem dX2_changeLetter_0 : decode cX2_changeLetter 0 = .ok (.aload_n 0, 1) := dk_1042 (dk_g tcX2_changeLetter_0 0 rfl)
theorem dX2_changeLetter_1 : decode cX2_changeLetter 1 = .ok (.iload_n 1, 1) := dk_1027 (dk_g tcX2_changeLetter_0 1 rfl)
theorem dX2_changeLetter_2 : decode cX2_changeLetter 2 = .ok (.invokevirtual 34, 3) := dk_1182 (dk_g tcX2_changeLetter_0 2 rfl) (dk_g tcX2_changeLetter_0 3 rfl) (dk_g tcX2_changeLetter_0 4 rfl) rfl
theorem dX2_changeLetter_5 : decode cX2_changeLetter 5 = .ok (.astore 5, 2) := dk_1058 (dk_g tcX2_changeLetter_0 5 rfl) (dk_g tcX2_changeLetter_0 6 rfl) rfl
theorem dX2_changeLetter_7 : decode cX2_changeLetter 7 = .ok (.aload 5, 2) := dk_1025 (dk_g tcX2_changeLetter_0 7 rfl) (dk_g tcX2_changeLetter_0 8 rfl) rfl
theorem dX2_changeLetter_9 : decode cX2_changeLetter 9 = .ok (.ifnull 32, 3) := dk_2198 (dk_g tcX2_changeLetter_0 9 rfl) (dk_g tcX2_changeLetter_0 10 rfl) (dk_g tcX2_changeLetter_0 11 rfl) rfl rfl
theorem tcX2_changeLetter_1 : (cX2_changeLetter.data.toList.drop 12).take 12 = [27, 42, 180, 0, 17, 190, 162, 0, 23, 25, 5, 28] := by decide +kernel
theorem dX2_changeLetter_12 : decode cX2_changeLetter 12 = .ok (.iload_n 1, 1) := dk_1027 (dk_g tcX2_changeLetter_1 0 rfl)
theorem dX2_changeLetter_13 : decode cX2_changeLetter 13 = .ok (.aload_n 0, 1) := dk_1042 (dk_g tcX2_changeLetter_1 1 rfl)
theorem dX2_changeLetter_14 : decode cX2_changeLetter 14 = .ok (.getfield 17, 3) := dk_1180 (dk_g tcX2_changeLetter_1 2 rfl) (dk_g tcX2_changeLetter_1 3 rfl) (dk_g tcX2_changeLetter_1 4 rfl) rfl
theorem dX2_changeLetter_17 : decode cX2_changeLetter 17 = .ok (.arraylength, 1) := dk_1190 (dk_g tcX2_changeLetter_1 5 rfl)
theorem dX2_changeLetter_18 : decode cX2_changeLetter 18 = .ok (.if_icmp .ge 23, 3) := dk_2162 (dk_g tcX2_changeLetter_1 6 rfl) (dk_g tcX2_changeLetter_1 7 rfl) (dk_g tcX2_changeLetter_1 8 rfl) rfl rfl
theorem dX2_changeLetter_21 : decode cX2_changeLetter 21 = .ok (.aload 5, 2) := dk_1025 (dk_g tcX2_changeLetter_1 9 rfl) (dk_g tcX2_changeLetter_1 10 rfl) rfl
theorem dX2_changeLetter_23 : decode cX2_changeLetter 23 = .ok (.iload_n 2, 1) := dk_1028 (dk_g tcX2_changeLetter_1 11 rfl)
theorem tcX2_changeLetter_2 : (cX2_changeLetter.data.toList.drop 24).take 12 = [29, 182, 0, 38, 42, 180, 0, 17, 27, 25, 5, 21] := by decide +kernel
theorem dX2_changeLetter_24 : decode cX2_changeLetter 24 = .ok (.iload_n 3, 1) := dk_1029 (dk_g tcX2_changeLetter_2 0 rfl)
theorem dX2_changeLetter_25 : decode cX2_changeLetter 25 = .ok (.invokevirtual 38, 3) := dk_1182 (dk_g tcX2_changeLetter_2 1 rfl) (dk_g tcX2_changeLetter_2 2 rfl) (dk_g tcX2_changeLetter_2 3 rfl) rfl
theorem dX2_changeLetter_28 : decode cX2_changeLetter 28 = .ok (.aload_n 0, 1) := dk_1042 (dk_g tcX2_changeLetter_2 4 rfl)
theorem dX2_changeLetter_29 : decode cX2_changeLetter 29 = .ok (.getfield 17, 3) := dk_1180 (dk_g tcX2_changeLetter_2 5 rfl) (dk_g tcX2_changeLetter_2 6 rfl) (dk_g tcX2_changeLetter_2 7 rfl) rfl
theorem dX2_changeLetter_32 : decode cX2_changeLetter 32 = .ok (.iload_n 1, 1) := dk_1027 (dk_g tcX2_changeLetter_2 8 rfl)
theorem dX2_changeLetter_33 : decode cX2_changeLetter 33 = .ok (.aload 5, 2) := dk_1025 (dk_g tcX2_changeLetter_2 9 rfl) (dk_g tcX2_changeLetter_2 10 rfl) rfl
theorem tcX2_changeLetter_3 : (cX2_changeLetter.data.toList.drop 36).take 12 = [4, 182, 0, 30, 79, 177] := by decide +kernel
theorem dX2_changeLetter_35 : decode cX2_changeLetter 35 = .ok (.iload 4, 2) := dk_1021 (dk_g tcX2_changeLetter_2 11 rfl) (dk_g tcX2_changeLetter_3 0 rfl) rfl
theorem dX2_changeLetter_37 : decode cX2_changeLetter 37 = .ok (.invokevirtual 30, 3) := dk_1182 (dk_g tcX2_changeLetter_3 1 rfl) (dk_g tcX2_changeLetter_3 2 rfl) (dk_g tcX2_changeLetter_3 3 rfl) rfl
theorem dX2_changeLetter_40 : decode cX2_changeLetter 40 = .ok (.iastore, 1) := dk_1079 (dk_g tcX2_changeLetter_3 4 rfl)
theorem dX2_changeLetter_41 : decode cX2_changeLetter 41 = .ok (.return_, 1) := dk_1177 (dk_g tcX2_changeLetter_3 5 rfl)
theorem tcX2_firstLike_0 : (cX2_firstLike.data.toList.drop 0).take 12 = [3, 61, 28, 42, 180, 0, 21, 162, 0, 29, 42, 28] := by decide +kernel
theorem dX2_firstLike_0 : decode cX2_firstLike 0 = .ok (.iconst 0, 1) := dk_1003 (dk_g tcX2_firstLike_0 0 rfl)
theorem dX2_firstLike_1 : decode cX2_firstLike 1 = .ok (.istore_n 2, 1) := dk_1061 (dk_g tcX2_firstLike_0 1 rfl)
theorem dX2_firstLike_2 : decode cX2_firstLike 2 = .ok (.iload_n 2, 1) := dk_1028 (dk_g tcX2_firstLike_0 2 rfl)
theorem dX2_firstLike_3 : decode cX2_firstLike 3 = .ok (.aload_n 0, 1) := dk_1042 (dk_g tcX2_firstLike_0 3 rfl)
theorem dX2_firstLike_4 : decode cX2_firstLike 4 = .ok (.getfield 21, 3) := dk_1180 (dk_g tcX2_firstLike_0 4 rfl) (dk_g tcX2_firstLike_0 5 rfl) (dk_g tcX2_firstLike_0 6 rfl) rfl
theorem dX2_firstLike_7 : decode cX2_firstLike 7 = .ok (.if_icmp .ge 29, 3) := dk_2162 (dk_g tcX2_firstLike_0 7 rfl) (dk_g tcX2_firstLike_0 8 rfl) (dk_g tcX2_firstLike_0 9 rfl) rfl rfl
theorem dX2_firstLike_10 : decode cX2_firstLike 10 = .ok (.aload_n 0, 1) := dk_1042 (dk_g tcX2_firstLike_0 10 rfl)
theorem dX2_firstLike_11 : decode cX2_firstLike 11 = .ok (.iload_n 2, 1) := dk_1028 (dk_g tcX2_firstLike_0 11 rfl)
theorem tcX2_firstLike_1 : (cX2_firstLike.data.toList.drop 12).take 12 = [182, 0, 34, 78, 45, 198, 0, 13, 45, 43, 182, 0] := by decide +kernel
theorem dX2_firstLike_12 : decode cX2_firstLike 12 = .ok (.invokevirtual 34, 3) := dk_1182 (dk_g tcX2_firstLike_1 0 rfl) (dk_g tcX2_firstLike_1 1 rfl) (dk_g tcX2_firstLike_1 2 rfl) rfl
theorem dX2_firstLike_15 : decode cX2_firstLike 15 = .ok (.astore_n 3, 1) := dk_1078 (dk_g tcX2_firstLike_1 3 rfl)
theorem dX2_firstLike_16 : decode cX2_firstLike 16 = .ok (.aload_n 3, 1) := dk_1045 (dk_g tcX2_firstLike_1 4 rfl)
theorem dX2_firstLike_17 : decode cX2_firstLike 17 = .ok (.ifnull 13, 3) := dk_2198 (dk_g tcX2_firstLike_1 5 rfl) (dk_g tcX2_firstLike_1 6 rfl) (dk_g tcX2_firstLike_1 7 rfl) rfl rfl
theorem dX2_firstLike_20 : decode cX2_firstLike 20 = .ok (.aload_n 3, 1) := dk_1045 (dk_g tcX2_firstLike_1 8 rfl)
theorem dX2_firstLike_21 : decode cX2_firstLike 21 = .ok (.aload_n 1, 1) := dk_1043 (dk_g tcX2_firstLike_1 9 rfl)
theorem tcX2_firstLike_2 : (cX2_firstLike.data.toList.drop 24).take 12 = [42, 153, 0, 5, 28, 172, 132, 2, 1, 167, 255, 225] := by decide +kernel
theorem dX2_firstLike_22 : decode cX2_firstLike 22 = .ok (.invokevirtual 42, 3) := dk_1182 (dk_g tcX2_firstLike_1 10 rfl) (dk_g tcX2_firstLike_1 11 rfl) (dk_g tcX2_firstLike_2 0 rfl) rfl
theorem dX2_firstLike_25 : decode cX2_firstLike 25 = .ok (.ifCond .eq 5, 3) := dk_2153 (dk_g tcX2_firstLike_2 1 rfl) (dk_g tcX2_firstLike_2 2 rfl) (dk_g tcX2_firstLike_2 3 rfl) rfl rfl
theorem dX2_firstLike_28 : decode cX2_firstLike 28 = .ok (.iload_n 2, 1) := dk_1028 (dk_g tcX2_firstLike_2 4 rfl)
theorem dX2_firstLike_29 : decode cX2_firstLike 29 = .ok (.ireturn, 1) := dk_1172 (dk_g tcX2_firstLike_2 5 rfl)
theorem dX2_firstLike_30 : decode cX2_firstLike 30 = .ok (.iinc 2 1, 3) := dk_1132 (dk_g tcX2_firstLike_2 6 rfl) (dk_g tcX2_firstLike_2 7 rfl) (dk_g tcX2_firstLike_2 8 rfl) rfl (by decide +kernel)
theorem dX2_firstLike_33 : decode cX2_firstLike 33 = .ok (.goto (-31), 3) := dk_1167 (dk_g tcX2_firstLike_2 9 rfl) (dk_g tcX2_firstLike_2 10 rfl) (dk_g tcX2_firstLike_2 11 rfl) (by decide +kernel)
theorem tcX2_firstLike_3 : (cX2_firstLike.data.toList.drop 36).take 12 = [2, 172] := by decide +kernel
theorem dX2_firstLike_36 : decode cX2_firstLike 36 = .ok (.iconst (-1), 1) := dk_1002 (dk_g tcX2_firstLike_3 0 rfl)
theorem dX2_firstLike_37 : decode cX2_firstLike 37 = .ok (.ireturn, 1) := dk_1172 (dk_g tcX2_firstLike_3 1 rfl)
theorem tcX2_countLike_0 : (cX2_countLike.data.toList.drop 0).take 12 = [3, 61, 3, 62, 29, 42, 180, 0, 21, 162, 0, 33] := by decide +kernel
theorem dX2_countLike_0 : decode cX2_countLike 0 = .ok (.iconst 0, 1) := dk_1003 (dk_g tcX2_countLike_0 0 rfl)
theorem dX2_countLike_1 : decode cX2_countLike 1 = .ok (.istore_n 2, 1) := dk_1061 (dk_g tcX2_countLike_0 1 rfl)
theorem dX2_countLike_2 : decode cX2_countLike 2 = .ok (.iconst 0, 1) := dk_1003 (dk_g tcX2_countLike_0 2 rfl)
theorem dX2_countLike_3 : decode cX2_countLike 3 = .ok (.istore_n 3, 1) := dk_1062 (dk_g tcX2_countLike_0 3 rfl)
theorem dX2_countLike_4 : decode cX2_countLike 4 = .ok (.iload_n 3, 1) := dk_1029 (dk_g tcX2_countLike_0 4 rfl)
theorem dX2_countLike_5 : decode cX2_countLike 5 = .ok (.aload_n 0, 1) := dk_1042 (dk_g tcX2_countLike_0 5 rfl)
theorem dX2_countLike_6 : decode cX2_countLike 6 = .ok (.getfield 21, 3) := dk_1180 (dk_g tcX2_countLike_0 6 rfl) (dk_g tcX2_countLike_0 7 rfl) (dk_g tcX2_countLike_0 8 rfl) rfl
theorem dX2_countLike_9 : decode cX2_countLike 9 = .ok (.if_icmp .ge 33, 3) := dk_2162 (dk_g tcX2_countLike_0 9 rfl) (dk_g tcX2_countLike_0 10 rfl) (dk_g tcX2_countLike_0 11 rfl) rfl rfl
theorem tcX2_countLike_1 : (cX2_countLike.data.toList.drop 12).take 12 = [42, 29, 182, 0, 34, 58, 4, 25, 4, 198, 0, 15] := by decide +kernel
theorem dX2_countLike_12 : decode cX2_countLike 12 = .ok (.aload_n 0, 1) := dk_1042 (dk_g tcX2_countLike_1 0 rfl)
theorem dX2_countLike_13 : decode cX2_countLike 13 = .ok (.iload_n 3, 1) := dk_1029 (dk_g tcX2_countLike_1 1 rfl)
theorem dX2_countLike_14 : decode cX2_countLike 14 = .ok (.invokevirtual 34, 3) := dk_1182 (dk_g tcX2_countLike_1 2 rfl) (dk_g tcX2_countLike_1 3 rfl) (dk_g tcX2_countLike_1 4 rfl) rfl
theorem dX2_countLike_17 : decode cX2_countLike 17 = .ok (.astore 4, 2) := dk_1058 (dk_g tcX2_countLike_1 5 rfl) (dk_g tcX2_countLike_1 6 rfl) rfl
theorem dX2_countLike_19 : decode cX2_countLike 19 = .ok (.aload 4, 2) := dk_1025 (dk_g tcX2_countLike_1 7 rfl) (dk_g tcX2_countLike_1 8 rfl) rfl
theorem dX2_countLike_21 : decode cX2_countLike 21 = .ok (.ifnull 15, 3) := dk_2198 (dk_g tcX2_countLike_1 9 rfl) (dk_g tcX2_countLike_1 10 rfl) (dk_g tcX2_countLike_1 11 rfl) rfl rfl
theorem tcX2_countLike_2 : (cX2_countLike.data.toList.drop 24).take 12 = [25, 4, 43, 182, 0, 42, 153, 0, 6, 132, 2, 1] := by decide +kernel
theorem dX2_countLike_24 : decode cX2_countLike 24 = .ok (.aload 4, 2) := dk_1025 (dk_g tcX2_countLike_2 0 rfl) (dk_g tcX2_countLike_2 1 rfl) rfl
theorem dX2_countLike_26 : decode cX2_countLike 26 = .ok (.aload_n 1, 1) := dk_1043 (dk_g tcX2_countLike_2 2 rfl)
theorem dX2_countLike_27 : decode cX2_countLike 27 = .ok (.invokevirtual 42, 3) := dk_1182 (dk_g tcX2_countLike_2 3 rfl) (dk_g tcX2_countLike_2 4 rfl) (dk_g tcX2_countLike_2 5 rfl) rfl
theorem dX2_countLike_30 : decode cX2_countLike 30 = .ok (.ifCond .eq 6, 3) := dk_2153 (dk_g tcX2_countLike_2 6 rfl) (dk_g tcX2_countLike_2 7 rfl) (dk_g tcX2_countLike_2 8 rfl) rfl rfl
theorem dX2_countLike_33 : decode cX2_countLike 33 = .ok (.iinc 2 1, 3) := dk_1132 (dk_g tcX2_countLike_2 9 rfl) (dk_g tcX2_countLike_2 10 rfl) (dk_g tcX2_countLike_2 11 rfl) rfl (by decide +kernel)
theorem tcX2_countLike_3 : (cX2_countLike.data.toList.drop 36).take 12 = [132, 3, 1, 167, 255, 221, 28, 172] := by decide +kernel
theorem dX2_countLike_36 : decode cX2_countLike 36 = .ok (.iinc 3 1, 3) := dk_1132 (dk_g tcX2_countLike_3 0 rfl) (dk_g tcX2_countLike_3 1 rfl) (dk_g tcX2_countLike_3 2 rfl) rfl (by decide +kernel)
theorem dX2_countLike_39 : decode cX2_countLike 39 = .ok (.goto (-35), 3) := dk_1167 (dk_g tcX2_countLike_3 3 rfl) (dk_g tcX2_countLike_3 4 rfl) (dk_g tcX2_countLike_3 5 rfl) (by decide +kernel)
theorem dX2_countLike_42 : decode cX2_countLike 42 = .ok (.iload_n 2, 1) := dk_1028 (dk_g tcX2_countLike_3 6 rfl)
theorem dX2_countLike_43 : decode cX2_countLike 43 = .ok (.ireturn, 1) := dk_1172 (dk_g tcX2_countLike_3 7 rfl)
theorem tcX3_init_0 : (cX3_init.data.toList.drop 0).take 12 = [42, 183, 0, 3, 42, 187, 0, 9, 89, 183, 0, 11] := by decide +kernel
theorem dX3_init_0 : decode cX3_init 0 = .ok (.aload_n 0, 1) := dk_1042 (dk_g tcX3_init_0 0 rfl)
theorem dX3_init_1 : decode cX3_init 1 = .ok (.invokespecial 3, 3) := dk_1183 (dk_g tcX3_init_0 1 rfl) (dk_g tcX3_init_0 2 rfl) (dk_g tcX3_init_0 3 rfl) rfl
theorem dX3_init_4 : decode cX3_init 4 = .ok (.aload_n 0, 1) := dk_1042 (dk_g tcX3_init_0 4 rfl)
theorem dX3_init_5 : decode cX3_init 5 = .ok (.new 9, 3) := dk_1187 (dk_g tcX3_init_0 5 rfl) (dk_g tcX3_init_0 6 rfl) (dk_g tcX3_init_0 7 rfl) rfl
theorem dX3_init_8 : decode cX3_init 8 = .ok (.dup, 1) := dk_1089 (dk_g tcX3_init_0 8 rfl)
theorem dX3_init_9 : decode cX3_init 9 = .ok (.invokespecial 11, 3) := dk_1183 (dk_g tcX3_init_0 9 rfl) (dk_g tcX3_init_0 10 rfl) (dk_g tcX3_init_0 11 rfl) rfl
theorem tcX3_init_1 : (cX3_init.data.toList.drop 12).take 12 = [181, 0, 12, 42, 187, 0, 18, 89, 183, 0, 20, 181] := by decide +kernel
theorem dX3_init_12 : decode cX3_init 12 = .ok (.putfield 12, 3) := dk_1181 (dk_g tcX3_init_1 0 rfl) (dk_g tcX3_init_1 1 rfl) (dk_g tcX3_init_1 2 rfl) rfl
theorem dX3_init_15 : decode cX3_init 15 = .ok (.aload_n 0, 1) := dk_1042 (dk_g tcX3_init_1 3 rfl)
theorem dX3_init_16 : decode cX3_init 16 = .ok (.new 18, 3) := dk_1187 (dk_g tcX3_init_1 4 rfl) (dk_g tcX3_init_1 5 rfl) (dk_g tcX3_init_1 6 rfl) rfl
theorem dX3_init_19 : decode cX3_init 19 = .ok (.dup, 1) := dk_1089 (dk_g tcX3_init_1 7 rfl)
theorem dX3_init_20 : decode cX3_init 20 = .ok (.invokespecial 20, 3) := dk_1183 (dk_g tcX3_init_1 8 rfl) (dk_g tcX3_init_1 9 rfl) (dk_g tcX3_init_1 10 rfl) rfl
theorem tcX3_init_2 : (cX3_init.data.toList.drop 24).take 12 = [0, 21, 42, 187, 0, 25, 89, 183, 0, 27, 181, 0] := by decide +kernel
theorem dX3_init_23 : decode cX3_init 23 = .ok (.putfield 21, 3) := dk_1181 (dk_g tcX3_init_1 11 rfl) (dk_g tcX3_init_2 0 rfl) (dk_g tcX3_init_2 1 rfl) rfl
theorem dX3_init_26 : decode cX3_init 26 = .ok (.aload_n 0, 1) := dk_1042 (dk_g tcX3_init_2 2 rfl)
theorem dX3_init_27 : decode cX3_init 27 = .ok (.new 25, 3) := dk_1187 (dk_g tcX3_init_2 3 rfl) (dk_g tcX3_init_2 4 rfl) (dk_g tcX3_init_2 5 rfl) rfl
theorem dX3_init_30 : decode cX3_init 30 = .ok (.dup, 1) := dk_1089 (dk_g tcX3_init_2 6 rfl)
theorem dX3_init_31 : decode cX3_init 31 = .ok (.invokespecial 27, 3) := dk_1183 (dk_g tcX3_init_2 7 rfl) (dk_g tcX3_init_2 8 rfl) (dk_g tcX3_init_2 9 rfl) rfl
theorem tcX3_init_3 : (cX3_init.data.toList.drop 36).take 12 = [28, 42, 18, 32, 181, 0, 33, 42, 2, 181, 0, 37] := by decide +kernel
theorem dX3_init_34 : decode cX3_init 34 = .ok (.putfield 28, 3) := dk_1181 (dk_g tcX3_init_2 10 rfl) (dk_g tcX3_init_2 11 rfl) (dk_g tcX3_init_3 0 rfl) rfl
theorem dX3_init_37 : decode cX3_init 37 = .ok (.aload_n 0, 1) := dk_1042 (dk_g tcX3_init_3 1 rfl)
theorem dX3_init_38 : decode cX3_init 38 = .ok (.ldc 32, 2) := dk_1018 (dk_g tcX3_init_3 2 rfl) (dk_g tcX3_init_3 3 rfl) rfl
theorem dX3_init_40 : decode cX3_init 40 = .ok (.putfield 33, 3) := dk_1181 (dk_g tcX3_init_3 4 rfl) (dk_g tcX3_init_3 5 rfl) (dk_g tcX3_init_3 6 rfl) rfl
theorem dX3_init_43 : decode cX3_init 43 = .ok (.aload_n 0, 1) := dk_1042 (dk_g tcX3_init_3 7 rfl)
theorem dX3_init_44 : decode cX3_init 44 = .ok (.iconst (-1), 1) := dk_1002 (dk_g tcX3_init_3 8 rfl)
theorem dX3_init_45 : decode cX3_init 45 = .ok (.putfield 37, 3) := dk_1181 (dk_g tcX3_init_3 9 rfl) (dk_g tcX3_init_3 10 rfl) (dk_g tcX3_init_3 11 rfl) rfl
theorem tcX3_init_4 : (cX3_init.data.toList.drop 48).take 12 = [42, 2, 181, 0, 40, 42, 3, 181, 0, 43, 42, 187] := by decide +kernel
theorem dX3_init_48 : decode cX3_init 48 = .ok (.aload_n 0, 1) := dk_1042 (dk_g tcX3_init_4 0 rfl)
theorem dX3_init_49 : decode cX3_init 49 = .ok (.iconst (-1), 1) := dk_1002 (dk_g tcX3_init_4 1 rfl)
theorem dX3_init_50 : decode cX3_init 50 = .ok (.putfield 40, 3) := dk_1181 (dk_g tcX3_init_4 2 rfl) (dk_g tcX3_init_4 3 rfl) (dk_g tcX3_init_4 4 rfl) rfl
theorem dX3_init_53 : decode cX3_init 53 = .ok (.aload_n 0, 1) := dk_1042 (dk_g tcX3_init_4 5 rfl)
theorem dX3_init_54 : decode cX3_init 54 = .ok (.iconst 0, 1) := dk_1003 (dk_g tcX3_init_4 6 rfl)
theorem dX3_init_55 : decode cX3_init 55 = .ok (.putfield 43, 3) := dk_1181 (dk_g tcX3_init_4 7 rfl) (dk_g tcX3_init_4 8 rfl) (dk_g tcX3_init_4 9 rfl) rfl
theorem dX3_init_58 : decode cX3_init 58 = .ok (.aload_n 0, 1) := dk_1042 (dk_g tcX3_init_4 10 rfl)
theorem tcX3_init_5 : (cX3_init.data.toList.drop 60).take 12 = [0, 46, 89, 183, 0, 48, 181, 0, 49, 42, 3, 181] := by decide +kernel
theorem dX3_init_59 : decode cX3_init 59 = .ok (.new 46, 3) := dk_1187 (dk_g tcX3_init_4 11 rfl) (dk_g tcX3_init_5 0 rfl) (dk_g tcX3_init_5 1 rfl) rfl
theorem dX3_init_62 : decode cX3_init 62 = .ok (.dup, 1) := dk_1089 (dk_g tcX3_init_5 2 rfl)
theorem dX3_init_63 : decode cX3_init 63 = .ok (.invokespecial 48, 3) := dk_1183 (dk_g tcX3_init_5 3 rfl) (dk_g tcX3_init_5 4 rfl) (dk_g tcX3_init_5 5 rfl) rfl
theorem dX3_init_66 : decode cX3_init 66 = .ok (.putfield 49, 3) := dk_1181 (dk_g tcX3_init_5 6 rfl) (dk_g tcX3_init_5 7 rfl) (dk_g tcX3_init_5 8 rfl) rfl
theorem dX3_init_69 : decode cX3_init 69 = .ok (.aload_n 0, 1) := dk_1042 (dk_g tcX3_init_5 9 rfl)
theorem dX3_init_70 : decode cX3_init 70 = .ok (.iconst 0, 1) := dk_1003 (dk_g tcX3_init_5 10 rfl)
theorem tcX3_init_6 : (cX3_init.data.toList.drop 72).take 12 = [0, 53, 42, 3, 181, 0, 56, 177] := by decide +kernel
theorem dX3_init_71 : decode cX3_init 71 = .ok (.putfield 53, 3) := dk_1181 (dk_g tcX3_init_5 11 rfl) (dk_g tcX3_init_6 0 rfl) (dk_g tcX3_init_6 1 rfl) rfl
theorem dX3_init_74 : decode cX3_init 74 = .ok (.aload_n 0, 1) := dk_1042 (dk_g tcX3_init_6 2 rfl)
theorem dX3_init_75 : decode cX3_init 75 = .ok (.iconst 0, 1) := dk_1003 (dk_g tcX3_init_6 3 rfl)
theorem dX3_init_76 : decode cX3_init 76 = .ok (.putfield 56, 3) := dk_1181 (dk_g tcX3_init_6 4 rfl) (dk_g tcX3_init_6 5 rfl) (dk_g tcX3_init_6 6 rfl) rfl
theorem dX3_init_79 : decode cX3_init 79 = .ok (.return_, 1) := dk_1177 (dk_g tcX3_init_6 7 rfl)
theorem tcX3_begin_0 : (cX3_begin.data.toList.drop 0).take 12 = [42, 3, 181, 0, 37, 42, 2, 181, 0, 40, 42, 180] := by decide +kernel
theorem dX3_begin_0 : decode cX3_begin 0 = .ok (.aload_n 0, 1) := dk_1042 (dk_g tcX3_begin_0 0 rfl)
theorem dX3_begin_1 : decode cX3_begin 1 = .ok (.iconst 0, 1) := dk_1003 (dk_g tcX3_begin_0 1 rfl)
theorem dX3_begin_2 : decode cX3_begin 2 = .ok (.putfield 37, 3) := dk_1181 (dk_g tcX3_begin_0 2 rfl) (dk_g tcX3_begin_0 3 rfl) (dk_g tcX3_begin_0 4 rfl) rfl
theorem dX3_begin_5 : decode cX3_begin 5 = .ok (.aload_n 0, 1) := dk_1042 (dk_g tcX3_begin_0 5 rfl)
theorem dX3_begin_6 : decode cX3_begin 6 = .ok (.iconst (-1), 1) := dk_1002 (dk_g tcX3_begin_0 6 rfl)
theorem dX3_begin_7 : decode cX3_begin 7 = .ok (.putfield 40, 3) := dk_1181 (dk_g tcX3_begin_0 7 rfl) (dk_g tcX3_begin_0 8 rfl) (dk_g tcX3_begin_0 9 rfl) rfl
theorem dX3_begin_10 : decode cX3_begin 10 = .ok (.aload_n 0, 1) := dk_1042 (dk_g tcX3_begin_0 10 rfl)
theorem tcX3_begin_1 : (cX3_begin.data.toList.drop 12).take 12 = [0, 12, 43, 28, 182, 0, 59, 42, 180, 0, 12, 182] := by decide +kernel
theorem dX3_begin_11 : decode cX3_begin 11 = .ok (.getfield 12, 3) := dk_1180 (dk_g tcX3_begin_0 11 rfl) (dk_g tcX3_begin_1 0 rfl) (dk_g tcX3_begin_1 1 rfl) rfl
theorem dX3_begin_14 : decode cX3_begin 14 = .ok (.aload_n 1, 1) := dk_1043 (dk_g tcX3_begin_1 2 rfl)
theorem dX3_begin_15 : decode cX3_begin 15 = .ok (.iload_n 2, 1) := dk_1028 (dk_g tcX3_begin_1 3 rfl)
theorem dX3_begin_16 : decode cX3_begin 16 = .ok (.invokevirtual 59, 3) := dk_1182 (dk_g tcX3_begin_1 4 rfl) (dk_g tcX3_begin_1 5 rfl) (dk_g tcX3_begin_1 6 rfl) rfl
theorem dX3_begin_19 : decode cX3_begin 19 = .ok (.aload_n 0, 1) := dk_1042 (dk_g tcX3_begin_1 7 rfl)
theorem dX3_begin_20 : decode cX3_begin 20 = .ok (.getfield 12, 3) := dk_1180 (dk_g tcX3_begin_1 8 rfl) (dk_g tcX3_begin_1 9 rfl) (dk_g tcX3_begin_1 10 rfl) rfl
theorem tcX3_begin_2 : (cX3_begin.data.toList.drop 24).take 12 = [0, 63, 177] := by decide +kernel
theorem dX3_begin_23 : decode cX3_begin 23 = .ok (.invokevirtual 63, 3) := dk_1182 (dk_g tcX3_begin_1 11 rfl) (dk_g tcX3_begin_2 0 rfl) (dk_g tcX3_begin_2 1 rfl) rfl
theorem dX3_begin_26 : decode cX3_begin 26 = .ok (.return_, 1) := dk_1177 (dk_g tcX3_begin_2 2 rfl)
theorem tcX3_isAtEnd_0 : (cX3_isAtEnd.data.toList.drop 0).take 12 = [42, 180, 0, 12, 180, 0, 66, 154, 0, 7, 4, 167] := by decide +kernel
theorem dX3_isAtEnd_0 : decode cX3_isAtEnd 0 = .ok (.aload_n 0, 1) := dk_1042 (dk_g tcX3_isAtEnd_0 0 rfl)
theorem dX3_isAtEnd_1 : decode cX3_isAtEnd 1 = .ok (.getfield 12, 3) := dk_1180 (dk_g tcX3_isAtEnd_0 1 rfl) (dk_g tcX3_isAtEnd_0 2 rfl) (dk_g tcX3_isAtEnd_0 3 rfl) rfl
theorem dX3_isAtEnd_4 : decode cX3_isAtEnd 4 = .ok (.getfield 66, 3) := dk_1180 (dk_g tcX3_isAtEnd_0 4 rfl) (dk_g tcX3_isAtEnd_0 5 rfl) (dk_g tcX3_isAtEnd_0 6 rfl) rfl
theorem dX3_isAtEnd_7 : decode cX3_isAtEnd 7 = .ok (.ifCond .ne 7, 3) := dk_2154 (dk_g tcX3_isAtEnd_0 7 rfl) (dk_g tcX3_isAtEnd_0 8 rfl) (dk_g tcX3_isAtEnd_0 9 rfl) rfl rfl
theorem dX3_isAtEnd_10 : decode cX3_isAtEnd 10 = .ok (.iconst 1, 1) := dk_1004 (dk_g tcX3_isAtEnd_0 10 rfl)
theorem tcX3_isAtEnd_1 : (cX3_isAtEnd.data.toList.drop 12).take 12 = [0, 4, 3, 172] := by decide +kernel
theorem dX3_isAtEnd_11 : decode cX3_isAtEnd 11 = .ok (.goto 4, 3) := dk_2167 (dk_g tcX3_isAtEnd_0 11 rfl) (dk_g tcX3_isAtEnd_1 0 rfl) (dk_g tcX3_isAtEnd_1 1 rfl) rfl rfl
theorem dX3_isAtEnd_14 : decode cX3_isAtEnd 14 = .ok (.iconst 0, 1) := dk_1003 (dk_g tcX3_isAtEnd_1 2 rfl)
theorem dX3_isAtEnd_15 : decode cX3_isAtEnd 15 = .ok (.ireturn, 1) := dk_1172 (dk_g tcX3_isAtEnd_1 3 rfl)
theorem tcX3_readModulus_0 : (cX3_readModulus.data.toList.drop 0).take 12 = [42, 180, 0, 12, 18, 69, 182, 0, 71, 154, 0, 5] := by decide +kernel
theorem dX3_readModulus_0 : decode cX3_readModulus 0 = .ok (.aload_n 0, 1) := dk_1042 (dk_g tcX3_readModulus_0 0 rfl)
theorem dX3_readModulus_1 : decode cX3_readModulus 1 = .ok (.getfield 12, 3) := dk_1180 (dk_g tcX3_readModulus_0 1 rfl) (dk_g tcX3_readModulus_0 2 rfl) (dk_g tcX3_readModulus_0 3 rfl) rfl
theorem dX3_readModulus_4 : decode cX3_readModulus 4 = .ok (.ldc 69, 2) := dk_1018 (dk_g tcX3_readModulus_0 4 rfl) (dk_g tcX3_readModulus_0 5 rfl) rfl
theorem dX3_readModulus_6 : decode cX3_readModulus 6 = .ok (.invokevirtual 71, 3) := dk_1182 (dk_g tcX3_readModulus_0 6 rfl) (dk_g tcX3_readModulus_0 7 rfl) (dk_g tcX3_readModulus_0 8 rfl) rfl
theorem dX3_readModulus_9 : decode cX3_readModulus 9 = .ok (.ifCond .ne 5, 3) := dk_2154 (dk_g tcX3_readModulus_0 9 rfl) (dk_g tcX3_readModulus_0 10 rfl) (dk_g tcX3_readModulus_0 11 rfl) rfl rfl
theorem tcX3_readModulus_1 : (cX3_readModulus.data.toList.drop 12).take 12 = [4, 172, 42, 16, 101, 18, 32, 182, 0, 75, 153, 0] := by decide +kernel
theorem dX3_readModulus_12 : decode cX3_readModulus 12 = .ok (.iconst 1, 1) := dk_1004 (dk_g tcX3_readModulus_1 0 rfl)
theorem dX3_readModulus_13 : decode cX3_readModulus 13 = .ok (.ireturn, 1) := dk_1172 (dk_g tcX3_readModulus_1 1 rfl)
theorem dX3_readModulus_14 : decode cX3_readModulus 14 = .ok (.aload_n 0, 1) := dk_1042 (dk_g tcX3_readModulus_1 2 rfl)
theorem dX3_readModulus_15 : decode cX3_readModulus 15 = .ok (.bipush 101, 2) := dk_1016 (dk_g tcX3_readModulus_1 3 rfl) (dk_g tcX3_readModulus_1 4 rfl) (by decide +kernel)
theorem dX3_readModulus_17 : decode cX3_readModulus 17 = .ok (.ldc 32, 2) := dk_1018 (dk_g tcX3_readModulus_1 5 rfl) (dk_g tcX3_readModulus_1 6 rfl) rfl
theorem dX3_readModulus_19 : decode cX3_readModulus 19 = .ok (.invokevirtual 75, 3) := dk_1182 (dk_g tcX3_readModulus_1 7 rfl) (dk_g tcX3_readModulus_1 8 rfl) (dk_g tcX3_readModulus_1 9 rfl) rfl
theorem tcX3_readModulus_2 : (cX3_readModulus.data.toList.drop 24).take 12 = [10, 42, 182, 0, 79, 154, 0, 5, 3, 172, 43, 42] := by decide +kernel
theorem dX3_readModulus_22 : decode cX3_readModulus 22 = .ok (.ifCond .eq 10, 3) := dk_2153 (dk_g tcX3_readModulus_1 10 rfl) (dk_g tcX3_readModulus_1 11 rfl) (dk_g tcX3_readModulus_2 0 rfl) rfl rfl
theorem dX3_readModulus_25 : decode cX3_readModulus 25 = .ok (.aload_n 0, 1) := dk_1042 (dk_g tcX3_readModulus_2 1 rfl)
theorem dX3_readModulus_26 : decode cX3_readModulus 26 = .ok (.invokevirtual 79, 3) := dk_1182 (dk_g tcX3_readModulus_2 2 rfl) (dk_g tcX3_readModulus_2 3 rfl) (dk_g tcX3_readModulus_2 4 rfl) rfl
theorem dX3_readModulus_29 : decode cX3_readModulus 29 = .ok (.ifCond .ne 5, 3) := dk_2154 (dk_g tcX3_readModulus_2 5 rfl) (dk_g tcX3_readModulus_2 6 rfl) (dk_g tcX3_readModulus_2 7 rfl) rfl rfl
theorem dX3_readModulus_32 : decode cX3_readModulus 32 = .ok (.iconst 0, 1) := dk_1003 (dk_g tcX3_readModulus_2 8 rfl)
theorem dX3_readModulus_33 : decode cX3_readModulus 33 = .ok (.ireturn, 1) := dk_1172 (dk_g tcX3_readModulus_2 9 rfl)
theorem dX3_readModulus_34 : decode cX3_readModulus 34 = .ok (.aload_n 1, 1) := dk_1043 (dk_g tcX3_readModulus_2 10 rfl)
theorem dX3_readModulus_35 : decode cX3_readModulus 35 = .ok (.aload_n 0, 1) := dk_1042 (dk_g tcX3_readModulus_2 11 rfl)
theorem tcX3_readModulus_3 : (cX3_readModulus.data.toList.drop 36).take 12 = [180, 0, 56, 181, 0, 83, 42, 180, 0, 12, 182, 0] := by decide +kernel
theorem dX3_readModulus_36 : decode cX3_readModulus 36 = .ok (.getfield 56, 3) := dk_1180 (dk_g tcX3_readModulus_3 0 rfl) (dk_g tcX3_readModulus_3 1 rfl) (dk_g tcX3_readModulus_3 2 rfl) rfl
theorem dX3_readModulus_39 : decode cX3_readModulus 39 = .ok (.putfield 83, 3) := dk_1181 (dk_g tcX3_readModulus_3 3 rfl) (dk_g tcX3_readModulus_3 4 rfl) (dk_g tcX3_readModulus_3 5 rfl) rfl
theorem dX3_readModulus_42 : decode cX3_readModulus 42 = .ok (.aload_n 0, 1) := dk_1042 (dk_g tcX3_readModulus_3 6 rfl)
theorem dX3_readModulus_43 : decode cX3_readModulus 43 = .ok (.getfield 12, 3) := dk_1180 (dk_g tcX3_readModulus_3 7 rfl) (dk_g tcX3_readModulus_3 8 rfl) (dk_g tcX3_readModulus_3 9 rfl) rfl
theorem tcX3_readModulus_4 : (cX3_readModulus.data.toList.drop 48).take 12 = [63, 4, 172] := by decide +kernel
theorem dX3_readModulus_46 : decode cX3_readModulus 46 = .ok (.invokevirtual 63, 3) := dk_1182 (dk_g tcX3_readModulus_3 10 rfl) (dk_g tcX3_readModulus_3 11 rfl) (dk_g tcX3_readModulus_4 0 rfl) rfl
theorem dX3_readModulus_49 : decode cX3_readModulus 49 = .ok (.iconst 1, 1) := dk_1004 (dk_g tcX3_readModulus_4 1 rfl)
theorem dX3_readModulus_50 : decode cX3_readModulus 50 = .ok (.ireturn, 1) := dk_1172 (dk_g tcX3_readModulus_4 2 rfl)
theorem tcX3_readLine_0 : (cX3_readLine.data.toList.drop 0).take 12 = [42, 180, 0, 12, 18, 86, 182, 0, 71, 153, 0, 12] := by decide +kernel
theorem dX3_readLine_0 : decode cX3_readLine 0 = .ok (.aload_n 0, 1) := dk_1042 (dk_g tcX3_readLine_0 0 rfl)
theorem dX3_readLine_1 : decode cX3_readLine 1 = .ok (.getfield 12, 3) := dk_1180 (dk_g tcX3_readLine_0 1 rfl) (dk_g tcX3_readLine_0 2 rfl) (dk_g tcX3_readLine_0 3 rfl) rfl
theorem dX3_readLine_4 : decode cX3_readLine 4 = .ok (.ldc 86, 2) := dk_1018 (dk_g tcX3_readLine_0 4 rfl) (dk_g tcX3_readLine_0 5 rfl) rfl
theorem dX3_readLine_6 : decode cX3_readLine 6 = .ok (.invokevirtual 71, 3) := dk_1182 (dk_g tcX3_readLine_0 6 rfl) (dk_g tcX3_readLine_0 7 rfl) (dk_g tcX3_readLine_0 8 rfl) rfl
theorem dX3_readLine_9 : decode cX3_readLine 9 = .ok (.ifCond .eq 12, 3) := dk_2153 (dk_g tcX3_readLine_0 9 rfl) (dk_g tcX3_readLine_0 10 rfl) (dk_g tcX3_readLine_0 11 rfl) rfl rfl
theorem tcX3_readLine_1 : (cX3_readLine.data.toList.drop 12).take 12 = [42, 44, 182, 0, 88, 62, 167, 0, 179, 42, 180, 0] := by decide +kernel
theorem dX3_readLine_12 : decode cX3_readLine 12 = .ok (.aload_n 0, 1) := dk_1042 (dk_g tcX3_readLine_1 0 rfl)
theorem dX3_readLine_13 : decode cX3_readLine 13 = .ok (.aload_n 2, 1) := dk_1044 (dk_g tcX3_readLine_1 1 rfl)
theorem dX3_readLine_14 : decode cX3_readLine 14 = .ok (.invokevirtual 88, 3) := dk_1182 (dk_g tcX3_readLine_1 2 rfl) (dk_g tcX3_readLine_1 3 rfl) (dk_g tcX3_readLine_1 4 rfl) rfl
theorem dX3_readLine_17 : decode cX3_readLine 17 = .ok (.istore_n 3, 1) := dk_1062 (dk_g tcX3_readLine_1 5 rfl)
theorem dX3_readLine_18 : decode cX3_readLine 18 = .ok (.goto 179, 3) := dk_2167 (dk_g tcX3_readLine_1 6 rfl) (dk_g tcX3_readLine_1 7 rfl) (dk_g tcX3_readLine_1 8 rfl) rfl rfl
theorem dX3_readLine_21 : decode cX3_readLine 21 = .ok (.aload_n 0, 1) := dk_1042 (dk_g tcX3_readLine_1 9 rfl)
theorem tcX3_readLine_2 : (cX3_readLine.data.toList.drop 24).take 12 = [12, 18, 92, 182, 0, 71, 153, 0, 38, 42, 4, 181] := by decide +kernel
theorem dX3_readLine_22 : decode cX3_readLine 22 = .ok (.getfield 12, 3) := dk_1180 (dk_g tcX3_readLine_1 10 rfl) (dk_g tcX3_readLine_1 11 rfl) (dk_g tcX3_readLine_2 0 rfl) rfl
theorem dX3_readLine_25 : decode cX3_readLine 25 = .ok (.ldc 92, 2) := dk_1018 (dk_g tcX3_readLine_2 1 rfl) (dk_g tcX3_readLine_2 2 rfl) rfl
theorem dX3_readLine_27 : decode cX3_readLine 27 = .ok (.invokevirtual 71, 3) := dk_1182 (dk_g tcX3_readLine_2 3 rfl) (dk_g tcX3_readLine_2 4 rfl) (dk_g tcX3_readLine_2 5 rfl) rfl
theorem dX3_readLine_30 : decode cX3_readLine 30 = .ok (.ifCond .eq 38, 3) := dk_2153 (dk_g tcX3_readLine_2 6 rfl) (dk_g tcX3_readLine_2 7 rfl) (dk_g tcX3_readLine_2 8 rfl) rfl rfl
theorem dX3_readLine_33 : decode cX3_readLine 33 = .ok (.aload_n 0, 1) := dk_1042 (dk_g tcX3_readLine_2 9 rfl)
theorem dX3_readLine_34 : decode cX3_readLine 34 = .ok (.iconst 1, 1) := dk_1004 (dk_g tcX3_readLine_2 10 rfl)
theorem tcX3_readLine_3 : (cX3_readLine.data.toList.drop 36).take 12 = [0, 43, 42, 3, 43, 180, 0, 94, 4, 100, 182, 0] := by decide +kernel
theorem dX3_readLine_35 : decode cX3_readLine 35 = .ok (.putfield 43, 3) := dk_1181 (dk_g tcX3_readLine_2 11 rfl) (dk_g tcX3_readLine_3 0 rfl) (dk_g tcX3_readLine_3 1 rfl) rfl
theorem dX3_readLine_38 : decode cX3_readLine 38 = .ok (.aload_n 0, 1) := dk_1042 (dk_g tcX3_readLine_3 2 rfl)
theorem dX3_readLine_39 : decode cX3_readLine 39 = .ok (.iconst 0, 1) := dk_1003 (dk_g tcX3_readLine_3 3 rfl)
theorem dX3_readLine_40 : decode cX3_readLine 40 = .ok (.aload_n 1, 1) := dk_1043 (dk_g tcX3_readLine_3 4 rfl)
theorem dX3_readLine_41 : decode cX3_readLine 41 = .ok (.getfield 94, 3) := dk_1180 (dk_g tcX3_readLine_3 5 rfl) (dk_g tcX3_readLine_3 6 rfl) (dk_g tcX3_readLine_3 7 rfl) rfl
theorem dX3_readLine_44 : decode cX3_readLine 44 = .ok (.iconst 1, 1) := dk_1004 (dk_g tcX3_readLine_3 8 rfl)
theorem dX3_readLine_45 : decode cX3_readLine 45 = .ok (.isub, 1) := dk_1100 (dk_g tcX3_readLine_3 9 rfl)
theorem tcX3_readLine_4 : (cX3_readLine.data.toList.drop 48).take 12 = [75, 153, 0, 14, 42, 182, 0, 79, 153, 0, 7, 4] := by decide +kernel
theorem dX3_readLine_46 : decode cX3_readLine 46 = .ok (.invokevirtual 75, 3) := dk_1182 (dk_g tcX3_readLine_3 10 rfl) (dk_g tcX3_readLine_3 11 rfl) (dk_g tcX3_readLine_4 0 rfl) rfl
theorem dX3_readLine_49 : decode cX3_readLine 49 = .ok (.ifCond .eq 14, 3) := dk_2153 (dk_g tcX3_readLine_4 1 rfl) (dk_g tcX3_readLine_4 2 rfl) (dk_g tcX3_readLine_4 3 rfl) rfl rfl
theorem dX3_readLine_52 : decode cX3_readLine 52 = .ok (.aload_n 0, 1) := dk_1042 (dk_g tcX3_readLine_4 4 rfl)
theorem dX3_readLine_53 : decode cX3_readLine 53 = .ok (.invokevirtual 79, 3) := dk_1182 (dk_g tcX3_readLine_4 5 rfl) (dk_g tcX3_readLine_4 6 rfl) (dk_g tcX3_readLine_4 7 rfl) rfl
theorem dX3_readLine_56 : decode cX3_readLine 56 = .ok (.ifCond .eq 7, 3) := dk_2153 (dk_g tcX3_readLine_4 8 rfl) (dk_g tcX3_readLine_4 9 rfl) (dk_g tcX3_readLine_4 10 rfl) rfl rfl
theorem dX3_readLine_59 : decode cX3_readLine 59 = .ok (.iconst 1, 1) := dk_1004 (dk_g tcX3_readLine_4 11 rfl)
theorem tcX3_readLine_5 : (cX3_readLine.data.toList.drop 60).take 12 = [167, 0, 4, 3, 62, 167, 0, 132, 42, 180, 0, 12] := by decide +kernel
theorem dX3_readLine_60 : decode cX3_readLine 60 = .ok (.goto 4, 3) := dk_2167 (dk_g tcX3_readLine_5 0 rfl) (dk_g tcX3_readLine_5 1 rfl) (dk_g tcX3_readLine_5 2 rfl) rfl rfl
theorem dX3_readLine_63 : decode cX3_readLine 63 = .ok (.iconst 0, 1) := dk_1003 (dk_g tcX3_readLine_5 3 rfl)
theorem dX3_readLine_64 : decode cX3_readLine 64 = .ok (.istore_n 3, 1) := dk_1062 (dk_g tcX3_readLine_5 4 rfl)
theorem dX3_readLine_65 : decode cX3_readLine 65 = .ok (.goto 132, 3) := dk_2167 (dk_g tcX3_readLine_5 5 rfl) (dk_g tcX3_readLine_5 6 rfl) (dk_g tcX3_readLine_5 7 rfl) rfl rfl
theorem dX3_readLine_68 : decode cX3_readLine 68 = .ok (.aload_n 0, 1) := dk_1042 (dk_g tcX3_readLine_5 8 rfl)
theorem dX3_readLine_69 : decode cX3_readLine 69 = .ok (.getfield 12, 3) := dk_1180 (dk_g tcX3_readLine_5 9 rfl) (dk_g tcX3_readLine_5 10 rfl) (dk_g tcX3_readLine_5 11 rfl) rfl
theorem tcX3_readLine_6 : (cX3_readLine.data.toList.drop 72).take 12 = [18, 97, 182, 0, 71, 153, 0, 48, 42, 5, 181, 0] := by decide +kernel
theorem dX3_readLine_72 : decode cX3_readLine 72 = .ok (.ldc 97, 2) := dk_1018 (dk_g tcX3_readLine_6 0 rfl) (dk_g tcX3_readLine_6 1 rfl) rfl
theorem dX3_readLine_74 : decode cX3_readLine 74 = .ok (.invokevirtual 71, 3) := dk_1182 (dk_g tcX3_readLine_6 2 rfl) (dk_g tcX3_readLine_6 3 rfl) (dk_g tcX3_readLine_6 4 rfl) rfl
theorem dX3_readLine_77 : decode cX3_readLine 77 = .ok (.ifCond .eq 48, 3) := dk_2153 (dk_g tcX3_readLine_6 5 rfl) (dk_g tcX3_readLine_6 6 rfl) (dk_g tcX3_readLine_6 7 rfl) rfl rfl
theorem dX3_readLine_80 : decode cX3_readLine 80 = .ok (.aload_n 0, 1) := dk_1042 (dk_g tcX3_readLine_6 8 rfl)
theorem dX3_readLine_81 : decode cX3_readLine 81 = .ok (.iconst 2, 1) := dk_1005 (dk_g tcX3_readLine_6 9 rfl)
theorem tcX3_readLine_7 : (cX3_readLine.data.toList.drop 84).take 12 = [43, 42, 43, 180, 0, 94, 7, 182, 0, 99, 153, 0] := by decide +kernel
theorem dX3_readLine_82 : decode cX3_readLine 82 = .ok (.putfield 43, 3) := dk_1181 (dk_g tcX3_readLine_6 10 rfl) (dk_g tcX3_readLine_6 11 rfl) (dk_g tcX3_readLine_7 0 rfl) rfl
theorem dX3_readLine_85 : decode cX3_readLine 85 = .ok (.aload_n 0, 1) := dk_1042 (dk_g tcX3_readLine_7 1 rfl)
theorem dX3_readLine_86 : decode cX3_readLine 86 = .ok (.aload_n 1, 1) := dk_1043 (dk_g tcX3_readLine_7 2 rfl)
theorem dX3_readLine_87 : decode cX3_readLine 87 = .ok (.getfield 94, 3) := dk_1180 (dk_g tcX3_readLine_7 3 rfl) (dk_g tcX3_readLine_7 4 rfl) (dk_g tcX3_readLine_7 5 rfl) rfl
theorem dX3_readLine_90 : decode cX3_readLine 90 = .ok (.iconst 4, 1) := dk_1007 (dk_g tcX3_readLine_7 6 rfl)
theorem dX3_readLine_91 : decode cX3_readLine 91 = .ok (.invokevirtual 99, 3) := dk_1182 (dk_g tcX3_readLine_7 7 rfl) (dk_g tcX3_readLine_7 8 rfl) (dk_g tcX3_readLine_7 9 rfl) rfl
theorem tcX3_readLine_8 : (cX3_readLine.data.toList.drop 96).take 12 = [26, 42, 3, 44, 180, 0, 102, 182, 0, 75, 153, 0] := by decide +kernel
theorem dX3_readLine_94 : decode cX3_readLine 94 = .ok (.ifCond .eq 26, 3) := dk_2153 (dk_g tcX3_readLine_7 10 rfl) (dk_g tcX3_readLine_7 11 rfl) (dk_g tcX3_readLine_8 0 rfl) rfl rfl
theorem dX3_readLine_97 : decode cX3_readLine 97 = .ok (.aload_n 0, 1) := dk_1042 (dk_g tcX3_readLine_8 1 rfl)
theorem dX3_readLine_98 : decode cX3_readLine 98 = .ok (.iconst 0, 1) := dk_1003 (dk_g tcX3_readLine_8 2 rfl)
theorem dX3_readLine_99 : decode cX3_readLine 99 = .ok (.aload_n 2, 1) := dk_1044 (dk_g tcX3_readLine_8 3 rfl)
theorem dX3_readLine_100 : decode cX3_readLine 100 = .ok (.getfield 102, 3) := dk_1180 (dk_g tcX3_readLine_8 4 rfl) (dk_g tcX3_readLine_8 5 rfl) (dk_g tcX3_readLine_8 6 rfl) rfl
theorem dX3_readLine_103 : decode cX3_readLine 103 = .ok (.invokevirtual 75, 3) := dk_1182 (dk_g tcX3_readLine_8 7 rfl) (dk_g tcX3_readLine_8 8 rfl) (dk_g tcX3_readLine_8 9 rfl) rfl
theorem tcX3_readLine_9 : (cX3_readLine.data.toList.drop 108).take 12 = [14, 42, 182, 0, 79, 153, 0, 7, 4, 167, 0, 4] := by decide +kernel
theorem dX3_readLine_106 : decode cX3_readLine 106 = .ok (.ifCond .eq 14, 3) := dk_2153 (dk_g tcX3_readLine_8 10 rfl) (dk_g tcX3_readLine_8 11 rfl) (dk_g tcX3_readLine_9 0 rfl) rfl rfl
theorem dX3_readLine_109 : decode cX3_readLine 109 = .ok (.aload_n 0, 1) := dk_1042 (dk_g tcX3_readLine_9 1 rfl)
theorem dX3_readLine_110 : decode cX3_readLine 110 = .ok (.invokevirtual 79, 3) := dk_1182 (dk_g tcX3_readLine_9 2 rfl) (dk_g tcX3_readLine_9 3 rfl) (dk_g tcX3_readLine_9 4 rfl) rfl
theorem dX3_readLine_113 : decode cX3_readLine 113 = .ok (.ifCond .eq 7, 3) := dk_2153 (dk_g tcX3_readLine_9 5 rfl) (dk_g tcX3_readLine_9 6 rfl) (dk_g tcX3_readLine_9 7 rfl) rfl rfl
theorem dX3_readLine_116 : decode cX3_readLine 116 = .ok (.iconst 1, 1) := dk_1004 (dk_g tcX3_readLine_9 8 rfl)
theorem dX3_readLine_117 : decode cX3_readLine 117 = .ok (.goto 4, 3) := dk_2167 (dk_g tcX3_readLine_9 9 rfl) (dk_g tcX3_readLine_9 10 rfl) (dk_g tcX3_readLine_9 11 rfl) rfl rfl
theorem tcX3_readLine_10 : (cX3_readLine.data.toList.drop 120).take 12 = [3, 62, 167, 0, 75, 42, 180, 0, 12, 18, 107, 182] := by decide +kernel
theorem dX3_readLine_120 : decode cX3_readLine 120 = .ok (.iconst 0, 1) := dk_1003 (dk_g tcX3_readLine_10 0 rfl)
theorem dX3_readLine_121 : decode cX3_readLine 121 = .ok (.istore_n 3, 1) := dk_1062 (dk_g tcX3_readLine_10 1 rfl)
theorem dX3_readLine_122 : decode cX3_readLine 122 = .ok (.goto 75, 3) := dk_2167 (dk_g tcX3_readLine_10 2 rfl) (dk_g tcX3_readLine_10 3 rfl) (dk_g tcX3_readLine_10 4 rfl) rfl rfl
theorem dX3_readLine_125 : decode cX3_readLine 125 = .ok (.aload_n 0, 1) := dk_1042 (dk_g tcX3_readLine_10 5 rfl)
theorem dX3_readLine_126 : decode cX3_readLine 126 = .ok (.getfield 12, 3) := dk_1180 (dk_g tcX3_readLine_10 6 rfl) (dk_g tcX3_readLine_10 7 rfl) (dk_g tcX3_readLine_10 8 rfl) rfl
theorem dX3_readLine_129 : decode cX3_readLine 129 = .ok (.ldc 107, 2) := dk_1018 (dk_g tcX3_readLine_10 9 rfl) (dk_g tcX3_readLine_10 10 rfl) rfl
theorem tcX3_readLine_11 : (cX3_readLine.data.toList.drop 132).take 12 = [0, 71, 153, 0, 37, 42, 6, 181, 0, 43, 42, 43] := by decide +kernel
theorem dX3_readLine_131 : decode cX3_readLine 131 = .ok (.invokevirtual 71, 3) := dk_1182 (dk_g tcX3_readLine_10 11 rfl) (dk_g tcX3_readLine_11 0 rfl) (dk_g tcX3_readLine_11 1 rfl) rfl
theorem dX3_readLine_134 : decode cX3_readLine 134 = .ok (.ifCond .eq 37, 3) := dk_2153 (dk_g tcX3_readLine_11 2 rfl) (dk_g tcX3_readLine_11 3 rfl) (dk_g tcX3_readLine_11 4 rfl) rfl rfl
theorem dX3_readLine_137 : decode cX3_readLine 137 = .ok (.aload_n 0, 1) := dk_1042 (dk_g tcX3_readLine_11 5 rfl)
theorem dX3_readLine_138 : decode cX3_readLine 138 = .ok (.iconst 3, 1) := dk_1006 (dk_g tcX3_readLine_11 6 rfl)
theorem dX3_readLine_139 : decode cX3_readLine 139 = .ok (.putfield 43, 3) := dk_1181 (dk_g tcX3_readLine_11 7 rfl) (dk_g tcX3_readLine_11 8 rfl) (dk_g tcX3_readLine_11 9 rfl) rfl
theorem dX3_readLine_142 : decode cX3_readLine 142 = .ok (.aload_n 0, 1) := dk_1042 (dk_g tcX3_readLine_11 10 rfl)
theorem dX3_readLine_143 : decode cX3_readLine 143 = .ok (.aload_n 1, 1) := dk_1043 (dk_g tcX3_readLine_11 11 rfl)
theorem tcX3_readLine_12 : (cX3_readLine.data.toList.drop 144).take 12 = [180, 0, 109, 16, 16, 182, 0, 99, 153, 0, 14, 42] := by decide +kernel
theorem dX3_readLine_144 : decode cX3_readLine 144 = .ok (.getfield 109, 3) := dk_1180 (dk_g tcX3_readLine_12 0 rfl) (dk_g tcX3_readLine_12 1 rfl) (dk_g tcX3_readLine_12 2 rfl) rfl
theorem dX3_readLine_147 : decode cX3_readLine 147 = .ok (.bipush 16, 2) := dk_1016 (dk_g tcX3_readLine_12 3 rfl) (dk_g tcX3_readLine_12 4 rfl) (by decide +kernel)
theorem dX3_readLine_149 : decode cX3_readLine 149 = .ok (.invokevirtual 99, 3) := dk_1182 (dk_g tcX3_readLine_12 5 rfl) (dk_g tcX3_readLine_12 6 rfl) (dk_g tcX3_readLine_12 7 rfl) rfl
theorem dX3_readLine_152 : decode cX3_readLine 152 = .ok (.ifCond .eq 14, 3) := dk_2153 (dk_g tcX3_readLine_12 8 rfl) (dk_g tcX3_readLine_12 9 rfl) (dk_g tcX3_readLine_12 10 rfl) rfl rfl
theorem dX3_readLine_155 : decode cX3_readLine 155 = .ok (.aload_n 0, 1) := dk_1042 (dk_g tcX3_readLine_12 11 rfl)
theorem tcX3_readLine_13 : (cX3_readLine.data.toList.drop 156).take 12 = [182, 0, 79, 153, 0, 7, 4, 167, 0, 4, 3, 62] := by decide +kernel
theorem dX3_readLine_156 : decode cX3_readLine 156 = .ok (.invokevirtual 79, 3) := dk_1182 (dk_g tcX3_readLine_13 0 rfl) (dk_g tcX3_readLine_13 1 rfl) (dk_g tcX3_readLine_13 2 rfl) rfl
theorem dX3_readLine_159 : decode cX3_readLine 159 = .ok (.ifCond .eq 7, 3) := dk_2153 (dk_g tcX3_readLine_13 3 rfl) (dk_g tcX3_readLine_13 4 rfl) (dk_g tcX3_readLine_13 5 rfl) rfl rfl
theorem dX3_readLine_162 : decode cX3_readLine 162 = .ok (.iconst 1, 1) := dk_1004 (dk_g tcX3_readLine_13 6 rfl)
theorem dX3_readLine_163 : decode cX3_readLine 163 = .ok (.goto 4, 3) := dk_2167 (dk_g tcX3_readLine_13 7 rfl) (dk_g tcX3_readLine_13 8 rfl) (dk_g tcX3_readLine_13 9 rfl) rfl rfl
theorem dX3_readLine_166 : decode cX3_readLine 166 = .ok (.iconst 0, 1) := dk_1003 (dk_g tcX3_readLine_13 10 rfl)
theorem dX3_readLine_167 : decode cX3_readLine 167 = .ok (.istore_n 3, 1) := dk_1062 (dk_g tcX3_readLine_13 11 rfl)
theorem tcX3_readLine_14 : (cX3_readLine.data.toList.drop 168).take 12 = [167, 0, 29, 42, 180, 0, 12, 18, 112, 182, 0, 71] := by decide +kernel
theorem dX3_readLine_168 : decode cX3_readLine 168 = .ok (.goto 29, 3) := dk_2167 (dk_g tcX3_readLine_14 0 rfl) (dk_g tcX3_readLine_14 1 rfl) (dk_g tcX3_readLine_14 2 rfl) rfl rfl
theorem dX3_readLine_171 : decode cX3_readLine 171 = .ok (.aload_n 0, 1) := dk_1042 (dk_g tcX3_readLine_14 3 rfl)
theorem dX3_readLine_172 : decode cX3_readLine 172 = .ok (.getfield 12, 3) := dk_1180 (dk_g tcX3_readLine_14 4 rfl) (dk_g tcX3_readLine_14 5 rfl) (dk_g tcX3_readLine_14 6 rfl) rfl
theorem dX3_readLine_175 : decode cX3_readLine 175 = .ok (.ldc 112, 2) := dk_1018 (dk_g tcX3_readLine_14 7 rfl) (dk_g tcX3_readLine_14 8 rfl) rfl
theorem dX3_readLine_177 : decode cX3_readLine 177 = .ok (.invokevirtual 71, 3) := dk_1182 (dk_g tcX3_readLine_14 9 rfl) (dk_g tcX3_readLine_14 10 rfl) (dk_g tcX3_readLine_14 11 rfl) rfl
theorem tcX3_readLine_15 : (cX3_readLine.data.toList.drop 180).take 12 = [153, 0, 12, 42, 44, 182, 0, 114, 62, 167, 0, 8] := by decide +kernel
theorem dX3_readLine_180 : decode cX3_readLine 180 = .ok (.ifCond .eq 12, 3) := dk_2153 (dk_g tcX3_readLine_15 0 rfl) (dk_g tcX3_readLine_15 1 rfl) (dk_g tcX3_readLine_15 2 rfl) rfl rfl
theorem dX3_readLine_183 : decode cX3_readLine 183 = .ok (.aload_n 0, 1) := dk_1042 (dk_g tcX3_readLine_15 3 rfl)
theorem dX3_readLine_184 : decode cX3_readLine 184 = .ok (.aload_n 2, 1) := dk_1044 (dk_g tcX3_readLine_15 4 rfl)
theorem dX3_readLine_185 : decode cX3_readLine 185 = .ok (.invokevirtual 114, 3) := dk_1182 (dk_g tcX3_readLine_15 5 rfl) (dk_g tcX3_readLine_15 6 rfl) (dk_g tcX3_readLine_15 7 rfl) rfl
theorem dX3_readLine_188 : decode cX3_readLine 188 = .ok (.istore_n 3, 1) := dk_1062 (dk_g tcX3_readLine_15 8 rfl)
theorem dX3_readLine_189 : decode cX3_readLine 189 = .ok (.goto 8, 3) := dk_2167 (dk_g tcX3_readLine_15 9 rfl) (dk_g tcX3_readLine_15 10 rfl) (dk_g tcX3_readLine_15 11 rfl) rfl rfl
theorem tcX3_readLine_16 : (cX3_readLine.data.toList.drop 192).take 12 = [42, 182, 0, 117, 62, 29, 153, 0, 10, 42, 180, 0] := by decide +kernel
theorem dX3_readLine_192 : decode cX3_readLine 192 = .ok (.aload_n 0, 1) := dk_1042 (dk_g tcX3_readLine_16 0 rfl)
theorem dX3_readLine_193 : decode cX3_readLine 193 = .ok (.invokevirtual 117, 3) := dk_1182 (dk_g tcX3_readLine_16 1 rfl) (dk_g tcX3_readLine_16 2 rfl) (dk_g tcX3_readLine_16 3 rfl) rfl
theorem dX3_readLine_196 : decode cX3_readLine 196 = .ok (.istore_n 3, 1) := dk_1062 (dk_g tcX3_readLine_16 4 rfl)
theorem dX3_readLine_197 : decode cX3_readLine 197 = .ok (.iload_n 3, 1) := dk_1029 (dk_g tcX3_readLine_16 5 rfl)
theorem dX3_readLine_198 : decode cX3_readLine 198 = .ok (.ifCond .eq 10, 3) := dk_2153 (dk_g tcX3_readLine_16 6 rfl) (dk_g tcX3_readLine_16 7 rfl) (dk_g tcX3_readLine_16 8 rfl) rfl rfl
theorem dX3_readLine_201 : decode cX3_readLine 201 = .ok (.aload_n 0, 1) := dk_1042 (dk_g tcX3_readLine_16 9 rfl)
theorem tcX3_readLine_17 : (cX3_readLine.data.toList.drop 204).take 12 = [12, 182, 0, 63, 29, 172] := by decide +kernel
theorem dX3_readLine_202 : decode cX3_readLine 202 = .ok (.getfield 12, 3) := dk_1180 (dk_g tcX3_readLine_16 10 rfl) (dk_g tcX3_readLine_16 11 rfl) (dk_g tcX3_readLine_17 0 rfl) rfl
theorem dX3_readLine_205 : decode cX3_readLine 205 = .ok (.invokevirtual 63, 3) := dk_1182 (dk_g tcX3_readLine_17 1 rfl) (dk_g tcX3_readLine_17 2 rfl) (dk_g tcX3_readLine_17 3 rfl) rfl
theorem dX3_readLine_208 : decode cX3_readLine 208 = .ok (.iload_n 3, 1) := dk_1029 (dk_g tcX3_readLine_17 4 rfl)
theorem dX3_readLine_209 : decode cX3_readLine 209 = .ok (.ireturn, 1) := dk_1172 (dk_g tcX3_readLine_17 5 rfl)
theorem tcX3_readProofs_0 : (cX3_readProofs.data.toList.drop 0).take 12 = [42, 27, 181, 0, 33, 44, 3, 182, 0, 120, 3, 62] := by decide +kernel
theorem dX3_readProofs_0 : decode cX3_readProofs 0 = .ok (.aload_n 0, 1) := dk_1042 (dk_g tcX3_readProofs_0 0 rfl)
theorem dX3_readProofs_1 : decode cX3_readProofs 1 = .ok (.iload_n 1, 1) := dk_1027 (dk_g tcX3_readProofs_0 1 rfl)
theorem dX3_readProofs_2 : decode cX3_readProofs 2 = .ok (.putfield 33, 3) := dk_1181 (dk_g tcX3_readProofs_0 2 rfl) (dk_g tcX3_readProofs_0 3 rfl) (dk_g tcX3_readProofs_0 4 rfl) rfl
theorem dX3_readProofs_5 : decode cX3_readProofs 5 = .ok (.aload_n 2, 1) := dk_1044 (dk_g tcX3_readProofs_0 5 rfl)
theorem dX3_readProofs_6 : decode cX3_readProofs 6 = .ok (.iconst 0, 1) := dk_1003 (dk_g tcX3_readProofs_0 6 rfl)
theorem dX3_readProofs_7 : decode cX3_readProofs 7 = .ok (.invokevirtual 120, 3) := dk_1182 (dk_g tcX3_readProofs_0 7 rfl) (dk_g tcX3_readProofs_0 8 rfl) (dk_g tcX3_readProofs_0 9 rfl) rfl
theorem dX3_readProofs_10 : decode cX3_readProofs 10 = .ok (.iconst 0, 1) := dk_1003 (dk_g tcX3_readProofs_0 10 rfl)
theorem dX3_readProofs_11 : decode cX3_readProofs 11 = .ok (.istore_n 3, 1) := dk_1062 (dk_g tcX3_readProofs_0 11 rfl)
theorem tcX3_readProofs_1 : (cX3_readProofs.data.toList.drop 12).take 12 = [29, 17, 3, 132, 162, 0, 95, 42, 182, 0, 124, 154] := by decide +kernel
theorem dX3_readProofs_12 : decode cX3_readProofs 12 = .ok (.iload_n 3, 1) := dk_1029 (dk_g tcX3_readProofs_1 0 rfl)
theorem dX3_readProofs_13 : decode cX3_readProofs 13 = .ok (.sipush 900, 3) := dk_2017 (dk_g tcX3_readProofs_1 1 rfl) (dk_g tcX3_readProofs_1 2 rfl) (dk_g tcX3_readProofs_1 3 rfl) rfl rfl
theorem dX3_readProofs_16 : decode cX3_readProofs 16 = .ok (.if_icmp .ge 95, 3) := dk_2162 (dk_g tcX3_readProofs_1 4 rfl) (dk_g tcX3_readProofs_1 5 rfl) (dk_g tcX3_readProofs_1 6 rfl) rfl rfl
theorem dX3_readProofs_19 : decode cX3_readProofs 19 = .ok (.aload_n 0, 1) := dk_1042 (dk_g tcX3_readProofs_1 7 rfl)
theorem dX3_readProofs_20 : decode cX3_readProofs 20 = .ok (.invokevirtual 124, 3) := dk_1182 (dk_g tcX3_readProofs_1 8 rfl) (dk_g tcX3_readProofs_1 9 rfl) (dk_g tcX3_readProofs_1 10 rfl) rfl
theorem tcX3_readProofs_2 : (cX3_readProofs.data.toList.drop 24).take 12 = [0, 88, 42, 180, 0, 12, 18, 127, 182, 0, 71, 54] := by decide +kernel
theorem dX3_readProofs_23 : decode cX3_readProofs 23 = .ok (.ifCond .ne 88, 3) := dk_2154 (dk_g tcX3_readProofs_1 11 rfl) (dk_g tcX3_readProofs_2 0 rfl) (dk_g tcX3_readProofs_2 1 rfl) rfl rfl
theorem dX3_readProofs_26 : decode cX3_readProofs 26 = .ok (.aload_n 0, 1) := dk_1042 (dk_g tcX3_readProofs_2 2 rfl)
theorem dX3_readProofs_27 : decode cX3_readProofs 27 = .ok (.getfield 12, 3) := dk_1180 (dk_g tcX3_readProofs_2 3 rfl) (dk_g tcX3_readProofs_2 4 rfl) (dk_g tcX3_readProofs_2 5 rfl) rfl
theorem dX3_readProofs_30 : decode cX3_readProofs 30 = .ok (.ldc 127, 2) := dk_1018 (dk_g tcX3_readProofs_2 6 rfl) (dk_g tcX3_readProofs_2 7 rfl) rfl
theorem dX3_readProofs_32 : decode cX3_readProofs 32 = .ok (.invokevirtual 71, 3) := dk_1182 (dk_g tcX3_readProofs_2 8 rfl) (dk_g tcX3_readProofs_2 9 rfl) (dk_g tcX3_readProofs_2 10 rfl) rfl
theorem tcX3_readProofs_3 : (cX3_readProofs.data.toList.drop 36).take 12 = [4, 21, 4, 154, 0, 20, 42, 180, 0, 12, 18, 129] := by decide +kernel
theorem dX3_readProofs_35 : decode cX3_readProofs 35 = .ok (.istore 4, 2) := dk_1054 (dk_g tcX3_readProofs_2 11 rfl) (dk_g tcX3_readProofs_3 0 rfl) rfl
theorem dX3_readProofs_37 : decode cX3_readProofs 37 = .ok (.iload 4, 2) := dk_1021 (dk_g tcX3_readProofs_3 1 rfl) (dk_g tcX3_readProofs_3 2 rfl) rfl
theorem dX3_readProofs_39 : decode cX3_readProofs 39 = .ok (.ifCond .ne 20, 3) := dk_2154 (dk_g tcX3_readProofs_3 3 rfl) (dk_g tcX3_readProofs_3 4 rfl) (dk_g tcX3_readProofs_3 5 rfl) rfl rfl
theorem dX3_readProofs_42 : decode cX3_readProofs 42 = .ok (.aload_n 0, 1) := dk_1042 (dk_g tcX3_readProofs_3 6 rfl)
theorem dX3_readProofs_43 : decode cX3_readProofs 43 = .ok (.getfield 12, 3) := dk_1180 (dk_g tcX3_readProofs_3 7 rfl) (dk_g tcX3_readProofs_3 8 rfl) (dk_g tcX3_readProofs_3 9 rfl) rfl
theorem dX3_readProofs_46 : decode cX3_readProofs 46 = .ok (.ldc 129, 2) := dk_1018 (dk_g tcX3_readProofs_3 10 rfl) (dk_g tcX3_readProofs_3 11 rfl) rfl
theorem tcX3_readProofs_4 : (cX3_readProofs.data.toList.drop 48).take 12 = [182, 0, 71, 154, 0, 8, 42, 182, 0, 117, 172, 42] := by decide +kernel
theorem dX3_readProofs_48 : decode cX3_readProofs 48 = .ok (.invokevirtual 71, 3) := dk_1182 (dk_g tcX3_readProofs_4 0 rfl) (dk_g tcX3_readProofs_4 1 rfl) (dk_g tcX3_readProofs_4 2 rfl) rfl
theorem dX3_readProofs_51 : decode cX3_readProofs 51 = .ok (.ifCond .ne 8, 3) := dk_2154 (dk_g tcX3_readProofs_4 3 rfl) (dk_g tcX3_readProofs_4 4 rfl) (dk_g tcX3_readProofs_4 5 rfl) rfl rfl
theorem dX3_readProofs_54 : decode cX3_readProofs 54 = .ok (.aload_n 0, 1) := dk_1042 (dk_g tcX3_readProofs_4 6 rfl)
theorem dX3_readProofs_55 : decode cX3_readProofs 55 = .ok (.invokevirtual 117, 3) := dk_1182 (dk_g tcX3_readProofs_4 7 rfl) (dk_g tcX3_readProofs_4 8 rfl) (dk_g tcX3_readProofs_4 9 rfl) rfl
theorem dX3_readProofs_58 : decode cX3_readProofs 58 = .ok (.ireturn, 1) := dk_1172 (dk_g tcX3_readProofs_4 10 rfl)
theorem dX3_readProofs_59 : decode cX3_readProofs 59 = .ok (.aload_n 0, 1) := dk_1042 (dk_g tcX3_readProofs_4 11 rfl)
theorem tcX3_readProofs_5 : (cX3_readProofs.data.toList.drop 60).take 12 = [44, 180, 0, 131, 16, 20, 182, 0, 99, 153, 0, 27] := by decide +kernel
theorem dX3_readProofs_60 : decode cX3_readProofs 60 = .ok (.aload_n 2, 1) := dk_1044 (dk_g tcX3_readProofs_5 0 rfl)
theorem dX3_readProofs_61 : decode cX3_readProofs 61 = .ok (.getfield 131, 3) := dk_1180 (dk_g tcX3_readProofs_5 1 rfl) (dk_g tcX3_readProofs_5 2 rfl) (dk_g tcX3_readProofs_5 3 rfl) rfl
theorem dX3_readProofs_64 : decode cX3_readProofs 64 = .ok (.bipush 20, 2) := dk_1016 (dk_g tcX3_readProofs_5 4 rfl) (dk_g tcX3_readProofs_5 5 rfl) (by decide +kernel)
theorem dX3_readProofs_66 : decode cX3_readProofs 66 = .ok (.invokevirtual 99, 3) := dk_1182 (dk_g tcX3_readProofs_5 6 rfl) (dk_g tcX3_readProofs_5 7 rfl) (dk_g tcX3_readProofs_5 8 rfl) rfl
theorem dX3_readProofs_69 : decode cX3_readProofs 69 = .ok (.ifCond .eq 27, 3) := dk_2153 (dk_g tcX3_readProofs_5 9 rfl) (dk_g tcX3_readProofs_5 10 rfl) (dk_g tcX3_readProofs_5 11 rfl) rfl rfl
theorem tcX3_readProofs_6 : (cX3_readProofs.data.toList.drop 72).take 12 = [21, 4, 153, 0, 14, 42, 44, 182, 0, 134, 153, 0] := by decide +kernel
theorem dX3_readProofs_72 : decode cX3_readProofs 72 = .ok (.iload 4, 2) := dk_1021 (dk_g tcX3_readProofs_6 0 rfl) (dk_g tcX3_readProofs_6 1 rfl) rfl
theorem dX3_readProofs_74 : decode cX3_readProofs 74 = .ok (.ifCond .eq 14, 3) := dk_2153 (dk_g tcX3_readProofs_6 2 rfl) (dk_g tcX3_readProofs_6 3 rfl) (dk_g tcX3_readProofs_6 4 rfl) rfl rfl
theorem dX3_readProofs_77 : decode cX3_readProofs 77 = .ok (.aload_n 0, 1) := dk_1042 (dk_g tcX3_readProofs_6 5 rfl)
theorem dX3_readProofs_78 : decode cX3_readProofs 78 = .ok (.aload_n 2, 1) := dk_1044 (dk_g tcX3_readProofs_6 6 rfl)
theorem dX3_readProofs_79 : decode cX3_readProofs 79 = .ok (.invokevirtual 134, 3) := dk_1182 (dk_g tcX3_readProofs_6 7 rfl) (dk_g tcX3_readProofs_6 8 rfl) (dk_g tcX3_readProofs_6 9 rfl) rfl
theorem tcX3_readProofs_7 : (cX3_readProofs.data.toList.drop 84).take 12 = [14, 167, 0, 13, 42, 44, 182, 0, 138, 154, 0, 5] := by decide +kernel
theorem dX3_readProofs_82 : decode cX3_readProofs 82 = .ok (.ifCond .eq 14, 3) := dk_2153 (dk_g tcX3_readProofs_6 10 rfl) (dk_g tcX3_readProofs_6 11 rfl) (dk_g tcX3_readProofs_7 0 rfl) rfl rfl
theorem dX3_readProofs_85 : decode cX3_readProofs 85 = .ok (.goto 13, 3) := dk_2167 (dk_g tcX3_readProofs_7 1 rfl) (dk_g tcX3_readProofs_7 2 rfl) (dk_g tcX3_readProofs_7 3 rfl) rfl rfl
theorem dX3_readProofs_88 : decode cX3_readProofs 88 = .ok (.aload_n 0, 1) := dk_1042 (dk_g tcX3_readProofs_7 4 rfl)
theorem dX3_readProofs_89 : decode cX3_readProofs 89 = .ok (.aload_n 2, 1) := dk_1044 (dk_g tcX3_readProofs_7 5 rfl)
theorem dX3_readProofs_90 : decode cX3_readProofs 90 = .ok (.invokevirtual 138, 3) := dk_1182 (dk_g tcX3_readProofs_7 6 rfl) (dk_g tcX3_readProofs_7 7 rfl) (dk_g tcX3_readProofs_7 8 rfl) rfl
theorem dX3_readProofs_93 : decode cX3_readProofs 93 = .ok (.ifCond .ne 5, 3) := dk_2154 (dk_g tcX3_readProofs_7 9 rfl) (dk_g tcX3_readProofs_7 10 rfl) (dk_g tcX3_readProofs_7 11 rfl) rfl rfl
theorem tcX3_readProofs_8 : (cX3_readProofs.data.toList.drop 96).take 12 = [3, 172, 42, 180, 0, 12, 182, 0, 63, 132, 3, 1] := by decide +kernel
theorem dX3_readProofs_96 : decode cX3_readProofs 96 = .ok (.iconst 0, 1) := dk_1003 (dk_g tcX3_readProofs_8 0 rfl)
theorem dX3_readProofs_97 : decode cX3_readProofs 97 = .ok (.ireturn, 1) := dk_1172 (dk_g tcX3_readProofs_8 1 rfl)
theorem dX3_readProofs_98 : decode cX3_readProofs 98 = .ok (.aload_n 0, 1) := dk_1042 (dk_g tcX3_readProofs_8 2 rfl)
theorem dX3_readProofs_99 : decode cX3_readProofs 99 = .ok (.getfield 12, 3) := dk_1180 (dk_g tcX3_readProofs_8 3 rfl) (dk_g tcX3_readProofs_8 4 rfl) (dk_g tcX3_readProofs_8 5 rfl) rfl
theorem dX3_readProofs_102 : decode cX3_readProofs 102 = .ok (.invokevirtual 63, 3) := dk_1182 (dk_g tcX3_readProofs_8 6 rfl) (dk_g tcX3_readProofs_8 7 rfl) (dk_g tcX3_readProofs_8 8 rfl) rfl
theorem dX3_readProofs_105 : decode cX3_readProofs 105 = .ok (.iinc 3 1, 3) := dk_1132 (dk_g tcX3_readProofs_8 9 rfl) (dk_g tcX3_readProofs_8 10 rfl) (dk_g tcX3_readProofs_8 11 rfl) rfl (by decide +kernel)
theorem tcX3_readProofs_9 : (cX3_readProofs.data.toList.drop 108).take 12 = [167, 255, 160, 4, 172] := by decide +kernel
theorem dX3_readProofs_108 : decode cX3_readProofs 108 = .ok (.goto (-96), 3) := dk_1167 (dk_g tcX3_readProofs_9 0 rfl) (dk_g tcX3_readProofs_9 1 rfl) (dk_g tcX3_readProofs_9 2 rfl) (by decide +kernel)
theorem dX3_readProofs_111 : decode cX3_readProofs 111 = .ok (.iconst 1, 1) := dk_1004 (dk_g tcX3_readProofs_9 3 rfl)
theorem dX3_readProofs_112 : decode cX3_readProofs 112 = .ok (.ireturn, 1) := dk_1172 (dk_g tcX3_readProofs_9 4 rfl)
theorem tcX3_readAdd_0 : (cX3_readAdd.data.toList.drop 0).take 12 = [42, 3, 181, 0, 43, 42, 43, 180, 0, 102, 16, 48] := by decide +kernel
theorem dX3_readAdd_0 : decode cX3_readAdd 0 = .ok (.aload_n 0, 1) := dk_1042 (dk_g tcX3_readAdd_0 0 rfl)
theorem dX3_readAdd_1 : decode cX3_readAdd 1 = .ok (.iconst 0, 1) := dk_1003 (dk_g tcX3_readAdd_0 1 rfl)
theorem dX3_readAdd_2 : decode cX3_readAdd 2 = .ok (.putfield 43, 3) := dk_1181 (dk_g tcX3_readAdd_0 2 rfl) (dk_g tcX3_readAdd_0 3 rfl) (dk_g tcX3_readAdd_0 4 rfl) rfl
theorem dX3_readAdd_5 : decode cX3_readAdd 5 = .ok (.aload_n 0, 1) := dk_1042 (dk_g tcX3_readAdd_0 5 rfl)
theorem dX3_readAdd_6 : decode cX3_readAdd 6 = .ok (.aload_n 1, 1) := dk_1043 (dk_g tcX3_readAdd_0 6 rfl)
theorem dX3_readAdd_7 : decode cX3_readAdd 7 = .ok (.getfield 102, 3) := dk_1180 (dk_g tcX3_readAdd_0 7 rfl) (dk_g tcX3_readAdd_0 8 rfl) (dk_g tcX3_readAdd_0 9 rfl) rfl
theorem dX3_readAdd_10 : decode cX3_readAdd 10 = .ok (.bipush 48, 2) := dk_1016 (dk_g tcX3_readAdd_0 10 rfl) (dk_g tcX3_readAdd_0 11 rfl) (by decide +kernel)
theorem tcX3_readAdd_1 : (cX3_readAdd.data.toList.drop 12).take 12 = [182, 0, 99, 154, 0, 5, 3, 172, 42, 180, 0, 49] := by decide +kernel
theorem dX3_readAdd_12 : decode cX3_readAdd 12 = .ok (.invokevirtual 99, 3) := dk_1182 (dk_g tcX3_readAdd_1 0 rfl) (dk_g tcX3_readAdd_1 1 rfl) (dk_g tcX3_readAdd_1 2 rfl) rfl
theorem dX3_readAdd_15 : decode cX3_readAdd 15 = .ok (.ifCond .ne 5, 3) := dk_2154 (dk_g tcX3_readAdd_1 3 rfl) (dk_g tcX3_readAdd_1 4 rfl) (dk_g tcX3_readAdd_1 5 rfl) rfl rfl
theorem dX3_readAdd_18 : decode cX3_readAdd 18 = .ok (.iconst 0, 1) := dk_1003 (dk_g tcX3_readAdd_1 6 rfl)
theorem dX3_readAdd_19 : decode cX3_readAdd 19 = .ok (.ireturn, 1) := dk_1172 (dk_g tcX3_readAdd_1 7 rfl)
theorem dX3_readAdd_20 : decode cX3_readAdd 20 = .ok (.aload_n 0, 1) := dk_1042 (dk_g tcX3_readAdd_1 8 rfl)
theorem dX3_readAdd_21 : decode cX3_readAdd 21 = .ok (.getfield 49, 3) := dk_1180 (dk_g tcX3_readAdd_1 9 rfl) (dk_g tcX3_readAdd_1 10 rfl) (dk_g tcX3_readAdd_1 11 rfl) rfl
theorem tcX3_readAdd_2 : (cX3_readAdd.data.toList.drop 24).take 12 = [182, 0, 141, 42, 180, 0, 12, 182, 0, 63, 42, 180] := by decide +kernel
theorem dX3_readAdd_24 : decode cX3_readAdd 24 = .ok (.invokevirtual 141, 3) := dk_1182 (dk_g tcX3_readAdd_2 0 rfl) (dk_g tcX3_readAdd_2 1 rfl) (dk_g tcX3_readAdd_2 2 rfl) rfl
theorem dX3_readAdd_27 : decode cX3_readAdd 27 = .ok (.aload_n 0, 1) := dk_1042 (dk_g tcX3_readAdd_2 3 rfl)
theorem dX3_readAdd_28 : decode cX3_readAdd 28 = .ok (.getfield 12, 3) := dk_1180 (dk_g tcX3_readAdd_2 4 rfl) (dk_g tcX3_readAdd_2 5 rfl) (dk_g tcX3_readAdd_2 6 rfl) rfl
theorem dX3_readAdd_31 : decode cX3_readAdd 31 = .ok (.invokevirtual 63, 3) := dk_1182 (dk_g tcX3_readAdd_2 7 rfl) (dk_g tcX3_readAdd_2 8 rfl) (dk_g tcX3_readAdd_2 9 rfl) rfl
theorem dX3_readAdd_34 : decode cX3_readAdd 34 = .ok (.aload_n 0, 1) := dk_1042 (dk_g tcX3_readAdd_2 10 rfl)
theorem tcX3_readAdd_3 : (cX3_readAdd.data.toList.drop 36).take 12 = [0, 12, 180, 0, 66, 4, 160, 0, 39, 42, 180, 0] := by decide +kernel
theorem dX3_readAdd_35 : decode cX3_readAdd 35 = .ok (.getfield 12, 3) := dk_1180 (dk_g tcX3_readAdd_2 11 rfl) (dk_g tcX3_readAdd_3 0 rfl) (dk_g tcX3_readAdd_3 1 rfl) rfl
theorem dX3_readAdd_38 : decode cX3_readAdd 38 = .ok (.getfield 66, 3) := dk_1180 (dk_g tcX3_readAdd_3 2 rfl) (dk_g tcX3_readAdd_3 3 rfl) (dk_g tcX3_readAdd_3 4 rfl) rfl
theorem dX3_readAdd_41 : decode cX3_readAdd 41 = .ok (.iconst 1, 1) := dk_1004 (dk_g tcX3_readAdd_3 5 rfl)
theorem dX3_readAdd_42 : decode cX3_readAdd 42 = .ok (.if_icmp .ne 39, 3) := dk_2160 (dk_g tcX3_readAdd_3 6 rfl) (dk_g tcX3_readAdd_3 7 rfl) (dk_g tcX3_readAdd_3 8 rfl) rfl rfl
theorem dX3_readAdd_45 : decode cX3_readAdd 45 = .ok (.aload_n 0, 1) := dk_1042 (dk_g tcX3_readAdd_3 9 rfl)
theorem tcX3_readAdd_4 : (cX3_readAdd.data.toList.drop 48).take 12 = [12, 180, 0, 144, 16, 8, 164, 0, 9, 42, 7, 182] := by decide +kernel
theorem dX3_readAdd_46 : decode cX3_readAdd 46 = .ok (.getfield 12, 3) := dk_1180 (dk_g tcX3_readAdd_3 10 rfl) (dk_g tcX3_readAdd_3 11 rfl) (dk_g tcX3_readAdd_4 0 rfl) rfl
theorem dX3_readAdd_49 : decode cX3_readAdd 49 = .ok (.getfield 144, 3) := dk_1180 (dk_g tcX3_readAdd_4 1 rfl) (dk_g tcX3_readAdd_4 2 rfl) (dk_g tcX3_readAdd_4 3 rfl) rfl
theorem dX3_readAdd_52 : decode cX3_readAdd 52 = .ok (.bipush 8, 2) := dk_1016 (dk_g tcX3_readAdd_4 4 rfl) (dk_g tcX3_readAdd_4 5 rfl) (by decide +kernel)
theorem dX3_readAdd_54 : decode cX3_readAdd 54 = .ok (.if_icmp .le 9, 3) := dk_2164 (dk_g tcX3_readAdd_4 6 rfl) (dk_g tcX3_readAdd_4 7 rfl) (dk_g tcX3_readAdd_4 8 rfl) rfl rfl
theorem dX3_readAdd_57 : decode cX3_readAdd 57 = .ok (.aload_n 0, 1) := dk_1042 (dk_g tcX3_readAdd_4 9 rfl)
theorem dX3_readAdd_58 : decode cX3_readAdd 58 = .ok (.iconst 4, 1) := dk_1007 (dk_g tcX3_readAdd_4 10 rfl)
theorem tcX3_readAdd_5 : (cX3_readAdd.data.toList.drop 60).take 12 = [0, 145, 172, 42, 180, 0, 12, 42, 180, 0, 49, 182] := by decide +kernel
theorem dX3_readAdd_59 : decode cX3_readAdd 59 = .ok (.invokevirtual 145, 3) := dk_1182 (dk_g tcX3_readAdd_4 11 rfl) (dk_g tcX3_readAdd_5 0 rfl) (dk_g tcX3_readAdd_5 1 rfl) rfl
theorem dX3_readAdd_62 : decode cX3_readAdd 62 = .ok (.ireturn, 1) := dk_1172 (dk_g tcX3_readAdd_5 2 rfl)
theorem dX3_readAdd_63 : decode cX3_readAdd 63 = .ok (.aload_n 0, 1) := dk_1042 (dk_g tcX3_readAdd_5 3 rfl)
theorem dX3_readAdd_64 : decode cX3_readAdd 64 = .ok (.getfield 12, 3) := dk_1180 (dk_g tcX3_readAdd_5 4 rfl) (dk_g tcX3_readAdd_5 5 rfl) (dk_g tcX3_readAdd_5 6 rfl) rfl
theorem dX3_readAdd_67 : decode cX3_readAdd 67 = .ok (.aload_n 0, 1) := dk_1042 (dk_g tcX3_readAdd_5 7 rfl)
theorem dX3_readAdd_68 : decode cX3_readAdd 68 = .ok (.getfield 49, 3) := dk_1180 (dk_g tcX3_readAdd_5 8 rfl) (dk_g tcX3_readAdd_5 9 rfl) (dk_g tcX3_readAdd_5 10 rfl) rfl
theorem tcX3_readAdd_6 : (cX3_readAdd.data.toList.drop 72).take 12 = [0, 149, 42, 180, 0, 12, 182, 0, 63, 42, 180, 0] := by decide +kernel
theorem dX3_readAdd_71 : decode cX3_readAdd 71 = .ok (.invokevirtual 149, 3) := dk_1182 (dk_g tcX3_readAdd_5 11 rfl) (dk_g tcX3_readAdd_6 0 rfl) (dk_g tcX3_readAdd_6 1 rfl) rfl
theorem dX3_readAdd_74 : decode cX3_readAdd 74 = .ok (.aload_n 0, 1) := dk_1042 (dk_g tcX3_readAdd_6 2 rfl)
theorem dX3_readAdd_75 : decode cX3_readAdd 75 = .ok (.getfield 12, 3) := dk_1180 (dk_g tcX3_readAdd_6 3 rfl) (dk_g tcX3_readAdd_6 4 rfl) (dk_g tcX3_readAdd_6 5 rfl) rfl
theorem dX3_readAdd_78 : decode cX3_readAdd 78 = .ok (.invokevirtual 63, 3) := dk_1182 (dk_g tcX3_readAdd_6 6 rfl) (dk_g tcX3_readAdd_6 7 rfl) (dk_g tcX3_readAdd_6 8 rfl) rfl
theorem dX3_readAdd_81 : decode cX3_readAdd 81 = .ok (.aload_n 0, 1) := dk_1042 (dk_g tcX3_readAdd_6 9 rfl)
theorem tcX3_readAdd_7 : (cX3_readAdd.data.toList.drop 84).take 12 = [12, 180, 0, 66, 6, 159, 0, 10, 42, 182, 0, 117] := by decide +kernel
theorem dX3_readAdd_82 : decode cX3_readAdd 82 = .ok (.getfield 12, 3) := dk_1180 (dk_g tcX3_readAdd_6 10 rfl) (dk_g tcX3_readAdd_6 11 rfl) (dk_g tcX3_readAdd_7 0 rfl) rfl
theorem dX3_readAdd_85 : decode cX3_readAdd 85 = .ok (.getfield 66, 3) := dk_1180 (dk_g tcX3_readAdd_7 1 rfl) (dk_g tcX3_readAdd_7 2 rfl) (dk_g tcX3_readAdd_7 3 rfl) rfl
theorem dX3_readAdd_88 : decode cX3_readAdd 88 = .ok (.iconst 3, 1) := dk_1006 (dk_g tcX3_readAdd_7 4 rfl)
theorem dX3_readAdd_89 : decode cX3_readAdd 89 = .ok (.if_icmp .eq 10, 3) := dk_2159 (dk_g tcX3_readAdd_7 5 rfl) (dk_g tcX3_readAdd_7 6 rfl) (dk_g tcX3_readAdd_7 7 rfl) rfl rfl
theorem dX3_readAdd_92 : decode cX3_readAdd 92 = .ok (.aload_n 0, 1) := dk_1042 (dk_g tcX3_readAdd_7 8 rfl)
theorem dX3_readAdd_93 : decode cX3_readAdd 93 = .ok (.invokevirtual 117, 3) := dk_1182 (dk_g tcX3_readAdd_7 9 rfl) (dk_g tcX3_readAdd_7 10 rfl) (dk_g tcX3_readAdd_7 11 rfl) rfl
theorem tcX3_readAdd_8 : (cX3_readAdd.data.toList.drop 96).take 12 = [153, 0, 7, 4, 167, 0, 4, 3, 172] := by decide +kernel
theorem dX3_readAdd_96 : decode cX3_readAdd 96 = .ok (.ifCond .eq 7, 3) := dk_2153 (dk_g tcX3_readAdd_8 0 rfl) (dk_g tcX3_readAdd_8 1 rfl) (dk_g tcX3_readAdd_8 2 rfl) rfl rfl
theorem dX3_readAdd_99 : decode cX3_readAdd 99 = .ok (.iconst 1, 1) := dk_1004 (dk_g tcX3_readAdd_8 3 rfl)
theorem dX3_readAdd_100 : decode cX3_readAdd 100 = .ok (.goto 4, 3) := dk_2167 (dk_g tcX3_readAdd_8 4 rfl) (dk_g tcX3_readAdd_8 5 rfl) (dk_g tcX3_readAdd_8 6 rfl) rfl rfl
theorem dX3_readAdd_103 : decode cX3_readAdd 103 = .ok (.iconst 0, 1) := dk_1003 (dk_g tcX3_readAdd_8 7 rfl)
theorem dX3_readAdd_104 : decode cX3_readAdd 104 = .ok (.ireturn, 1) := dk_1172 (dk_g tcX3_readAdd_8 8 rfl)
theorem tcX3_readShow_0 : (cX3_readShow.data.toList.drop 0).take 12 = [42, 7, 181, 0, 43, 42, 3, 6, 182, 0, 75, 154] := by decide +kernel
theorem dX3_readShow_0 : decode cX3_readShow 0 = .ok (.aload_n 0, 1) := dk_1042 (dk_g tcX3_readShow_0 0 rfl)
theorem dX3_readShow_1 : decode cX3_readShow 1 = .ok (.iconst 4, 1) := dk_1007 (dk_g tcX3_readShow_0 1 rfl)
theorem dX3_readShow_2 : decode cX3_readShow 2 = .ok (.putfield 43, 3) := dk_1181 (dk_g tcX3_readShow_0 2 rfl) (dk_g tcX3_readShow_0 3 rfl) (dk_g tcX3_readShow_0 4 rfl) rfl
theorem dX3_readShow_5 : decode cX3_readShow 5 = .ok (.aload_n 0, 1) := dk_1042 (dk_g tcX3_readShow_0 5 rfl)
theorem dX3_readShow_6 : decode cX3_readShow 6 = .ok (.iconst 0, 1) := dk_1003 (dk_g tcX3_readShow_0 6 rfl)
theorem dX3_readShow_7 : decode cX3_readShow 7 = .ok (.iconst 3, 1) := dk_1006 (dk_g tcX3_readShow_0 7 rfl)
theorem dX3_readShow_8 : decode cX3_readShow 8 = .ok (.invokevirtual 75, 3) := dk_1182 (dk_g tcX3_readShow_0 8 rfl) (dk_g tcX3_readShow_0 9 rfl) (dk_g tcX3_readShow_0 10 rfl) rfl
theorem tcX3_readShow_1 : (cX3_readShow.data.toList.drop 12).take 12 = [0, 5, 3, 172, 42, 42, 180, 0, 56, 181, 0, 53] := by decide +kernel
theorem dX3_readShow_11 : decode cX3_readShow 11 = .ok (.ifCond .ne 5, 3) := dk_2154 (dk_g tcX3_readShow_0 11 rfl) (dk_g tcX3_readShow_1 0 rfl) (dk_g tcX3_readShow_1 1 rfl) rfl rfl
theorem dX3_readShow_14 : decode cX3_readShow 14 = .ok (.iconst 0, 1) := dk_1003 (dk_g tcX3_readShow_1 2 rfl)
theorem dX3_readShow_15 : decode cX3_readShow 15 = .ok (.ireturn, 1) := dk_1172 (dk_g tcX3_readShow_1 3 rfl)
theorem dX3_readShow_16 : decode cX3_readShow 16 = .ok (.aload_n 0, 1) := dk_1042 (dk_g tcX3_readShow_1 4 rfl)
theorem dX3_readShow_17 : decode cX3_readShow 17 = .ok (.aload_n 0, 1) := dk_1042 (dk_g tcX3_readShow_1 5 rfl)
theorem dX3_readShow_18 : decode cX3_readShow 18 = .ok (.getfield 56, 3) := dk_1180 (dk_g tcX3_readShow_1 6 rfl) (dk_g tcX3_readShow_1 7 rfl) (dk_g tcX3_readShow_1 8 rfl) rfl
theorem dX3_readShow_21 : decode cX3_readShow 21 = .ok (.putfield 53, 3) := dk_1181 (dk_g tcX3_readShow_1 9 rfl) (dk_g tcX3_readShow_1 10 rfl) (dk_g tcX3_readShow_1 11 rfl) rfl
theorem tcX3_readShow_2 : (cX3_readShow.data.toList.drop 24).take 12 = [42, 3, 43, 180, 0, 102, 182, 0, 75, 153, 0, 14] := by decide +kernel
theorem dX3_readShow_24 : decode cX3_readShow 24 = .ok (.aload_n 0, 1) := dk_1042 (dk_g tcX3_readShow_2 0 rfl)
theorem dX3_readShow_25 : decode cX3_readShow 25 = .ok (.iconst 0, 1) := dk_1003 (dk_g tcX3_readShow_2 1 rfl)
theorem dX3_readShow_26 : decode cX3_readShow 26 = .ok (.aload_n 1, 1) := dk_1043 (dk_g tcX3_readShow_2 2 rfl)
theorem dX3_readShow_27 : decode cX3_readShow 27 = .ok (.getfield 102, 3) := dk_1180 (dk_g tcX3_readShow_2 3 rfl) (dk_g tcX3_readShow_2 4 rfl) (dk_g tcX3_readShow_2 5 rfl) rfl
theorem dX3_readShow_30 : decode cX3_readShow 30 = .ok (.invokevirtual 75, 3) := dk_1182 (dk_g tcX3_readShow_2 6 rfl) (dk_g tcX3_readShow_2 7 rfl) (dk_g tcX3_readShow_2 8 rfl) rfl
theorem dX3_readShow_33 : decode cX3_readShow 33 = .ok (.ifCond .eq 14, 3) := dk_2153 (dk_g tcX3_readShow_2 9 rfl) (dk_g tcX3_readShow_2 10 rfl) (dk_g tcX3_readShow_2 11 rfl) rfl rfl
theorem tcX3_readShow_3 : (cX3_readShow.data.toList.drop 36).take 12 = [42, 182, 0, 79, 153, 0, 7, 4, 167, 0, 4, 3] := by decide +kernel
theorem dX3_readShow_36 : decode cX3_readShow 36 = .ok (.aload_n 0, 1) := dk_1042 (dk_g tcX3_readShow_3 0 rfl)
theorem dX3_readShow_37 : decode cX3_readShow 37 = .ok (.invokevirtual 79, 3) := dk_1182 (dk_g tcX3_readShow_3 1 rfl) (dk_g tcX3_readShow_3 2 rfl) (dk_g tcX3_readShow_3 3 rfl) rfl
theorem dX3_readShow_40 : decode cX3_readShow 40 = .ok (.ifCond .eq 7, 3) := dk_2153 (dk_g tcX3_readShow_3 4 rfl) (dk_g tcX3_readShow_3 5 rfl) (dk_g tcX3_readShow_3 6 rfl) rfl rfl
theorem dX3_readShow_43 : decode cX3_readShow 43 = .ok (.iconst 1, 1) := dk_1004 (dk_g tcX3_readShow_3 7 rfl)
theorem dX3_readShow_44 : decode cX3_readShow 44 = .ok (.goto 4, 3) := dk_2167 (dk_g tcX3_readShow_3 8 rfl) (dk_g tcX3_readShow_3 9 rfl) (dk_g tcX3_readShow_3 10 rfl) rfl rfl
theorem dX3_readShow_47 : decode cX3_readShow 47 = .ok (.iconst 0, 1) := dk_1003 (dk_g tcX3_readShow_3 11 rfl)
theorem tcX3_readShow_4 : (cX3_readShow.data.toList.drop 48).take 12 = [172] := by decide +kernel
theorem dX3_readShow_48 : decode cX3_readShow 48 = .ok (.ireturn, 1) := dk_1172 (dk_g tcX3_readShow_4 0 rfl)
theorem tcX3_readInclusion_0 : (cX3_readInclusion.data.toList.drop 0).take 12 = [42, 3, 18, 155, 182, 0, 75, 154, 0, 5, 3, 172] := by decide +kernel
theorem dX3_readInclusion_0 : decode cX3_readInclusion 0 = .ok (.aload_n 0, 1) := dk_1042 (dk_g tcX3_readInclusion_0 0 rfl)
theorem dX3_readInclusion_1 : decode cX3_readInclusion 1 = .ok (.iconst 0, 1) := dk_1003 (dk_g tcX3_readInclusion_0 1 rfl)
theorem dX3_readInclusion_2 : decode cX3_readInclusion 2 = .ok (.ldc 155, 2) := dk_1018 (dk_g tcX3_readInclusion_0 2 rfl) (dk_g tcX3_readInclusion_0 3 rfl) rfl
theorem dX3_readInclusion_4 : decode cX3_readInclusion 4 = .ok (.invokevirtual 75, 3) := dk_1182 (dk_g tcX3_readInclusion_0 4 rfl) (dk_g tcX3_readInclusion_0 5 rfl) (dk_g tcX3_readInclusion_0 6 rfl) rfl
theorem dX3_readInclusion_7 : decode cX3_readInclusion 7 = .ok (.ifCond .ne 5, 3) := dk_2154 (dk_g tcX3_readInclusion_0 7 rfl) (dk_g tcX3_readInclusion_0 8 rfl) (dk_g tcX3_readInclusion_0 9 rfl) rfl rfl
theorem dX3_readInclusion_10 : decode cX3_readInclusion 10 = .ok (.iconst 0, 1) := dk_1003 (dk_g tcX3_readInclusion_0 10 rfl)
theorem dX3_readInclusion_11 : decode cX3_readInclusion 11 = .ok (.ireturn, 1) := dk_1172 (dk_g tcX3_readInclusion_0 11 rfl)
theorem tcX3_readInclusion_1 : (cX3_readInclusion.data.toList.drop 12).take 12 = [42, 180, 0, 56, 61, 42, 18, 156, 182, 0, 158, 153] := by decide +kernel
theorem dX3_readInclusion_12 : decode cX3_readInclusion 12 = .ok (.aload_n 0, 1) := dk_1042 (dk_g tcX3_readInclusion_1 0 rfl)
theorem dX3_readInclusion_13 : decode cX3_readInclusion 13 = .ok (.getfield 56, 3) := dk_1180 (dk_g tcX3_readInclusion_1 1 rfl) (dk_g tcX3_readInclusion_1 2 rfl) (dk_g tcX3_readInclusion_1 3 rfl) rfl
theorem dX3_readInclusion_16 : decode cX3_readInclusion 16 = .ok (.istore_n 2, 1) := dk_1061 (dk_g tcX3_readInclusion_1 4 rfl)
theorem dX3_readInclusion_17 : decode cX3_readInclusion 17 = .ok (.aload_n 0, 1) := dk_1042 (dk_g tcX3_readInclusion_1 5 rfl)
theorem dX3_readInclusion_18 : decode cX3_readInclusion 18 = .ok (.ldc 156, 2) := dk_1018 (dk_g tcX3_readInclusion_1 6 rfl) (dk_g tcX3_readInclusion_1 7 rfl) rfl
theorem dX3_readInclusion_20 : decode cX3_readInclusion 20 = .ok (.invokevirtual 158, 3) := dk_1182 (dk_g tcX3_readInclusion_1 8 rfl) (dk_g tcX3_readInclusion_1 9 rfl) (dk_g tcX3_readInclusion_1 10 rfl) rfl
theorem tcX3_readInclusion_2 : (cX3_readInclusion.data.toList.drop 24).take 12 = [0, 15, 42, 28, 4, 96, 18, 155, 182, 0, 75, 154] := by decide +kernel
theorem dX3_readInclusion_23 : decode cX3_readInclusion 23 = .ok (.ifCond .eq 15, 3) := dk_2153 (dk_g tcX3_readInclusion_1 11 rfl) (dk_g tcX3_readInclusion_2 0 rfl) (dk_g tcX3_readInclusion_2 1 rfl) rfl rfl
theorem dX3_readInclusion_26 : decode cX3_readInclusion 26 = .ok (.aload_n 0, 1) := dk_1042 (dk_g tcX3_readInclusion_2 2 rfl)
theorem dX3_readInclusion_27 : decode cX3_readInclusion 27 = .ok (.iload_n 2, 1) := dk_1028 (dk_g tcX3_readInclusion_2 3 rfl)
theorem dX3_readInclusion_28 : decode cX3_readInclusion 28 = .ok (.iconst 1, 1) := dk_1004 (dk_g tcX3_readInclusion_2 4 rfl)
theorem dX3_readInclusion_29 : decode cX3_readInclusion 29 = .ok (.iadd, 1) := dk_1096 (dk_g tcX3_readInclusion_2 5 rfl)
theorem dX3_readInclusion_30 : decode cX3_readInclusion 30 = .ok (.ldc 155, 2) := dk_1018 (dk_g tcX3_readInclusion_2 6 rfl) (dk_g tcX3_readInclusion_2 7 rfl) rfl
theorem dX3_readInclusion_32 : decode cX3_readInclusion 32 = .ok (.invokevirtual 75, 3) := dk_1182 (dk_g tcX3_readInclusion_2 8 rfl) (dk_g tcX3_readInclusion_2 9 rfl) (dk_g tcX3_readInclusion_2 10 rfl) rfl
theorem tcX3_readInclusion_3 : (cX3_readInclusion.data.toList.drop 36).take 12 = [0, 5, 3, 172, 42, 180, 0, 56, 62, 42, 18, 161] := by decide +kernel
theorem dX3_readInclusion_35 : decode cX3_readInclusion 35 = .ok (.ifCond .ne 5, 3) := dk_2154 (dk_g tcX3_readInclusion_2 11 rfl) (dk_g tcX3_readInclusion_3 0 rfl) (dk_g tcX3_readInclusion_3 1 rfl) rfl rfl
theorem dX3_readInclusion_38 : decode cX3_readInclusion 38 = .ok (.iconst 0, 1) := dk_1003 (dk_g tcX3_readInclusion_3 2 rfl)
theorem dX3_readInclusion_39 : decode cX3_readInclusion 39 = .ok (.ireturn, 1) := dk_1172 (dk_g tcX3_readInclusion_3 3 rfl)
theorem dX3_readInclusion_40 : decode cX3_readInclusion 40 = .ok (.aload_n 0, 1) := dk_1042 (dk_g tcX3_readInclusion_3 4 rfl)
theorem dX3_readInclusion_41 : decode cX3_readInclusion 41 = .ok (.getfield 56, 3) := dk_1180 (dk_g tcX3_readInclusion_3 5 rfl) (dk_g tcX3_readInclusion_3 6 rfl) (dk_g tcX3_readInclusion_3 7 rfl) rfl
theorem dX3_readInclusion_44 : decode cX3_readInclusion 44 = .ok (.istore_n 3, 1) := dk_1062 (dk_g tcX3_readInclusion_3 8 rfl)
theorem dX3_readInclusion_45 : decode cX3_readInclusion 45 = .ok (.aload_n 0, 1) := dk_1042 (dk_g tcX3_readInclusion_3 9 rfl)
theorem dX3_readInclusion_46 : decode cX3_readInclusion 46 = .ok (.ldc 161, 2) := dk_1018 (dk_g tcX3_readInclusion_3 10 rfl) (dk_g tcX3_readInclusion_3 11 rfl) rfl
theorem tcX3_readInclusion_4 : (cX3_readInclusion.data.toList.drop 48).take 12 = [182, 0, 163, 154, 0, 5, 3, 172, 42, 180, 0, 56] := by decide +kernel
theorem dX3_readInclusion_48 : decode cX3_readInclusion 48 = .ok (.invokevirtual 163, 3) := dk_1182 (dk_g tcX3_readInclusion_4 0 rfl) (dk_g tcX3_readInclusion_4 1 rfl) (dk_g tcX3_readInclusion_4 2 rfl) rfl
theorem dX3_readInclusion_51 : decode cX3_readInclusion 51 = .ok (.ifCond .ne 5, 3) := dk_2154 (dk_g tcX3_readInclusion_4 3 rfl) (dk_g tcX3_readInclusion_4 4 rfl) (dk_g tcX3_readInclusion_4 5 rfl) rfl rfl
theorem dX3_readInclusion_54 : decode cX3_readInclusion 54 = .ok (.iconst 0, 1) := dk_1003 (dk_g tcX3_readInclusion_4 6 rfl)
theorem dX3_readInclusion_55 : decode cX3_readInclusion 55 = .ok (.ireturn, 1) := dk_1172 (dk_g tcX3_readInclusion_4 7 rfl)
theorem dX3_readInclusion_56 : decode cX3_readInclusion 56 = .ok (.aload_n 0, 1) := dk_1042 (dk_g tcX3_readInclusion_4 8 rfl)
theorem dX3_readInclusion_57 : decode cX3_readInclusion 57 = .ok (.getfield 56, 3) := dk_1180 (dk_g tcX3_readInclusion_4 9 rfl) (dk_g tcX3_readInclusion_4 10 rfl) (dk_g tcX3_readInclusion_4 11 rfl) rfl
theorem tcX3_readInclusion_5 : (cX3_readInclusion.data.toList.drop 60).take 12 = [54, 4, 42, 18, 166, 182, 0, 163, 153, 0, 10, 42] := by decide +kernel
theorem dX3_readInclusion_60 : decode cX3_readInclusion 60 = .ok (.istore 4, 2) := dk_1054 (dk_g tcX3_readInclusion_5 0 rfl) (dk_g tcX3_readInclusion_5 1 rfl) rfl
theorem dX3_readInclusion_62 : decode cX3_readInclusion 62 = .ok (.aload_n 0, 1) := dk_1042 (dk_g tcX3_readInclusion_5 2 rfl)
theorem dX3_readInclusion_63 : decode cX3_readInclusion 63 = .ok (.ldc 166, 2) := dk_1018 (dk_g tcX3_readInclusion_5 3 rfl) (dk_g tcX3_readInclusion_5 4 rfl) rfl
theorem dX3_readInclusion_65 : decode cX3_readInclusion 65 = .ok (.invokevirtual 163, 3) := dk_1182 (dk_g tcX3_readInclusion_5 5 rfl) (dk_g tcX3_readInclusion_5 6 rfl) (dk_g tcX3_readInclusion_5 7 rfl) rfl
theorem dX3_readInclusion_68 : decode cX3_readInclusion 68 = .ok (.ifCond .eq 10, 3) := dk_2153 (dk_g tcX3_readInclusion_5 8 rfl) (dk_g tcX3_readInclusion_5 9 rfl) (dk_g tcX3_readInclusion_5 10 rfl) rfl rfl
theorem dX3_readInclusion_71 : decode cX3_readInclusion 71 = .ok (.aload_n 0, 1) := dk_1042 (dk_g tcX3_readInclusion_5 11 rfl)
theorem tcX3_readInclusion_6 : (cX3_readInclusion.data.toList.drop 72).take 12 = [182, 0, 168, 154, 0, 5, 3, 172, 42, 180, 0, 28] := by decide +kernel
theorem dX3_readInclusion_72 : decode cX3_readInclusion 72 = .ok (.invokevirtual 168, 3) := dk_1182 (dk_g tcX3_readInclusion_6 0 rfl) (dk_g tcX3_readInclusion_6 1 rfl) (dk_g tcX3_readInclusion_6 2 rfl) rfl
theorem dX3_readInclusion_75 : decode cX3_readInclusion 75 = .ok (.ifCond .ne 5, 3) := dk_2154 (dk_g tcX3_readInclusion_6 3 rfl) (dk_g tcX3_readInclusion_6 4 rfl) (dk_g tcX3_readInclusion_6 5 rfl) rfl rfl
theorem dX3_readInclusion_78 : decode cX3_readInclusion 78 = .ok (.iconst 0, 1) := dk_1003 (dk_g tcX3_readInclusion_6 6 rfl)
theorem dX3_readInclusion_79 : decode cX3_readInclusion 79 = .ok (.ireturn, 1) := dk_1172 (dk_g tcX3_readInclusion_6 7 rfl)
theorem dX3_readInclusion_80 : decode cX3_readInclusion 80 = .ok (.aload_n 0, 1) := dk_1042 (dk_g tcX3_readInclusion_6 8 rfl)
theorem dX3_readInclusion_81 : decode cX3_readInclusion 81 = .ok (.getfield 28, 3) := dk_1180 (dk_g tcX3_readInclusion_6 9 rfl) (dk_g tcX3_readInclusion_6 10 rfl) (dk_g tcX3_readInclusion_6 11 rfl) rfl
theorem tcX3_readInclusion_7 : (cX3_readInclusion.data.toList.drop 84).take 12 = [28, 29, 182, 0, 171, 43, 42, 180, 0, 28, 42, 180] := by decide +kernel
theorem dX3_readInclusion_84 : decode cX3_readInclusion 84 = .ok (.iload_n 2, 1) := dk_1028 (dk_g tcX3_readInclusion_7 0 rfl)
theorem dX3_readInclusion_85 : decode cX3_readInclusion 85 = .ok (.iload_n 3, 1) := dk_1029 (dk_g tcX3_readInclusion_7 1 rfl)
theorem dX3_readInclusion_86 : decode cX3_readInclusion 86 = .ok (.invokevirtual 171, 3) := dk_1182 (dk_g tcX3_readInclusion_7 2 rfl) (dk_g tcX3_readInclusion_7 3 rfl) (dk_g tcX3_readInclusion_7 4 rfl) rfl
theorem dX3_readInclusion_89 : decode cX3_readInclusion 89 = .ok (.aload_n 1, 1) := dk_1043 (dk_g tcX3_readInclusion_7 5 rfl)
theorem dX3_readInclusion_90 : decode cX3_readInclusion 90 = .ok (.aload_n 0, 1) := dk_1042 (dk_g tcX3_readInclusion_7 6 rfl)
theorem dX3_readInclusion_91 : decode cX3_readInclusion 91 = .ok (.getfield 28, 3) := dk_1180 (dk_g tcX3_readInclusion_7 7 rfl) (dk_g tcX3_readInclusion_7 8 rfl) (dk_g tcX3_readInclusion_7 9 rfl) rfl
theorem dX3_readInclusion_94 : decode cX3_readInclusion 94 = .ok (.aload_n 0, 1) := dk_1042 (dk_g tcX3_readInclusion_7 10 rfl)
theorem tcX3_readInclusion_8 : (cX3_readInclusion.data.toList.drop 96).take 12 = [0, 33, 42, 180, 0, 21, 21, 4, 42, 180, 0, 56] := by decide +kernel
theorem dX3_readInclusion_95 : decode cX3_readInclusion 95 = .ok (.getfield 33, 3) := dk_1180 (dk_g tcX3_readInclusion_7 11 rfl) (dk_g tcX3_readInclusion_8 0 rfl) (dk_g tcX3_readInclusion_8 1 rfl) rfl
theorem dX3_readInclusion_98 : decode cX3_readInclusion 98 = .ok (.aload_n 0, 1) := dk_1042 (dk_g tcX3_readInclusion_8 2 rfl)
theorem dX3_readInclusion_99 : decode cX3_readInclusion 99 = .ok (.getfield 21, 3) := dk_1180 (dk_g tcX3_readInclusion_8 3 rfl) (dk_g tcX3_readInclusion_8 4 rfl) (dk_g tcX3_readInclusion_8 5 rfl) rfl
theorem dX3_readInclusion_102 : decode cX3_readInclusion 102 = .ok (.iload 4, 2) := dk_1021 (dk_g tcX3_readInclusion_8 6 rfl) (dk_g tcX3_readInclusion_8 7 rfl) rfl
theorem dX3_readInclusion_104 : decode cX3_readInclusion 104 = .ok (.aload_n 0, 1) := dk_1042 (dk_g tcX3_readInclusion_8 8 rfl)
theorem dX3_readInclusion_105 : decode cX3_readInclusion 105 = .ok (.getfield 56, 3) := dk_1180 (dk_g tcX3_readInclusion_8 9 rfl) (dk_g tcX3_readInclusion_8 10 rfl) (dk_g tcX3_readInclusion_8 11 rfl) rfl
theorem tcX3_readInclusion_9 : (cX3_readInclusion.data.toList.drop 108).take 12 = [182, 0, 175, 182, 0, 179, 4, 172] := by decide +kernel
theorem dX3_readInclusion_108 : decode cX3_readInclusion 108 = .ok (.invokevirtual 175, 3) := dk_1182 (dk_g tcX3_readInclusion_9 0 rfl) (dk_g tcX3_readInclusion_9 1 rfl) (dk_g tcX3_readInclusion_9 2 rfl) rfl
theorem dX3_readInclusion_111 : decode cX3_readInclusion 111 = .ok (.invokevirtual 179, 3) := dk_1182 (dk_g tcX3_readInclusion_9 3 rfl) (dk_g tcX3_readInclusion_9 4 rfl) (dk_g tcX3_readInclusion_9 5 rfl) rfl
theorem dX3_readInclusion_114 : decode cX3_readInclusion 114 = .ok (.iconst 1, 1) := dk_1004 (dk_g tcX3_readInclusion_9 6 rfl)
theorem dX3_readInclusion_115 : decode cX3_readInclusion 115 = .ok (.ireturn, 1) := dk_1172 (dk_g tcX3_readInclusion_9 7 rfl)
theorem tcX3_readGrowth_0 : (cX3_readGrowth.data.toList.drop 0).take 12 = [42, 3, 18, 155, 182, 0, 75, 154, 0, 5, 3, 172] := by decide +kernel
theorem dX3_readGrowth_0 : decode cX3_readGrowth 0 = .ok (.aload_n 0, 1) := dk_1042 (dk_g tcX3_readGrowth_0 0 rfl)
theorem dX3_readGrowth_1 : decode cX3_readGrowth 1 = .ok (.iconst 0, 1) := dk_1003 (dk_g tcX3_readGrowth_0 1 rfl)
theorem dX3_readGrowth_2 : decode cX3_readGrowth 2 = .ok (.ldc 155, 2) := dk_1018 (dk_g tcX3_readGrowth_0 2 rfl) (dk_g tcX3_readGrowth_0 3 rfl) rfl
theorem dX3_readGrowth_4 : decode cX3_readGrowth 4 = .ok (.invokevirtual 75, 3) := dk_1182 (dk_g tcX3_readGrowth_0 4 rfl) (dk_g tcX3_readGrowth_0 5 rfl) (dk_g tcX3_readGrowth_0 6 rfl) rfl
theorem dX3_readGrowth_7 : decode cX3_readGrowth 7 = .ok (.ifCond .ne 5, 3) := dk_2154 (dk_g tcX3_readGrowth_0 7 rfl) (dk_g tcX3_readGrowth_0 8 rfl) (dk_g tcX3_readGrowth_0 9 rfl) rfl rfl
theorem dX3_readGrowth_10 : decode cX3_readGrowth 10 = .ok (.iconst 0, 1) := dk_1003 (dk_g tcX3_readGrowth_0 10 rfl)
theorem dX3_readGrowth_11 : decode cX3_readGrowth 11 = .ok (.ireturn, 1) := dk_1172 (dk_g tcX3_readGrowth_0 11 rfl)
theorem tcX3_readGrowth_1 : (cX3_readGrowth.data.toList.drop 12).take 12 = [42, 180, 0, 56, 61, 42, 18, 161, 182, 0, 163, 154] := by decide +kernel
theorem dX3_readGrowth_12 : decode cX3_readGrowth 12 = .ok (.aload_n 0, 1) := dk_1042 (dk_g tcX3_readGrowth_1 0 rfl)
theorem dX3_readGrowth_13 : decode cX3_readGrowth 13 = .ok (.getfield 56, 3) := dk_1180 (dk_g tcX3_readGrowth_1 1 rfl) (dk_g tcX3_readGrowth_1 2 rfl) (dk_g tcX3_readGrowth_1 3 rfl) rfl
theorem dX3_readGrowth_16 : decode cX3_readGrowth 16 = .ok (.istore_n 2, 1) := dk_1061 (dk_g tcX3_readGrowth_1 4 rfl)
theorem dX3_readGrowth_17 : decode cX3_readGrowth 17 = .ok (.aload_n 0, 1) := dk_1042 (dk_g tcX3_readGrowth_1 5 rfl)
theorem dX3_readGrowth_18 : decode cX3_readGrowth 18 = .ok (.ldc 161, 2) := dk_1018 (dk_g tcX3_readGrowth_1 6 rfl) (dk_g tcX3_readGrowth_1 7 rfl) rfl
theorem dX3_readGrowth_20 : decode cX3_readGrowth 20 = .ok (.invokevirtual 163, 3) := dk_1182 (dk_g tcX3_readGrowth_1 8 rfl) (dk_g tcX3_readGrowth_1 9 rfl) (dk_g tcX3_readGrowth_1 10 rfl) rfl
theorem tcX3_readGrowth_2 : (cX3_readGrowth.data.toList.drop 24).take 12 = [0, 5, 3, 172, 42, 180, 0, 56, 62, 42, 18, 92] := by decide +kernel
theorem dX3_readGrowth_23 : decode cX3_readGrowth 23 = .ok (.ifCond .ne 5, 3) := dk_2154 (dk_g tcX3_readGrowth_1 11 rfl) (dk_g tcX3_readGrowth_2 0 rfl) (dk_g tcX3_readGrowth_2 1 rfl) rfl rfl
theorem dX3_readGrowth_26 : decode cX3_readGrowth 26 = .ok (.iconst 0, 1) := dk_1003 (dk_g tcX3_readGrowth_2 2 rfl)
theorem dX3_readGrowth_27 : decode cX3_readGrowth 27 = .ok (.ireturn, 1) := dk_1172 (dk_g tcX3_readGrowth_2 3 rfl)
theorem dX3_readGrowth_28 : decode cX3_readGrowth 28 = .ok (.aload_n 0, 1) := dk_1042 (dk_g tcX3_readGrowth_2 4 rfl)
theorem dX3_readGrowth_29 : decode cX3_readGrowth 29 = .ok (.getfield 56, 3) := dk_1180 (dk_g tcX3_readGrowth_2 5 rfl) (dk_g tcX3_readGrowth_2 6 rfl) (dk_g tcX3_readGrowth_2 7 rfl) rfl
theorem dX3_readGrowth_32 : decode cX3_readGrowth 32 = .ok (.istore_n 3, 1) := dk_1062 (dk_g tcX3_readGrowth_2 8 rfl)
theorem dX3_readGrowth_33 : decode cX3_readGrowth 33 = .ok (.aload_n 0, 1) := dk_1042 (dk_g tcX3_readGrowth_2 9 rfl)
theorem dX3_readGrowth_34 : decode cX3_readGrowth 34 = .ok (.ldc 92, 2) := dk_1018 (dk_g tcX3_readGrowth_2 10 rfl) (dk_g tcX3_readGrowth_2 11 rfl) rfl
theorem tcX3_readGrowth_3 : (cX3_readGrowth.data.toList.drop 36).take 12 = [182, 0, 158, 153, 0, 13, 42, 28, 18, 155, 182, 0] := by decide +kernel
theorem dX3_readGrowth_36 : decode cX3_readGrowth 36 = .ok (.invokevirtual 158, 3) := dk_1182 (dk_g tcX3_readGrowth_3 0 rfl) (dk_g tcX3_readGrowth_3 1 rfl) (dk_g tcX3_readGrowth_3 2 rfl) rfl
theorem dX3_readGrowth_39 : decode cX3_readGrowth 39 = .ok (.ifCond .eq 13, 3) := dk_2153 (dk_g tcX3_readGrowth_3 3 rfl) (dk_g tcX3_readGrowth_3 4 rfl) (dk_g tcX3_readGrowth_3 5 rfl) rfl rfl
theorem dX3_readGrowth_42 : decode cX3_readGrowth 42 = .ok (.aload_n 0, 1) := dk_1042 (dk_g tcX3_readGrowth_3 6 rfl)
theorem dX3_readGrowth_43 : decode cX3_readGrowth 43 = .ok (.iload_n 2, 1) := dk_1028 (dk_g tcX3_readGrowth_3 7 rfl)
theorem dX3_readGrowth_44 : decode cX3_readGrowth 44 = .ok (.ldc 155, 2) := dk_1018 (dk_g tcX3_readGrowth_3 8 rfl) (dk_g tcX3_readGrowth_3 9 rfl) rfl
theorem tcX3_readGrowth_4 : (cX3_readGrowth.data.toList.drop 48).take 12 = [75, 154, 0, 5, 3, 172, 42, 180, 0, 56, 54, 4] := by decide +kernel
theorem dX3_readGrowth_46 : decode cX3_readGrowth 46 = .ok (.invokevirtual 75, 3) := dk_1182 (dk_g tcX3_readGrowth_3 10 rfl) (dk_g tcX3_readGrowth_3 11 rfl) (dk_g tcX3_readGrowth_4 0 rfl) rfl
theorem dX3_readGrowth_49 : decode cX3_readGrowth 49 = .ok (.ifCond .ne 5, 3) := dk_2154 (dk_g tcX3_readGrowth_4 1 rfl) (dk_g tcX3_readGrowth_4 2 rfl) (dk_g tcX3_readGrowth_4 3 rfl) rfl rfl
theorem dX3_readGrowth_52 : decode cX3_readGrowth 52 = .ok (.iconst 0, 1) := dk_1003 (dk_g tcX3_readGrowth_4 4 rfl)
theorem dX3_readGrowth_53 : decode cX3_readGrowth 53 = .ok (.ireturn, 1) := dk_1172 (dk_g tcX3_readGrowth_4 5 rfl)
theorem dX3_readGrowth_54 : decode cX3_readGrowth 54 = .ok (.aload_n 0, 1) := dk_1042 (dk_g tcX3_readGrowth_4 6 rfl)
theorem dX3_readGrowth_55 : decode cX3_readGrowth 55 = .ok (.getfield 56, 3) := dk_1180 (dk_g tcX3_readGrowth_4 7 rfl) (dk_g tcX3_readGrowth_4 8 rfl) (dk_g tcX3_readGrowth_4 9 rfl) rfl
theorem dX3_readGrowth_58 : decode cX3_readGrowth 58 = .ok (.istore 4, 2) := dk_1054 (dk_g tcX3_readGrowth_4 10 rfl) (dk_g tcX3_readGrowth_4 11 rfl) rfl
theorem tcX3_readGrowth_5 : (cX3_readGrowth.data.toList.drop 60).take 12 = [42, 18, 166, 182, 0, 163, 153, 0, 10, 42, 182, 0] := by decide +kernel
theorem dX3_readGrowth_60 : decode cX3_readGrowth 60 = .ok (.aload_n 0, 1) := dk_1042 (dk_g tcX3_readGrowth_5 0 rfl)
theorem dX3_readGrowth_61 : decode cX3_readGrowth 61 = .ok (.ldc 166, 2) := dk_1018 (dk_g tcX3_readGrowth_5 1 rfl) (dk_g tcX3_readGrowth_5 2 rfl) rfl
theorem dX3_readGrowth_63 : decode cX3_readGrowth 63 = .ok (.invokevirtual 163, 3) := dk_1182 (dk_g tcX3_readGrowth_5 3 rfl) (dk_g tcX3_readGrowth_5 4 rfl) (dk_g tcX3_readGrowth_5 5 rfl) rfl
theorem dX3_readGrowth_66 : decode cX3_readGrowth 66 = .ok (.ifCond .eq 10, 3) := dk_2153 (dk_g tcX3_readGrowth_5 6 rfl) (dk_g tcX3_readGrowth_5 7 rfl) (dk_g tcX3_readGrowth_5 8 rfl) rfl rfl
theorem dX3_readGrowth_69 : decode cX3_readGrowth 69 = .ok (.aload_n 0, 1) := dk_1042 (dk_g tcX3_readGrowth_5 9 rfl)
theorem tcX3_readGrowth_6 : (cX3_readGrowth.data.toList.drop 72).take 12 = [168, 154, 0, 5, 3, 172, 43, 42, 180, 0, 28, 42] := by decide +kernel
theorem dX3_readGrowth_70 : decode cX3_readGrowth 70 = .ok (.invokevirtual 168, 3) := dk_1182 (dk_g tcX3_readGrowth_5 10 rfl) (dk_g tcX3_readGrowth_5 11 rfl) (dk_g tcX3_readGrowth_6 0 rfl) rfl
theorem dX3_readGrowth_73 : decode cX3_readGrowth 73 = .ok (.ifCond .ne 5, 3) := dk_2154 (dk_g tcX3_readGrowth_6 1 rfl) (dk_g tcX3_readGrowth_6 2 rfl) (dk_g tcX3_readGrowth_6 3 rfl) rfl rfl
theorem dX3_readGrowth_76 : decode cX3_readGrowth 76 = .ok (.iconst 0, 1) := dk_1003 (dk_g tcX3_readGrowth_6 4 rfl)
theorem dX3_readGrowth_77 : decode cX3_readGrowth 77 = .ok (.ireturn, 1) := dk_1172 (dk_g tcX3_readGrowth_6 5 rfl)
theorem dX3_readGrowth_78 : decode cX3_readGrowth 78 = .ok (.aload_n 1, 1) := dk_1043 (dk_g tcX3_readGrowth_6 6 rfl)
theorem dX3_readGrowth_79 : decode cX3_readGrowth 79 = .ok (.aload_n 0, 1) := dk_1042 (dk_g tcX3_readGrowth_6 7 rfl)
theorem dX3_readGrowth_80 : decode cX3_readGrowth 80 = .ok (.getfield 28, 3) := dk_1180 (dk_g tcX3_readGrowth_6 8 rfl) (dk_g tcX3_readGrowth_6 9 rfl) (dk_g tcX3_readGrowth_6 10 rfl) rfl
theorem dX3_readGrowth_83 : decode cX3_readGrowth 83 = .ok (.aload_n 0, 1) := dk_1042 (dk_g tcX3_readGrowth_6 11 rfl)
theorem tcX3_readGrowth_7 : (cX3_readGrowth.data.toList.drop 84).take 12 = [180, 0, 33, 42, 180, 0, 21, 28, 29, 21, 4, 42] := by decide +kernel
theorem dX3_readGrowth_84 : decode cX3_readGrowth 84 = .ok (.getfield 33, 3) := dk_1180 (dk_g tcX3_readGrowth_7 0 rfl) (dk_g tcX3_readGrowth_7 1 rfl) (dk_g tcX3_readGrowth_7 2 rfl) rfl
theorem dX3_readGrowth_87 : decode cX3_readGrowth 87 = .ok (.aload_n 0, 1) := dk_1042 (dk_g tcX3_readGrowth_7 3 rfl)
theorem dX3_readGrowth_88 : decode cX3_readGrowth 88 = .ok (.getfield 21, 3) := dk_1180 (dk_g tcX3_readGrowth_7 4 rfl) (dk_g tcX3_readGrowth_7 5 rfl) (dk_g tcX3_readGrowth_7 6 rfl) rfl
theorem dX3_readGrowth_91 : decode cX3_readGrowth 91 = .ok (.iload_n 2, 1) := dk_1028 (dk_g tcX3_readGrowth_7 7 rfl)
theorem dX3_readGrowth_92 : decode cX3_readGrowth 92 = .ok (.iload_n 3, 1) := dk_1029 (dk_g tcX3_readGrowth_7 8 rfl)
theorem dX3_readGrowth_93 : decode cX3_readGrowth 93 = .ok (.iload 4, 2) := dk_1021 (dk_g tcX3_readGrowth_7 9 rfl) (dk_g tcX3_readGrowth_7 10 rfl) rfl
theorem dX3_readGrowth_95 : decode cX3_readGrowth 95 = .ok (.aload_n 0, 1) := dk_1042 (dk_g tcX3_readGrowth_7 11 rfl)
theorem tcX3_readGrowth_8 : (cX3_readGrowth.data.toList.drop 96).take 12 = [180, 0, 56, 182, 0, 182, 182, 0, 179, 4, 172] := by decide +kernel
theorem dX3_readGrowth_96 : decode cX3_readGrowth 96 = .ok (.getfield 56, 3) := dk_1180 (dk_g tcX3_readGrowth_8 0 rfl) (dk_g tcX3_readGrowth_8 1 rfl) (dk_g tcX3_readGrowth_8 2 rfl) rfl
theorem dX3_readGrowth_99 : decode cX3_readGrowth 99 = .ok (.invokevirtual 182, 3) := dk_1182 (dk_g tcX3_readGrowth_8 3 rfl) (dk_g tcX3_readGrowth_8 4 rfl) (dk_g tcX3_readGrowth_8 5 rfl) rfl
theorem dX3_readGrowth_102 : decode cX3_readGrowth 102 = .ok (.invokevirtual 179, 3) := dk_1182 (dk_g tcX3_readGrowth_8 6 rfl) (dk_g tcX3_readGrowth_8 7 rfl) (dk_g tcX3_readGrowth_8 8 rfl) rfl
theorem dX3_readGrowth_105 : decode cX3_readGrowth 105 = .ok (.iconst 1, 1) := dk_1004 (dk_g tcX3_readGrowth_8 9 rfl)
theorem dX3_readGrowth_106 : decode cX3_readGrowth 106 = .ok (.ireturn, 1) := dk_1172 (dk_g tcX3_readGrowth_8 10 rfl)
theorem tcX3_readMark_0 : (cX3_readMark.data.toList.drop 0).take 12 = [42, 43, 182, 0, 158, 153, 0, 21, 42, 3, 42, 180] := by decide +kernel
theorem dX3_readMark_0 : decode cX3_readMark 0 = .ok (.aload_n 0, 1) := dk_1042 (dk_g tcX3_readMark_0 0 rfl)
theorem dX3_readMark_1 : decode cX3_readMark 1 = .ok (.aload_n 1, 1) := dk_1043 (dk_g tcX3_readMark_0 1 rfl)
theorem dX3_readMark_2 : decode cX3_readMark 2 = .ok (.invokevirtual 158, 3) := dk_1182 (dk_g tcX3_readMark_0 2 rfl) (dk_g tcX3_readMark_0 3 rfl) (dk_g tcX3_readMark_0 4 rfl) rfl
theorem dX3_readMark_5 : decode cX3_readMark 5 = .ok (.ifCond .eq 21, 3) := dk_2153 (dk_g tcX3_readMark_0 5 rfl) (dk_g tcX3_readMark_0 6 rfl) (dk_g tcX3_readMark_0 7 rfl) rfl rfl
theorem dX3_readMark_8 : decode cX3_readMark 8 = .ok (.aload_n 0, 1) := dk_1042 (dk_g tcX3_readMark_0 8 rfl)
theorem dX3_readMark_9 : decode cX3_readMark 9 = .ok (.iconst 0, 1) := dk_1003 (dk_g tcX3_readMark_0 9 rfl)
theorem dX3_readMark_10 : decode cX3_readMark 10 = .ok (.aload_n 0, 1) := dk_1042 (dk_g tcX3_readMark_0 10 rfl)
theorem tcX3_readMark_1 : (cX3_readMark.data.toList.drop 12).take 12 = [0, 33, 4, 100, 182, 0, 75, 153, 0, 7, 4, 167] := by decide +kernel
theorem dX3_readMark_11 : decode cX3_readMark 11 = .ok (.getfield 33, 3) := dk_1180 (dk_g tcX3_readMark_0 11 rfl) (dk_g tcX3_readMark_1 0 rfl) (dk_g tcX3_readMark_1 1 rfl) rfl
theorem dX3_readMark_14 : decode cX3_readMark 14 = .ok (.iconst 1, 1) := dk_1004 (dk_g tcX3_readMark_1 2 rfl)
theorem dX3_readMark_15 : decode cX3_readMark 15 = .ok (.isub, 1) := dk_1100 (dk_g tcX3_readMark_1 3 rfl)
theorem dX3_readMark_16 : decode cX3_readMark 16 = .ok (.invokevirtual 75, 3) := dk_1182 (dk_g tcX3_readMark_1 4 rfl) (dk_g tcX3_readMark_1 5 rfl) (dk_g tcX3_readMark_1 6 rfl) rfl
theorem dX3_readMark_19 : decode cX3_readMark 19 = .ok (.ifCond .eq 7, 3) := dk_2153 (dk_g tcX3_readMark_1 7 rfl) (dk_g tcX3_readMark_1 8 rfl) (dk_g tcX3_readMark_1 9 rfl) rfl rfl
theorem dX3_readMark_22 : decode cX3_readMark 22 = .ok (.iconst 1, 1) := dk_1004 (dk_g tcX3_readMark_1 10 rfl)
theorem tcX3_readMark_2 : (cX3_readMark.data.toList.drop 24).take 12 = [0, 4, 3, 172] := by decide +kernel
theorem dX3_readMark_23 : decode cX3_readMark 23 = .ok (.goto 4, 3) := dk_2167 (dk_g tcX3_readMark_1 11 rfl) (dk_g tcX3_readMark_2 0 rfl) (dk_g tcX3_readMark_2 1 rfl) rfl rfl
theorem dX3_readMark_26 : decode cX3_readMark 26 = .ok (.iconst 0, 1) := dk_1003 (dk_g tcX3_readMark_2 2 rfl)
theorem dX3_readMark_27 : decode cX3_readMark 27 = .ok (.ireturn, 1) := dk_1172 (dk_g tcX3_readMark_2 3 rfl)
theorem tcX3_readRow_0 : (cX3_readRow.data.toList.drop 0).take 12 = [42, 18, 186, 182, 0, 158, 154, 0, 5, 3, 172, 42] := by decide +kernel
theorem dX3_readRow_0 : decode cX3_readRow 0 = .ok (.aload_n 0, 1) := dk_1042 (dk_g tcX3_readRow_0 0 rfl)
theorem dX3_readRow_1 : decode cX3_readRow 1 = .ok (.ldc 186, 2) := dk_1018 (dk_g tcX3_readRow_0 1 rfl) (dk_g tcX3_readRow_0 2 rfl) rfl
theorem dX3_readRow_3 : decode cX3_readRow 3 = .ok (.invokevirtual 158, 3) := dk_1182 (dk_g tcX3_readRow_0 3 rfl) (dk_g tcX3_readRow_0 4 rfl) (dk_g tcX3_readRow_0 5 rfl) rfl
theorem dX3_readRow_6 : decode cX3_readRow 6 = .ok (.ifCond .ne 5, 3) := dk_2154 (dk_g tcX3_readRow_0 6 rfl) (dk_g tcX3_readRow_0 7 rfl) (dk_g tcX3_readRow_0 8 rfl) rfl rfl
theorem dX3_readRow_9 : decode cX3_readRow 9 = .ok (.iconst 0, 1) := dk_1003 (dk_g tcX3_readRow_0 9 rfl)
theorem dX3_readRow_10 : decode cX3_readRow 10 = .ok (.ireturn, 1) := dk_1172 (dk_g tcX3_readRow_0 10 rfl)
theorem dX3_readRow_11 : decode cX3_readRow 11 = .ok (.aload_n 0, 1) := dk_1042 (dk_g tcX3_readRow_0 11 rfl)
theorem tcX3_readRow_1 : (cX3_readRow.data.toList.drop 12).take 12 = [180, 0, 21, 3, 182, 0, 120, 42, 180, 0, 12, 182] := by decide +kernel
theorem dX3_readRow_12 : decode cX3_readRow 12 = .ok (.getfield 21, 3) := dk_1180 (dk_g tcX3_readRow_1 0 rfl) (dk_g tcX3_readRow_1 1 rfl) (dk_g tcX3_readRow_1 2 rfl) rfl
theorem dX3_readRow_15 : decode cX3_readRow 15 = .ok (.iconst 0, 1) := dk_1003 (dk_g tcX3_readRow_1 3 rfl)
theorem dX3_readRow_16 : decode cX3_readRow 16 = .ok (.invokevirtual 120, 3) := dk_1182 (dk_g tcX3_readRow_1 4 rfl) (dk_g tcX3_readRow_1 5 rfl) (dk_g tcX3_readRow_1 6 rfl) rfl
theorem dX3_readRow_19 : decode cX3_readRow 19 = .ok (.aload_n 0, 1) := dk_1042 (dk_g tcX3_readRow_1 7 rfl)
theorem dX3_readRow_20 : decode cX3_readRow 20 = .ok (.getfield 12, 3) := dk_1180 (dk_g tcX3_readRow_1 8 rfl) (dk_g tcX3_readRow_1 9 rfl) (dk_g tcX3_readRow_1 10 rfl) rfl
theorem tcX3_readRow_2 : (cX3_readRow.data.toList.drop 24).take 12 = [0, 63, 3, 60, 27, 16, 64, 163, 0, 79, 42, 180] := by decide +kernel
theorem dX3_readRow_23 : decode cX3_readRow 23 = .ok (.invokevirtual 63, 3) := dk_1182 (dk_g tcX3_readRow_1 11 rfl) (dk_g tcX3_readRow_2 0 rfl) (dk_g tcX3_readRow_2 1 rfl) rfl
theorem dX3_readRow_26 : decode cX3_readRow 26 = .ok (.iconst 0, 1) := dk_1003 (dk_g tcX3_readRow_2 2 rfl)
theorem dX3_readRow_27 : decode cX3_readRow 27 = .ok (.istore_n 1, 1) := dk_1060 (dk_g tcX3_readRow_2 3 rfl)
theorem dX3_readRow_28 : decode cX3_readRow 28 = .ok (.iload_n 1, 1) := dk_1027 (dk_g tcX3_readRow_2 4 rfl)
theorem dX3_readRow_29 : decode cX3_readRow 29 = .ok (.bipush 64, 2) := dk_1016 (dk_g tcX3_readRow_2 5 rfl) (dk_g tcX3_readRow_2 6 rfl) (by decide +kernel)
theorem dX3_readRow_31 : decode cX3_readRow 31 = .ok (.if_icmp .gt 79, 3) := dk_2163 (dk_g tcX3_readRow_2 7 rfl) (dk_g tcX3_readRow_2 8 rfl) (dk_g tcX3_readRow_2 9 rfl) rfl rfl
theorem dX3_readRow_34 : decode cX3_readRow 34 = .ok (.aload_n 0, 1) := dk_1042 (dk_g tcX3_readRow_2 10 rfl)
theorem tcX3_readRow_3 : (cX3_readRow.data.toList.drop 36).take 12 = [0, 12, 180, 0, 66, 5, 160, 0, 68, 42, 180, 0] := by decide +kernel
theorem dX3_readRow_35 : decode cX3_readRow 35 = .ok (.getfield 12, 3) := dk_1180 (dk_g tcX3_readRow_2 11 rfl) (dk_g tcX3_readRow_3 0 rfl) (dk_g tcX3_readRow_3 1 rfl) rfl
theorem dX3_readRow_38 : decode cX3_readRow 38 = .ok (.getfield 66, 3) := dk_1180 (dk_g tcX3_readRow_3 2 rfl) (dk_g tcX3_readRow_3 3 rfl) (dk_g tcX3_readRow_3 4 rfl) rfl
theorem dX3_readRow_41 : decode cX3_readRow 41 = .ok (.iconst 2, 1) := dk_1005 (dk_g tcX3_readRow_3 5 rfl)
theorem dX3_readRow_42 : decode cX3_readRow 42 = .ok (.if_icmp .ne 68, 3) := dk_2160 (dk_g tcX3_readRow_3 6 rfl) (dk_g tcX3_readRow_3 7 rfl) (dk_g tcX3_readRow_3 8 rfl) rfl rfl
theorem dX3_readRow_45 : decode cX3_readRow 45 = .ok (.aload_n 0, 1) := dk_1042 (dk_g tcX3_readRow_3 9 rfl)
theorem tcX3_readRow_4 : (cX3_readRow.data.toList.drop 48).take 12 = [12, 180, 0, 188, 42, 180, 0, 33, 161, 0, 9, 42] := by decide +kernel
theorem dX3_readRow_46 : decode cX3_readRow 46 = .ok (.getfield 12, 3) := dk_1180 (dk_g tcX3_readRow_3 10 rfl) (dk_g tcX3_readRow_3 11 rfl) (dk_g tcX3_readRow_4 0 rfl) rfl
theorem dX3_readRow_49 : decode cX3_readRow 49 = .ok (.getfield 188, 3) := dk_1180 (dk_g tcX3_readRow_4 1 rfl) (dk_g tcX3_readRow_4 2 rfl) (dk_g tcX3_readRow_4 3 rfl) rfl
theorem dX3_readRow_52 : decode cX3_readRow 52 = .ok (.aload_n 0, 1) := dk_1042 (dk_g tcX3_readRow_4 4 rfl)
theorem dX3_readRow_53 : decode cX3_readRow 53 = .ok (.getfield 33, 3) := dk_1180 (dk_g tcX3_readRow_4 5 rfl) (dk_g tcX3_readRow_4 6 rfl) (dk_g tcX3_readRow_4 7 rfl) rfl
theorem dX3_readRow_56 : decode cX3_readRow 56 = .ok (.if_icmp .lt 9, 3) := dk_2161 (dk_g tcX3_readRow_4 8 rfl) (dk_g tcX3_readRow_4 9 rfl) (dk_g tcX3_readRow_4 10 rfl) rfl rfl
theorem dX3_readRow_59 : decode cX3_readRow 59 = .ok (.aload_n 0, 1) := dk_1042 (dk_g tcX3_readRow_4 11 rfl)
theorem tcX3_readRow_5 : (cX3_readRow.data.toList.drop 60).take 12 = [6, 182, 0, 145, 172, 42, 42, 180, 0, 21, 180, 0] := by decide +kernel
theorem dX3_readRow_60 : decode cX3_readRow 60 = .ok (.iconst 3, 1) := dk_1006 (dk_g tcX3_readRow_5 0 rfl)
theorem dX3_readRow_61 : decode cX3_readRow 61 = .ok (.invokevirtual 145, 3) := dk_1182 (dk_g tcX3_readRow_5 1 rfl) (dk_g tcX3_readRow_5 2 rfl) (dk_g tcX3_readRow_5 3 rfl) rfl
theorem dX3_readRow_64 : decode cX3_readRow 64 = .ok (.ireturn, 1) := dk_1172 (dk_g tcX3_readRow_5 4 rfl)
theorem dX3_readRow_65 : decode cX3_readRow 65 = .ok (.aload_n 0, 1) := dk_1042 (dk_g tcX3_readRow_5 5 rfl)
theorem dX3_readRow_66 : decode cX3_readRow 66 = .ok (.aload_n 0, 1) := dk_1042 (dk_g tcX3_readRow_5 6 rfl)
theorem dX3_readRow_67 : decode cX3_readRow 67 = .ok (.getfield 21, 3) := dk_1180 (dk_g tcX3_readRow_5 7 rfl) (dk_g tcX3_readRow_5 8 rfl) (dk_g tcX3_readRow_5 9 rfl) rfl
theorem tcX3_readRow_6 : (cX3_readRow.data.toList.drop 72).take 12 = [131, 16, 64, 182, 0, 99, 154, 0, 5, 3, 172, 42] := by decide +kernel
theorem dX3_readRow_70 : decode cX3_readRow 70 = .ok (.getfield 131, 3) := dk_1180 (dk_g tcX3_readRow_5 10 rfl) (dk_g tcX3_readRow_5 11 rfl) (dk_g tcX3_readRow_6 0 rfl) rfl
theorem dX3_readRow_73 : decode cX3_readRow 73 = .ok (.bipush 64, 2) := dk_1016 (dk_g tcX3_readRow_6 1 rfl) (dk_g tcX3_readRow_6 2 rfl) (by decide +kernel)
theorem dX3_readRow_75 : decode cX3_readRow 75 = .ok (.invokevirtual 99, 3) := dk_1182 (dk_g tcX3_readRow_6 3 rfl) (dk_g tcX3_readRow_6 4 rfl) (dk_g tcX3_readRow_6 5 rfl) rfl
theorem dX3_readRow_78 : decode cX3_readRow 78 = .ok (.ifCond .ne 5, 3) := dk_2154 (dk_g tcX3_readRow_6 6 rfl) (dk_g tcX3_readRow_6 7 rfl) (dk_g tcX3_readRow_6 8 rfl) rfl rfl
theorem dX3_readRow_81 : decode cX3_readRow 81 = .ok (.iconst 0, 1) := dk_1003 (dk_g tcX3_readRow_6 9 rfl)
theorem dX3_readRow_82 : decode cX3_readRow 82 = .ok (.ireturn, 1) := dk_1172 (dk_g tcX3_readRow_6 10 rfl)
theorem dX3_readRow_83 : decode cX3_readRow 83 = .ok (.aload_n 0, 1) := dk_1042 (dk_g tcX3_readRow_6 11 rfl)
theorem tcX3_readRow_7 : (cX3_readRow.data.toList.drop 84).take 12 = [180, 0, 21, 42, 180, 0, 12, 180, 0, 188, 182, 0] := by decide +kernel
theorem dX3_readRow_84 : decode cX3_readRow 84 = .ok (.getfield 21, 3) := dk_1180 (dk_g tcX3_readRow_7 0 rfl) (dk_g tcX3_readRow_7 1 rfl) (dk_g tcX3_readRow_7 2 rfl) rfl
theorem dX3_readRow_87 : decode cX3_readRow 87 = .ok (.aload_n 0, 1) := dk_1042 (dk_g tcX3_readRow_7 3 rfl)
theorem dX3_readRow_88 : decode cX3_readRow 88 = .ok (.getfield 12, 3) := dk_1180 (dk_g tcX3_readRow_7 4 rfl) (dk_g tcX3_readRow_7 5 rfl) (dk_g tcX3_readRow_7 6 rfl) rfl
theorem dX3_readRow_91 : decode cX3_readRow 91 = .ok (.getfield 188, 3) := dk_1180 (dk_g tcX3_readRow_7 7 rfl) (dk_g tcX3_readRow_7 8 rfl) (dk_g tcX3_readRow_7 9 rfl) rfl
theorem tcX3_readRow_8 : (cX3_readRow.data.toList.drop 96).take 12 = [179, 42, 180, 0, 12, 182, 0, 63, 132, 1, 1, 167] := by decide +kernel
theorem dX3_readRow_94 : decode cX3_readRow 94 = .ok (.invokevirtual 179, 3) := dk_1182 (dk_g tcX3_readRow_7 10 rfl) (dk_g tcX3_readRow_7 11 rfl) (dk_g tcX3_readRow_8 0 rfl) rfl
theorem dX3_readRow_97 : decode cX3_readRow 97 = .ok (.aload_n 0, 1) := dk_1042 (dk_g tcX3_readRow_8 1 rfl)
theorem dX3_readRow_98 : decode cX3_readRow 98 = .ok (.getfield 12, 3) := dk_1180 (dk_g tcX3_readRow_8 2 rfl) (dk_g tcX3_readRow_8 3 rfl) (dk_g tcX3_readRow_8 4 rfl) rfl
theorem dX3_readRow_101 : decode cX3_readRow 101 = .ok (.invokevirtual 63, 3) := dk_1182 (dk_g tcX3_readRow_8 5 rfl) (dk_g tcX3_readRow_8 6 rfl) (dk_g tcX3_readRow_8 7 rfl) rfl
theorem dX3_readRow_104 : decode cX3_readRow 104 = .ok (.iinc 1 1, 3) := dk_1132 (dk_g tcX3_readRow_8 8 rfl) (dk_g tcX3_readRow_8 9 rfl) (dk_g tcX3_readRow_8 10 rfl) rfl (by decide +kernel)
theorem tcX3_readRow_9 : (cX3_readRow.data.toList.drop 108).take 12 = [255, 177, 42, 180, 0, 12, 180, 0, 66, 6, 159, 0] := by decide +kernel
theorem dX3_readRow_107 : decode cX3_readRow 107 = .ok (.goto (-79), 3) := dk_1167 (dk_g tcX3_readRow_8 11 rfl) (dk_g tcX3_readRow_9 0 rfl) (dk_g tcX3_readRow_9 1 rfl) (by decide +kernel)
theorem dX3_readRow_110 : decode cX3_readRow 110 = .ok (.aload_n 0, 1) := dk_1042 (dk_g tcX3_readRow_9 2 rfl)
theorem dX3_readRow_111 : decode cX3_readRow 111 = .ok (.getfield 12, 3) := dk_1180 (dk_g tcX3_readRow_9 3 rfl) (dk_g tcX3_readRow_9 4 rfl) (dk_g tcX3_readRow_9 5 rfl) rfl
theorem dX3_readRow_114 : decode cX3_readRow 114 = .ok (.getfield 66, 3) := dk_1180 (dk_g tcX3_readRow_9 6 rfl) (dk_g tcX3_readRow_9 7 rfl) (dk_g tcX3_readRow_9 8 rfl) rfl
theorem dX3_readRow_117 : decode cX3_readRow 117 = .ok (.iconst 3, 1) := dk_1006 (dk_g tcX3_readRow_9 9 rfl)
theorem tcX3_readRow_10 : (cX3_readRow.data.toList.drop 120).take 12 = [10, 42, 182, 0, 117, 153, 0, 7, 4, 167, 0, 4] := by decide +kernel
theorem dX3_readRow_118 : decode cX3_readRow 118 = .ok (.if_icmp .eq 10, 3) := dk_2159 (dk_g tcX3_readRow_9 10 rfl) (dk_g tcX3_readRow_9 11 rfl) (dk_g tcX3_readRow_10 0 rfl) rfl rfl
theorem dX3_readRow_121 : decode cX3_readRow 121 = .ok (.aload_n 0, 1) := dk_1042 (dk_g tcX3_readRow_10 1 rfl)
theorem dX3_readRow_122 : decode cX3_readRow 122 = .ok (.invokevirtual 117, 3) := dk_1182 (dk_g tcX3_readRow_10 2 rfl) (dk_g tcX3_readRow_10 3 rfl) (dk_g tcX3_readRow_10 4 rfl) rfl
theorem dX3_readRow_125 : decode cX3_readRow 125 = .ok (.ifCond .eq 7, 3) := dk_2153 (dk_g tcX3_readRow_10 5 rfl) (dk_g tcX3_readRow_10 6 rfl) (dk_g tcX3_readRow_10 7 rfl) rfl rfl
theorem dX3_readRow_128 : decode cX3_readRow 128 = .ok (.iconst 1, 1) := dk_1004 (dk_g tcX3_readRow_10 8 rfl)
theorem dX3_readRow_129 : decode cX3_readRow 129 = .ok (.goto 4, 3) := dk_2167 (dk_g tcX3_readRow_10 9 rfl) (dk_g tcX3_readRow_10 10 rfl) (dk_g tcX3_readRow_10 11 rfl) rfl rfl
theorem tcX3_readRow_11 : (cX3_readRow.data.toList.drop 132).take 12 = [3, 172] := by decide +kernel
theorem dX3_readRow_132 : decode cX3_readRow 132 = .ok (.iconst 0, 1) := dk_1003 (dk_g tcX3_readRow_11 0 rfl)
theorem dX3_readRow_133 : decode cX3_readRow 133 = .ok (.ireturn, 1) := dk_1172 (dk_g tcX3_readRow_11 1 rfl)
theorem tcX3_readNumber_0 : (cX3_readNumber.data.toList.drop 0).take 12 = [42, 180, 0, 12, 182, 0, 63, 42, 180, 0, 12, 180] := by decide +kernel
theorem dX3_readNumber_0 : decode cX3_readNumber 0 = .ok (.aload_n 0, 1) := dk_1042 (dk_g tcX3_readNumber_0 0 rfl)
theorem dX3_readNumber_1 : decode cX3_readNumber 1 = .ok (.getfield 12, 3) := dk_1180 (dk_g tcX3_readNumber_0 1 rfl) (dk_g tcX3_readNumber_0 2 rfl) (dk_g tcX3_readNumber_0 3 rfl) rfl
theorem dX3_readNumber_4 : decode cX3_readNumber 4 = .ok (.invokevirtual 63, 3) := dk_1182 (dk_g tcX3_readNumber_0 4 rfl) (dk_g tcX3_readNumber_0 5 rfl) (dk_g tcX3_readNumber_0 6 rfl) rfl
theorem dX3_readNumber_7 : decode cX3_readNumber 7 = .ok (.aload_n 0, 1) := dk_1042 (dk_g tcX3_readNumber_0 7 rfl)
theorem dX3_readNumber_8 : decode cX3_readNumber 8 = .ok (.getfield 12, 3) := dk_1180 (dk_g tcX3_readNumber_0 8 rfl) (dk_g tcX3_readNumber_0 9 rfl) (dk_g tcX3_readNumber_0 10 rfl) rfl
theorem tcX3_readNumber_1 : (cX3_readNumber.data.toList.drop 12).take 12 = [0, 66, 5, 159, 0, 8, 42, 182, 0, 117, 172, 42] := by decide +kernel
theorem dX3_readNumber_11 : decode cX3_readNumber 11 = .ok (.getfield 66, 3) := dk_1180 (dk_g tcX3_readNumber_0 11 rfl) (dk_g tcX3_readNumber_1 0 rfl) (dk_g tcX3_readNumber_1 1 rfl) rfl
theorem dX3_readNumber_14 : decode cX3_readNumber 14 = .ok (.iconst 2, 1) := dk_1005 (dk_g tcX3_readNumber_1 2 rfl)
theorem dX3_readNumber_15 : decode cX3_readNumber 15 = .ok (.if_icmp .eq 8, 3) := dk_2159 (dk_g tcX3_readNumber_1 3 rfl) (dk_g tcX3_readNumber_1 4 rfl) (dk_g tcX3_readNumber_1 5 rfl) rfl rfl
theorem dX3_readNumber_18 : decode cX3_readNumber 18 = .ok (.aload_n 0, 1) := dk_1042 (dk_g tcX3_readNumber_1 6 rfl)
theorem dX3_readNumber_19 : decode cX3_readNumber 19 = .ok (.invokevirtual 117, 3) := dk_1182 (dk_g tcX3_readNumber_1 7 rfl) (dk_g tcX3_readNumber_1 8 rfl) (dk_g tcX3_readNumber_1 9 rfl) rfl
theorem dX3_readNumber_22 : decode cX3_readNumber 22 = .ok (.ireturn, 1) := dk_1172 (dk_g tcX3_readNumber_1 10 rfl)
theorem dX3_readNumber_23 : decode cX3_readNumber 23 = .ok (.aload_n 0, 1) := dk_1042 (dk_g tcX3_readNumber_1 11 rfl)
theorem tcX3_readNumber_2 : (cX3_readNumber.data.toList.drop 24).take 12 = [42, 180, 0, 12, 180, 0, 188, 181, 0, 56, 42, 180] := by decide +kernel
theorem dX3_readNumber_24 : decode cX3_readNumber 24 = .ok (.aload_n 0, 1) := dk_1042 (dk_g tcX3_readNumber_2 0 rfl)
theorem dX3_readNumber_25 : decode cX3_readNumber 25 = .ok (.getfield 12, 3) := dk_1180 (dk_g tcX3_readNumber_2 1 rfl) (dk_g tcX3_readNumber_2 2 rfl) (dk_g tcX3_readNumber_2 3 rfl) rfl
theorem dX3_readNumber_28 : decode cX3_readNumber 28 = .ok (.getfield 188, 3) := dk_1180 (dk_g tcX3_readNumber_2 4 rfl) (dk_g tcX3_readNumber_2 5 rfl) (dk_g tcX3_readNumber_2 6 rfl) rfl
theorem dX3_readNumber_31 : decode cX3_readNumber 31 = .ok (.putfield 56, 3) := dk_1181 (dk_g tcX3_readNumber_2 7 rfl) (dk_g tcX3_readNumber_2 8 rfl) (dk_g tcX3_readNumber_2 9 rfl) rfl
theorem dX3_readNumber_34 : decode cX3_readNumber 34 = .ok (.aload_n 0, 1) := dk_1042 (dk_g tcX3_readNumber_2 10 rfl)
theorem tcX3_readNumber_3 : (cX3_readNumber.data.toList.drop 36).take 12 = [0, 56, 27, 161, 0, 11, 42, 180, 0, 56, 28, 164] := by decide +kernel
theorem dX3_readNumber_35 : decode cX3_readNumber 35 = .ok (.getfield 56, 3) := dk_1180 (dk_g tcX3_readNumber_2 11 rfl) (dk_g tcX3_readNumber_3 0 rfl) (dk_g tcX3_readNumber_3 1 rfl) rfl
theorem dX3_readNumber_38 : decode cX3_readNumber 38 = .ok (.iload_n 1, 1) := dk_1027 (dk_g tcX3_readNumber_3 2 rfl)
theorem dX3_readNumber_39 : decode cX3_readNumber 39 = .ok (.if_icmp .lt 11, 3) := dk_2161 (dk_g tcX3_readNumber_3 3 rfl) (dk_g tcX3_readNumber_3 4 rfl) (dk_g tcX3_readNumber_3 5 rfl) rfl rfl
theorem dX3_readNumber_42 : decode cX3_readNumber 42 = .ok (.aload_n 0, 1) := dk_1042 (dk_g tcX3_readNumber_3 6 rfl)
theorem dX3_readNumber_43 : decode cX3_readNumber 43 = .ok (.getfield 56, 3) := dk_1180 (dk_g tcX3_readNumber_3 7 rfl) (dk_g tcX3_readNumber_3 8 rfl) (dk_g tcX3_readNumber_3 9 rfl) rfl
theorem dX3_readNumber_46 : decode cX3_readNumber 46 = .ok (.iload_n 2, 1) := dk_1028 (dk_g tcX3_readNumber_3 10 rfl)
theorem tcX3_readNumber_4 : (cX3_readNumber.data.toList.drop 48).take 12 = [0, 11, 42, 6, 182, 0, 145, 153, 0, 7, 4, 167] := by decide +kernel
theorem dX3_readNumber_47 : decode cX3_readNumber 47 = .ok (.if_icmp .le 11, 3) := dk_2164 (dk_g tcX3_readNumber_3 11 rfl) (dk_g tcX3_readNumber_4 0 rfl) (dk_g tcX3_readNumber_4 1 rfl) rfl rfl
theorem dX3_readNumber_50 : decode cX3_readNumber 50 = .ok (.aload_n 0, 1) := dk_1042 (dk_g tcX3_readNumber_4 2 rfl)
theorem dX3_readNumber_51 : decode cX3_readNumber 51 = .ok (.iconst 3, 1) := dk_1006 (dk_g tcX3_readNumber_4 3 rfl)
theorem dX3_readNumber_52 : decode cX3_readNumber 52 = .ok (.invokevirtual 145, 3) := dk_1182 (dk_g tcX3_readNumber_4 4 rfl) (dk_g tcX3_readNumber_4 5 rfl) (dk_g tcX3_readNumber_4 6 rfl) rfl
theorem dX3_readNumber_55 : decode cX3_readNumber 55 = .ok (.ifCond .eq 7, 3) := dk_2153 (dk_g tcX3_readNumber_4 7 rfl) (dk_g tcX3_readNumber_4 8 rfl) (dk_g tcX3_readNumber_4 9 rfl) rfl rfl
theorem dX3_readNumber_58 : decode cX3_readNumber 58 = .ok (.iconst 1, 1) := dk_1004 (dk_g tcX3_readNumber_4 10 rfl)
theorem tcX3_readNumber_5 : (cX3_readNumber.data.toList.drop 60).take 12 = [0, 4, 3, 172] := by decide +kernel
theorem dX3_readNumber_59 : decode cX3_readNumber 59 = .ok (.goto 4, 3) := dk_2167 (dk_g tcX3_readNumber_4 11 rfl) (dk_g tcX3_readNumber_5 0 rfl) (dk_g tcX3_readNumber_5 1 rfl) rfl rfl
theorem dX3_readNumber_62 : decode cX3_readNumber 62 = .ok (.iconst 0, 1) := dk_1003 (dk_g tcX3_readNumber_5 2 rfl)
theorem dX3_readNumber_63 : decode cX3_readNumber 63 = .ok (.ireturn, 1) := dk_1172 (dk_g tcX3_readNumber_5 3 rfl)
theorem tcX3_readWord_0 : (cX3_readWord.data.toList.drop 0).take 12 = [42, 180, 0, 12, 182, 0, 63, 42, 180, 0, 12, 43] := by decide +kernel
theorem dX3_readWord_0 : decode cX3_readWord 0 = .ok (.aload_n 0, 1) := dk_1042 (dk_g tcX3_readWord_0 0 rfl)
theorem dX3_readWord_1 : decode cX3_readWord 1 = .ok (.getfield 12, 3) := dk_1180 (dk_g tcX3_readWord_0 1 rfl) (dk_g tcX3_readWord_0 2 rfl) (dk_g tcX3_readWord_0 3 rfl) rfl
theorem dX3_readWord_4 : decode cX3_readWord 4 = .ok (.invokevirtual 63, 3) := dk_1182 (dk_g tcX3_readWord_0 4 rfl) (dk_g tcX3_readWord_0 5 rfl) (dk_g tcX3_readWord_0 6 rfl) rfl
theorem dX3_readWord_7 : decode cX3_readWord 7 = .ok (.aload_n 0, 1) := dk_1042 (dk_g tcX3_readWord_0 7 rfl)
theorem dX3_readWord_8 : decode cX3_readWord 8 = .ok (.getfield 12, 3) := dk_1180 (dk_g tcX3_readWord_0 8 rfl) (dk_g tcX3_readWord_0 9 rfl) (dk_g tcX3_readWord_0 10 rfl) rfl
theorem dX3_readWord_11 : decode cX3_readWord 11 = .ok (.aload_n 1, 1) := dk_1043 (dk_g tcX3_readWord_0 11 rfl)
theorem tcX3_readWord_1 : (cX3_readWord.data.toList.drop 12).take 12 = [182, 0, 71, 154, 0, 10, 42, 182, 0, 117, 153, 0] := by decide +kernel
theorem dX3_readWord_12 : decode cX3_readWord 12 = .ok (.invokevirtual 71, 3) := dk_1182 (dk_g tcX3_readWord_1 0 rfl) (dk_g tcX3_readWord_1 1 rfl) (dk_g tcX3_readWord_1 2 rfl) rfl
theorem dX3_readWord_15 : decode cX3_readWord 15 = .ok (.ifCond .ne 10, 3) := dk_2154 (dk_g tcX3_readWord_1 3 rfl) (dk_g tcX3_readWord_1 4 rfl) (dk_g tcX3_readWord_1 5 rfl) rfl rfl
theorem dX3_readWord_18 : decode cX3_readWord 18 = .ok (.aload_n 0, 1) := dk_1042 (dk_g tcX3_readWord_1 6 rfl)
theorem dX3_readWord_19 : decode cX3_readWord 19 = .ok (.invokevirtual 117, 3) := dk_1182 (dk_g tcX3_readWord_1 7 rfl) (dk_g tcX3_readWord_1 8 rfl) (dk_g tcX3_readWord_1 9 rfl) rfl
theorem tcX3_readWord_2 : (cX3_readWord.data.toList.drop 24).take 12 = [7, 4, 167, 0, 4, 3, 172] := by decide +kernel
theorem dX3_readWord_22 : decode cX3_readWord 22 = .ok (.ifCond .eq 7, 3) := dk_2153 (dk_g tcX3_readWord_1 10 rfl) (dk_g tcX3_readWord_1 11 rfl) (dk_g tcX3_readWord_2 0 rfl) rfl rfl
theorem dX3_readWord_25 : decode cX3_readWord 25 = .ok (.iconst 1, 1) := dk_1004 (dk_g tcX3_readWord_2 1 rfl)
theorem dX3_readWord_26 : decode cX3_readWord 26 = .ok (.goto 4, 3) := dk_2167 (dk_g tcX3_readWord_2 2 rfl) (dk_g tcX3_readWord_2 3 rfl) (dk_g tcX3_readWord_2 4 rfl) rfl rfl
theorem dX3_readWord_29 : decode cX3_readWord 29 = .ok (.iconst 0, 1) := dk_1003 (dk_g tcX3_readWord_2 5 rfl)
theorem dX3_readWord_30 : decode cX3_readWord 30 = .ok (.ireturn, 1) := dk_1172 (dk_g tcX3_readWord_2 6 rfl)
theorem tcX3_readSign_0 : (cX3_readSign.data.toList.drop 0).take 12 = [42, 180, 0, 12, 182, 0, 63, 42, 180, 0, 12, 180] := by decide +kernel
theorem dX3_readSign_0 : decode cX3_readSign 0 = .ok (.aload_n 0, 1) := dk_1042 (dk_g tcX3_readSign_0 0 rfl)
theorem dX3_readSign_1 : decode cX3_readSign 1 = .ok (.getfield 12, 3) := dk_1180 (dk_g tcX3_readSign_0 1 rfl) (dk_g tcX3_readSign_0 2 rfl) (dk_g tcX3_readSign_0 3 rfl) rfl
theorem dX3_readSign_4 : decode cX3_readSign 4 = .ok (.invokevirtual 63, 3) := dk_1182 (dk_g tcX3_readSign_0 4 rfl) (dk_g tcX3_readSign_0 5 rfl) (dk_g tcX3_readSign_0 6 rfl) rfl
theorem dX3_readSign_7 : decode cX3_readSign 7 = .ok (.aload_n 0, 1) := dk_1042 (dk_g tcX3_readSign_0 7 rfl)
theorem dX3_readSign_8 : decode cX3_readSign 8 = .ok (.getfield 12, 3) := dk_1180 (dk_g tcX3_readSign_0 8 rfl) (dk_g tcX3_readSign_0 9 rfl) (dk_g tcX3_readSign_0 10 rfl) rfl
theorem tcX3_readSign_1 : (cX3_readSign.data.toList.drop 12).take 12 = [0, 66, 6, 159, 0, 10, 42, 182, 0, 117, 153, 0] := by decide +kernel
theorem dX3_readSign_11 : decode cX3_readSign 11 = .ok (.getfield 66, 3) := dk_1180 (dk_g tcX3_readSign_0 11 rfl) (dk_g tcX3_readSign_1 0 rfl) (dk_g tcX3_readSign_1 1 rfl) rfl
theorem dX3_readSign_14 : decode cX3_readSign 14 = .ok (.iconst 3, 1) := dk_1006 (dk_g tcX3_readSign_1 2 rfl)
theorem dX3_readSign_15 : decode cX3_readSign 15 = .ok (.if_icmp .eq 10, 3) := dk_2159 (dk_g tcX3_readSign_1 3 rfl) (dk_g tcX3_readSign_1 4 rfl) (dk_g tcX3_readSign_1 5 rfl) rfl rfl
theorem dX3_readSign_18 : decode cX3_readSign 18 = .ok (.aload_n 0, 1) := dk_1042 (dk_g tcX3_readSign_1 6 rfl)
theorem dX3_readSign_19 : decode cX3_readSign 19 = .ok (.invokevirtual 117, 3) := dk_1182 (dk_g tcX3_readSign_1 7 rfl) (dk_g tcX3_readSign_1 8 rfl) (dk_g tcX3_readSign_1 9 rfl) rfl
theorem tcX3_readSign_2 : (cX3_readSign.data.toList.drop 24).take 12 = [7, 4, 167, 0, 4, 3, 172] := by decide +kernel
theorem dX3_readSign_22 : decode cX3_readSign 22 = .ok (.ifCond .eq 7, 3) := dk_2153 (dk_g tcX3_readSign_1 10 rfl) (dk_g tcX3_readSign_1 11 rfl) (dk_g tcX3_readSign_2 0 rfl) rfl rfl
theorem dX3_readSign_25 : decode cX3_readSign 25 = .ok (.iconst 1, 1) := dk_1004 (dk_g tcX3_readSign_2 1 rfl)
theorem dX3_readSign_26 : decode cX3_readSign 26 = .ok (.goto 4, 3) := dk_2167 (dk_g tcX3_readSign_2 2 rfl) (dk_g tcX3_readSign_2 3 rfl) (dk_g tcX3_readSign_2 4 rfl) rfl rfl
theorem dX3_readSign_29 : decode cX3_readSign 29 = .ok (.iconst 0, 1) := dk_1003 (dk_g tcX3_readSign_2 5 rfl)
theorem dX3_readSign_30 : decode cX3_readSign 30 = .ok (.ireturn, 1) := dk_1172 (dk_g tcX3_readSign_2 6 rfl)
theorem tcX3_hasRoom_0 : (cX3_hasRoom.data.toList.drop 0).take 12 = [27, 28, 161, 0, 12, 42, 16, 6, 182, 0, 145, 153] := by decide +kernel
theorem dX3_hasRoom_0 : decode cX3_hasRoom 0 = .ok (.iload_n 1, 1) := dk_1027 (dk_g tcX3_hasRoom_0 0 rfl)
theorem dX3_hasRoom_1 : decode cX3_hasRoom 1 = .ok (.iload_n 2, 1) := dk_1028 (dk_g tcX3_hasRoom_0 1 rfl)
theorem dX3_hasRoom_2 : decode cX3_hasRoom 2 = .ok (.if_icmp .lt 12, 3) := dk_2161 (dk_g tcX3_hasRoom_0 2 rfl) (dk_g tcX3_hasRoom_0 3 rfl) (dk_g tcX3_hasRoom_0 4 rfl) rfl rfl
theorem dX3_hasRoom_5 : decode cX3_hasRoom 5 = .ok (.aload_n 0, 1) := dk_1042 (dk_g tcX3_hasRoom_0 5 rfl)
theorem dX3_hasRoom_6 : decode cX3_hasRoom 6 = .ok (.bipush 6, 2) := dk_1016 (dk_g tcX3_hasRoom_0 6 rfl) (dk_g tcX3_hasRoom_0 7 rfl) (by decide +kernel)
theorem dX3_hasRoom_8 : decode cX3_hasRoom 8 = .ok (.invokevirtual 145, 3) := dk_1182 (dk_g tcX3_hasRoom_0 8 rfl) (dk_g tcX3_hasRoom_0 9 rfl) (dk_g tcX3_hasRoom_0 10 rfl) rfl
theorem tcX3_hasRoom_1 : (cX3_hasRoom.data.toList.drop 12).take 12 = [0, 7, 4, 167, 0, 4, 3, 172] := by decide +kernel
theorem dX3_hasRoom_11 : decode cX3_hasRoom 11 = .ok (.ifCond .eq 7, 3) := dk_2153 (dk_g tcX3_hasRoom_0 11 rfl) (dk_g tcX3_hasRoom_1 0 rfl) (dk_g tcX3_hasRoom_1 1 rfl) rfl rfl
theorem dX3_hasRoom_14 : decode cX3_hasRoom 14 = .ok (.iconst 1, 1) := dk_1004 (dk_g tcX3_hasRoom_1 2 rfl)
theorem dX3_hasRoom_15 : decode cX3_hasRoom 15 = .ok (.goto 4, 3) := dk_2167 (dk_g tcX3_hasRoom_1 3 rfl) (dk_g tcX3_hasRoom_1 4 rfl) (dk_g tcX3_hasRoom_1 5 rfl) rfl rfl
theorem dX3_hasRoom_18 : decode cX3_hasRoom 18 = .ok (.iconst 0, 1) := dk_1003 (dk_g tcX3_hasRoom_1 6 rfl)
theorem dX3_hasRoom_19 : decode cX3_hasRoom 19 = .ok (.ireturn, 1) := dk_1172 (dk_g tcX3_hasRoom_1 7 rfl)
theorem tcX3_stray_0 : (cX3_stray.data.toList.drop 0).take 12 = [42, 42, 180, 0, 12, 180, 0, 66, 7, 160, 0, 7] := by decide +kernel
theorem dX3_stray_0 : decode cX3_stray 0 = .ok (.aload_n 0, 1) := dk_1042 (dk_g tcX3_stray_0 0 rfl)
theorem dX3_stray_1 : decode cX3_stray 1 = .ok (.aload_n 0, 1) := dk_1042 (dk_g tcX3_stray_0 1 rfl)
theorem dX3_stray_2 : decode cX3_stray 2 = .ok (.getfield 12, 3) := dk_1180 (dk_g tcX3_stray_0 2 rfl) (dk_g tcX3_stray_0 3 rfl) (dk_g tcX3_stray_0 4 rfl) rfl
theorem dX3_stray_5 : decode cX3_stray 5 = .ok (.getfield 66, 3) := dk_1180 (dk_g tcX3_stray_0 5 rfl) (dk_g tcX3_stray_0 6 rfl) (dk_g tcX3_stray_0 7 rfl) rfl
theorem dX3_stray_8 : decode cX3_stray 8 = .ok (.iconst 4, 1) := dk_1007 (dk_g tcX3_stray_0 8 rfl)
theorem dX3_stray_9 : decode cX3_stray 9 = .ok (.if_icmp .ne 7, 3) := dk_2160 (dk_g tcX3_stray_0 9 rfl) (dk_g tcX3_stray_0 10 rfl) (dk_g tcX3_stray_0 11 rfl) rfl rfl
theorem tcX3_stray_1 : (cX3_stray.data.toList.drop 12).take 12 = [4, 167, 0, 4, 5, 182, 0, 145, 172] := by decide +kernel
theorem dX3_stray_12 : decode cX3_stray 12 = .ok (.iconst 1, 1) := dk_1004 (dk_g tcX3_stray_1 0 rfl)
theorem dX3_stray_13 : decode cX3_stray 13 = .ok (.goto 4, 3) := dk_2167 (dk_g tcX3_stray_1 1 rfl) (dk_g tcX3_stray_1 2 rfl) (dk_g tcX3_stray_1 3 rfl) rfl rfl
theorem dX3_stray_16 : decode cX3_stray 16 = .ok (.iconst 2, 1) := dk_1005 (dk_g tcX3_stray_1 4 rfl)
theorem dX3_stray_17 : decode cX3_stray 17 = .ok (.invokevirtual 145, 3) := dk_1182 (dk_g tcX3_stray_1 5 rfl) (dk_g tcX3_stray_1 6 rfl) (dk_g tcX3_stray_1 7 rfl) rfl
theorem dX3_stray_20 : decode cX3_stray 20 = .ok (.ireturn, 1) := dk_1172 (dk_g tcX3_stray_1 8 rfl)
theorem tcX3_fail_0 : (cX3_fail.data.toList.drop 0).take 12 = [42, 27, 181, 0, 37, 42, 42, 180, 0, 12, 180, 0] := by decide +kernel
theorem dX3_fail_0 : decode cX3_fail 0 = .ok (.aload_n 0, 1) := dk_1042 (dk_g tcX3_fail_0 0 rfl)
theorem dX3_fail_1 : decode cX3_fail 1 = .ok (.iload_n 1, 1) := dk_1027 (dk_g tcX3_fail_0 1 rfl)
theorem dX3_fail_2 : decode cX3_fail 2 = .ok (.putfield 37, 3) := dk_1181 (dk_g tcX3_fail_0 2 rfl) (dk_g tcX3_fail_0 3 rfl) (dk_g tcX3_fail_0 4 rfl) rfl
theorem dX3_fail_5 : decode cX3_fail 5 = .ok (.aload_n 0, 1) := dk_1042 (dk_g tcX3_fail_0 5 rfl)
theorem dX3_fail_6 : decode cX3_fail 6 = .ok (.aload_n 0, 1) := dk_1042 (dk_g tcX3_fail_0 6 rfl)
theorem dX3_fail_7 : decode cX3_fail 7 = .ok (.getfield 12, 3) := dk_1180 (dk_g tcX3_fail_0 7 rfl) (dk_g tcX3_fail_0 8 rfl) (dk_g tcX3_fail_0 9 rfl) rfl
theorem tcX3_fail_1 : (cX3_fail.data.toList.drop 12).take 12 = [191, 181, 0, 40, 3, 172] := by decide +kernel
theorem dX3_fail_10 : decode cX3_fail 10 = .ok (.getfield 191, 3) := dk_1180 (dk_g tcX3_fail_0 10 rfl) (dk_g tcX3_fail_0 11 rfl) (dk_g tcX3_fail_1 0 rfl) rfl
theorem dX3_fail_13 : decode cX3_fail 13 = .ok (.putfield 40, 3) := dk_1181 (dk_g tcX3_fail_1 1 rfl) (dk_g tcX3_fail_1 2 rfl) (dk_g tcX3_fail_1 3 rfl) rfl
theorem dX3_fail_16 : decode cX3_fail 16 = .ok (.iconst 0, 1) := dk_1003 (dk_g tcX3_fail_1 4 rfl)
theorem dX3_fail_17 : decode cX3_fail 17 = .ok (.ireturn, 1) := dk_1172 (dk_g tcX3_fail_1 5 rfl)
theorem tcX4_init_0 : (cX4_init.data.toList.drop 0).take 12 = [42, 183, 0, 3, 42, 18, 9, 188, 10, 181, 0, 10] := by decide +kernel
theorem dX4_init_0 : decode cX4_init 0 = .ok (.aload_n 0, 1) := dk_1042 (dk_g tcX4_init_0 0 rfl)
theorem dX4_init_1 : decode cX4_init 1 = .ok (.invokespecial 3, 3) := dk_1183 (dk_g tcX4_init_0 1 rfl) (dk_g tcX4_init_0 2 rfl) (dk_g tcX4_init_0 3 rfl) rfl
theorem dX4_init_4 : decode cX4_init 4 = .ok (.aload_n 0, 1) := dk_1042 (dk_g tcX4_init_0 4 rfl)
theorem dX4_init_5 : decode cX4_init 5 = .ok (.ldc 9, 2) := dk_1018 (dk_g tcX4_init_0 5 rfl) (dk_g tcX4_init_0 6 rfl) rfl
theorem dX4_init_7 : decode cX4_init 7 = .ok (.newarray .int, 2) := dk_1188_10 (dk_g tcX4_init_0 7 rfl) (dk_g tcX4_init_0 8 rfl)
theorem dX4_init_9 : decode cX4_init 9 = .ok (.putfield 10, 3) := dk_1181 (dk_g tcX4_init_0 9 rfl) (dk_g tcX4_init_0 10 rfl) (dk_g tcX4_init_0 11 rfl) rfl
theorem tcX4_init_1 : (cX4_init.data.toList.drop 12).take 12 = [42, 18, 9, 188, 10, 181, 0, 16, 42, 3, 181, 0] := by decide +kernel
theorem dX4_init_12 : decode cX4_init 12 = .ok (.aload_n 0, 1) := dk_1042 (dk_g tcX4_init_1 0 rfl)
theorem dX4_init_13 : decode cX4_init 13 = .ok (.ldc 9, 2) := dk_1018 (dk_g tcX4_init_1 1 rfl) (dk_g tcX4_init_1 2 rfl) rfl
theorem dX4_init_15 : decode cX4_init 15 = .ok (.newarray .int, 2) := dk_1188_10 (dk_g tcX4_init_1 3 rfl) (dk_g tcX4_init_1 4 rfl)
theorem dX4_init_17 : decode cX4_init 17 = .ok (.putfield 16, 3) := dk_1181 (dk_g tcX4_init_1 5 rfl) (dk_g tcX4_init_1 6 rfl) (dk_g tcX4_init_1 7 rfl) rfl
theorem dX4_init_20 : decode cX4_init 20 = .ok (.aload_n 0, 1) := dk_1042 (dk_g tcX4_init_1 8 rfl)
theorem dX4_init_21 : decode cX4_init 21 = .ok (.iconst 0, 1) := dk_1003 (dk_g tcX4_init_1 9 rfl)
theorem tcX4_init_2 : (cX4_init.data.toList.drop 24).take 12 = [19, 42, 187, 0, 23, 89, 183, 0, 25, 181, 0, 26] := by decide +kernel
theorem dX4_init_22 : decode cX4_init 22 = .ok (.putfield 19, 3) := dk_1181 (dk_g tcX4_init_1 10 rfl) (dk_g tcX4_init_1 11 rfl) (dk_g tcX4_init_2 0 rfl) rfl
theorem dX4_init_25 : decode cX4_init 25 = .ok (.aload_n 0, 1) := dk_1042 (dk_g tcX4_init_2 1 rfl)
theorem dX4_init_26 : decode cX4_init 26 = .ok (.new 23, 3) := dk_1187 (dk_g tcX4_init_2 2 rfl) (dk_g tcX4_init_2 3 rfl) (dk_g tcX4_init_2 4 rfl) rfl
theorem dX4_init_29 : decode cX4_init 29 = .ok (.dup, 1) := dk_1089 (dk_g tcX4_init_2 5 rfl)
theorem dX4_init_30 : decode cX4_init 30 = .ok (.invokespecial 25, 3) := dk_1183 (dk_g tcX4_init_2 6 rfl) (dk_g tcX4_init_2 7 rfl) (dk_g tcX4_init_2 8 rfl) rfl
theorem dX4_init_33 : decode cX4_init 33 = .ok (.putfield 26, 3) := dk_1181 (dk_g tcX4_init_2 9 rfl) (dk_g tcX4_init_2 10 rfl) (dk_g tcX4_init_2 11 rfl) rfl
theorem tcX4_init_3 : (cX4_init.data.toList.drop 36).take 12 = [42, 187, 0, 30, 89, 183, 0, 32, 181, 0, 33, 42] := by decide +kernel
theorem dX4_init_36 : decode cX4_init 36 = .ok (.aload_n 0, 1) := dk_1042 (dk_g tcX4_init_3 0 rfl)
theorem dX4_init_37 : decode cX4_init 37 = .ok (.new 30, 3) := dk_1187 (dk_g tcX4_init_3 1 rfl) (dk_g tcX4_init_3 2 rfl) (dk_g tcX4_init_3 3 rfl) rfl
theorem dX4_init_40 : decode cX4_init 40 = .ok (.dup, 1) := dk_1089 (dk_g tcX4_init_3 4 rfl)
theorem dX4_init_41 : decode cX4_init 41 = .ok (.invokespecial 32, 3) := dk_1183 (dk_g tcX4_init_3 5 rfl) (dk_g tcX4_init_3 6 rfl) (dk_g tcX4_init_3 7 rfl) rfl
theorem dX4_init_44 : decode cX4_init 44 = .ok (.putfield 33, 3) := dk_1181 (dk_g tcX4_init_3 8 rfl) (dk_g tcX4_init_3 9 rfl) (dk_g tcX4_init_3 10 rfl) rfl
theorem dX4_init_47 : decode cX4_init 47 = .ok (.aload_n 0, 1) := dk_1042 (dk_g tcX4_init_3 11 rfl)
theorem tcX4_init_4 : (cX4_init.data.toList.drop 48).take 12 = [3, 181, 0, 37, 42, 2, 181, 0, 40, 42, 3, 181] := by decide +kernel
theorem dX4_init_48 : decode cX4_init 48 = .ok (.iconst 0, 1) := dk_1003 (dk_g tcX4_init_4 0 rfl)
theorem dX4_init_49 : decode cX4_init 49 = .ok (.putfield 37, 3) := dk_1181 (dk_g tcX4_init_4 1 rfl) (dk_g tcX4_init_4 2 rfl) (dk_g tcX4_init_4 3 rfl) rfl
theorem dX4_init_52 : decode cX4_init 52 = .ok (.aload_n 0, 1) := dk_1042 (dk_g tcX4_init_4 4 rfl)
theorem dX4_init_53 : decode cX4_init 53 = .ok (.iconst (-1), 1) := dk_1002 (dk_g tcX4_init_4 5 rfl)
theorem dX4_init_54 : decode cX4_init 54 = .ok (.putfield 40, 3) := dk_1181 (dk_g tcX4_init_4 6 rfl) (dk_g tcX4_init_4 7 rfl) (dk_g tcX4_init_4 8 rfl) rfl
theorem dX4_init_57 : decode cX4_init 57 = .ok (.aload_n 0, 1) := dk_1042 (dk_g tcX4_init_4 9 rfl)
theorem dX4_init_58 : decode cX4_init 58 = .ok (.iconst 0, 1) := dk_1003 (dk_g tcX4_init_4 10 rfl)
theorem tcX4_init_5 : (cX4_init.data.toList.drop 60).take 12 = [0, 43, 42, 2, 181, 0, 46, 42, 3, 181, 0, 49] := by decide +kernel
theorem dX4_init_59 : decode cX4_init 59 = .ok (.putfield 43, 3) := dk_1181 (dk_g tcX4_init_4 11 rfl) (dk_g tcX4_init_5 0 rfl) (dk_g tcX4_init_5 1 rfl) rfl
theorem dX4_init_62 : decode cX4_init 62 = .ok (.aload_n 0, 1) := dk_1042 (dk_g tcX4_init_5 2 rfl)
theorem dX4_init_63 : decode cX4_init 63 = .ok (.iconst (-1), 1) := dk_1002 (dk_g tcX4_init_5 3 rfl)
theorem dX4_init_64 : decode cX4_init 64 = .ok (.putfield 46, 3) := dk_1181 (dk_g tcX4_init_5 4 rfl) (dk_g tcX4_init_5 5 rfl) (dk_g tcX4_init_5 6 rfl) rfl
theorem dX4_init_67 : decode cX4_init 67 = .ok (.aload_n 0, 1) := dk_1042 (dk_g tcX4_init_5 7 rfl)
theorem dX4_init_68 : decode cX4_init 68 = .ok (.iconst 0, 1) := dk_1003 (dk_g tcX4_init_5 8 rfl)
theorem dX4_init_69 : decode cX4_init 69 = .ok (.putfield 49, 3) := dk_1181 (dk_g tcX4_init_5 9 rfl) (dk_g tcX4_init_5 10 rfl) (dk_g tcX4_init_5 11 rfl) rfl
theorem tcX4_init_6 : (cX4_init.data.toList.drop 72).take 12 = [42, 3, 181, 0, 52, 177] := by decide +kernel
theorem dX4_init_72 : decode cX4_init 72 = .ok (.aload_n 0, 1) := dk_1042 (dk_g tcX4_init_6 0 rfl)
theorem dX4_init_73 : decode cX4_init 73 = .ok (.iconst 0, 1) := dk_1003 (dk_g tcX4_init_6 1 rfl)
theorem dX4_init_74 : decode cX4_init 74 = .ok (.putfield 52, 3) := dk_1181 (dk_g tcX4_init_6 2 rfl) (dk_g tcX4_init_6 3 rfl) (dk_g tcX4_init_6 4 rfl) rfl
theorem dX4_init_77 : decode cX4_init 77 = .ok (.return_, 1) := dk_1177 (dk_g tcX4_init_6 5 rfl)
theorem tcX4_prepare_0 : (cX4_prepare.data.toList.drop 0).take 12 = [42, 180, 0, 19, 27, 159, 0, 15, 27, 16, 101, 161] := by decide +kernel
theorem dX4_prepare_0 : decode cX4_prepare 0 = .ok (.aload_n 0, 1) := dk_1042 (dk_g tcX4_prepare_0 0 rfl)
theorem dX4_prepare_1 : decode cX4_prepare 1 = .ok (.getfield 19, 3) := dk_1180 (dk_g tcX4_prepare_0 1 rfl) (dk_g tcX4_prepare_0 2 rfl) (dk_g tcX4_prepare_0 3 rfl) rfl
theorem dX4_prepare_4 : decode cX4_prepare 4 = .ok (.iload_n 1, 1) := dk_1027 (dk_g tcX4_prepare_0 4 rfl)
theorem dX4_prepare_5 : decode cX4_prepare 5 = .ok (.if_icmp .eq 15, 3) := dk_2159 (dk_g tcX4_prepare_0 5 rfl) (dk_g tcX4_prepare_0 6 rfl) (dk_g tcX4_prepare_0 7 rfl) rfl rfl
theorem dX4_prepare_8 : decode cX4_prepare 8 = .ok (.iload_n 1, 1) := dk_1027 (dk_g tcX4_prepare_0 8 rfl)
theorem dX4_prepare_9 : decode cX4_prepare 9 = .ok (.bipush 101, 2) := dk_1016 (dk_g tcX4_prepare_0 9 rfl) (dk_g tcX4_prepare_0 10 rfl) (by decide +kernel)
theorem tcX4_prepare_1 : (cX4_prepare.data.toList.drop 12).take 12 = [0, 9, 27, 18, 9, 164, 0, 4, 177, 42, 27, 181] := by decide +kernel
theorem dX4_prepare_11 : decode cX4_prepare 11 = .ok (.if_icmp .lt 9, 3) := dk_2161 (dk_g tcX4_prepare_0 11 rfl) (dk_g tcX4_prepare_1 0 rfl) (dk_g tcX4_prepare_1 1 rfl) rfl rfl
theorem dX4_prepare_14 : decode cX4_prepare 14 = .ok (.iload_n 1, 1) := dk_1027 (dk_g tcX4_prepare_1 2 rfl)
theorem dX4_prepare_15 : decode cX4_prepare 15 = .ok (.ldc 9, 2) := dk_1018 (dk_g tcX4_prepare_1 3 rfl) (dk_g tcX4_prepare_1 4 rfl) rfl
theorem dX4_prepare_17 : decode cX4_prepare 17 = .ok (.if_icmp .le 4, 3) := dk_2164 (dk_g tcX4_prepare_1 5 rfl) (dk_g tcX4_prepare_1 6 rfl) (dk_g tcX4_prepare_1 7 rfl) rfl rfl
theorem dX4_prepare_20 : decode cX4_prepare 20 = .ok (.return_, 1) := dk_1177 (dk_g tcX4_prepare_1 8 rfl)
theorem dX4_prepare_21 : decode cX4_prepare 21 = .ok (.aload_n 0, 1) := dk_1042 (dk_g tcX4_prepare_1 9 rfl)
theorem dX4_prepare_22 : decode cX4_prepare 22 = .ok (.iload_n 1, 1) := dk_1027 (dk_g tcX4_prepare_1 10 rfl)
theorem tcX4_prepare_2 : (cX4_prepare.data.toList.drop 24).take 12 = [0, 19, 3, 61, 28, 42, 180, 0, 19, 162, 0, 25] := by decide +kernel
theorem dX4_prepare_23 : decode cX4_prepare 23 = .ok (.putfield 19, 3) := dk_1181 (dk_g tcX4_prepare_1 11 rfl) (dk_g tcX4_prepare_2 0 rfl) (dk_g tcX4_prepare_2 1 rfl) rfl
theorem dX4_prepare_26 : decode cX4_prepare 26 = .ok (.iconst 0, 1) := dk_1003 (dk_g tcX4_prepare_2 2 rfl)
theorem dX4_prepare_27 : decode cX4_prepare 27 = .ok (.istore_n 2, 1) := dk_1061 (dk_g tcX4_prepare_2 3 rfl)
theorem dX4_prepare_28 : decode cX4_prepare 28 = .ok (.iload_n 2, 1) := dk_1028 (dk_g tcX4_prepare_2 4 rfl)
theorem dX4_prepare_29 : decode cX4_prepare 29 = .ok (.aload_n 0, 1) := dk_1042 (dk_g tcX4_prepare_2 5 rfl)
theorem dX4_prepare_30 : decode cX4_prepare 30 = .ok (.getfield 19, 3) := dk_1180 (dk_g tcX4_prepare_2 6 rfl) (dk_g tcX4_prepare_2 7 rfl) (dk_g tcX4_prepare_2 8 rfl) rfl
theorem dX4_prepare_33 : decode cX4_prepare 33 = .ok (.if_icmp .ge 25, 3) := dk_2162 (dk_g tcX4_prepare_2 9 rfl) (dk_g tcX4_prepare_2 10 rfl) (dk_g tcX4_prepare_2 11 rfl) rfl rfl
theorem tcX4_prepare_3 : (cX4_prepare.data.toList.drop 36).take 12 = [28, 42, 180, 0, 10, 190, 162, 0, 16, 42, 180, 0] := by decide +kernel
theorem dX4_prepare_36 : decode cX4_prepare 36 = .ok (.iload_n 2, 1) := dk_1028 (dk_g tcX4_prepare_3 0 rfl)
theorem dX4_prepare_37 : decode cX4_prepare 37 = .ok (.aload_n 0, 1) := dk_1042 (dk_g tcX4_prepare_3 1 rfl)
theorem dX4_prepare_38 : decode cX4_prepare 38 = .ok (.getfield 10, 3) := dk_1180 (dk_g tcX4_prepare_3 2 rfl) (dk_g tcX4_prepare_3 3 rfl) (dk_g tcX4_prepare_3 4 rfl) rfl
theorem dX4_prepare_41 : decode cX4_prepare 41 = .ok (.arraylength, 1) := dk_1190 (dk_g tcX4_prepare_3 5 rfl)
theorem dX4_prepare_42 : decode cX4_prepare 42 = .ok (.if_icmp .ge 16, 3) := dk_2162 (dk_g tcX4_prepare_3 6 rfl) (dk_g tcX4_prepare_3 7 rfl) (dk_g tcX4_prepare_3 8 rfl) rfl rfl
theorem dX4_prepare_45 : decode cX4_prepare 45 = .ok (.aload_n 0, 1) := dk_1042 (dk_g tcX4_prepare_3 9 rfl)
theorem tcX4_prepare_4 : (cX4_prepare.data.toList.drop 48).take 12 = [10, 28, 2, 79, 132, 2, 1, 167, 255, 229, 42, 180] := by decide +kernel
theorem dX4_prepare_46 : decode cX4_prepare 46 = .ok (.getfield 10, 3) := dk_1180 (dk_g tcX4_prepare_3 10 rfl) (dk_g tcX4_prepare_3 11 rfl) (dk_g tcX4_prepare_4 0 rfl) rfl
theorem dX4_prepare_49 : decode cX4_prepare 49 = .ok (.iload_n 2, 1) := dk_1028 (dk_g tcX4_prepare_4 1 rfl)
theorem dX4_prepare_50 : decode cX4_prepare 50 = .ok (.iconst (-1), 1) := dk_1002 (dk_g tcX4_prepare_4 2 rfl)
theorem dX4_prepare_51 : decode cX4_prepare 51 = .ok (.iastore, 1) := dk_1079 (dk_g tcX4_prepare_4 3 rfl)
theorem dX4_prepare_52 : decode cX4_prepare 52 = .ok (.iinc 2 1, 3) := dk_1132 (dk_g tcX4_prepare_4 4 rfl) (dk_g tcX4_prepare_4 5 rfl) (dk_g tcX4_prepare_4 6 rfl) rfl (by decide +kernel)
theorem dX4_prepare_55 : decode cX4_prepare 55 = .ok (.goto (-27), 3) := dk_1167 (dk_g tcX4_prepare_4 7 rfl) (dk_g tcX4_prepare_4 8 rfl) (dk_g tcX4_prepare_4 9 rfl) (by decide +kernel)
theorem dX4_prepare_58 : decode cX4_prepare 58 = .ok (.aload_n 0, 1) := dk_1042 (dk_g tcX4_prepare_4 10 rfl)
theorem tcX4_prepare_5 : (cX4_prepare.data.toList.drop 60).take 12 = [0, 19, 4, 100, 61, 28, 155, 0, 66, 28, 133, 28] := by decide +kernel
theorem dX4_prepare_59 : decode cX4_prepare 59 = .ok (.getfield 19, 3) := dk_1180 (dk_g tcX4_prepare_4 11 rfl) (dk_g tcX4_prepare_5 0 rfl) (dk_g tcX4_prepare_5 1 rfl) rfl
theorem dX4_prepare_62 : decode cX4_prepare 62 = .ok (.iconst 1, 1) := dk_1004 (dk_g tcX4_prepare_5 2 rfl)
theorem dX4_prepare_63 : decode cX4_prepare 63 = .ok (.isub, 1) := dk_1100 (dk_g tcX4_prepare_5 3 rfl)
theorem dX4_prepare_64 : decode cX4_prepare 64 = .ok (.istore_n 2, 1) := dk_1061 (dk_g tcX4_prepare_5 4 rfl)
theorem dX4_prepare_65 : decode cX4_prepare 65 = .ok (.iload_n 2, 1) := dk_1028 (dk_g tcX4_prepare_5 5 rfl)
theorem dX4_prepare_66 : decode cX4_prepare 66 = .ok (.ifCond .lt 66, 3) := dk_2155 (dk_g tcX4_prepare_5 6 rfl) (dk_g tcX4_prepare_5 7 rfl) (dk_g tcX4_prepare_5 8 rfl) rfl rfl
theorem dX4_prepare_69 : decode cX4_prepare 69 = .ok (.iload_n 2, 1) := dk_1028 (dk_g tcX4_prepare_5 9 rfl)
theorem dX4_prepare_70 : decode cX4_prepare 70 = .ok (.i2l, 1) := dk_1133 (dk_g tcX4_prepare_5 10 rfl)
theorem dX4_prepare_71 : decode cX4_prepare 71 = .ok (.iload_n 2, 1) := dk_1028 (dk_g tcX4_prepare_5 11 rfl)
theorem tcX4_prepare_6 : (cX4_prepare.data.toList.drop 72).take 12 = [133, 105, 20, 0, 55, 28, 133, 105, 97, 42, 180, 0] := by decide +kernel
theorem dX4_prepare_72 : decode cX4_prepare 72 = .ok (.i2l, 1) := dk_1133 (dk_g tcX4_prepare_6 0 rfl)
theorem dX4_prepare_73 : decode cX4_prepare 73 = .ok (.lmul, 1) := dk_1105 (dk_g tcX4_prepare_6 1 rfl)
theorem dX4_prepare_74 : decode cX4_prepare 74 = .ok (.ldc2_w 55, 3) := dk_1020 (dk_g tcX4_prepare_6 2 rfl) (dk_g tcX4_prepare_6 3 rfl) (dk_g tcX4_prepare_6 4 rfl) rfl
theorem dX4_prepare_77 : decode cX4_prepare 77 = .ok (.iload_n 2, 1) := dk_1028 (dk_g tcX4_prepare_6 5 rfl)
theorem dX4_prepare_78 : decode cX4_prepare 78 = .ok (.i2l, 1) := dk_1133 (dk_g tcX4_prepare_6 6 rfl)
theorem dX4_prepare_79 : decode cX4_prepare 79 = .ok (.lmul, 1) := dk_1105 (dk_g tcX4_prepare_6 7 rfl)
theorem dX4_prepare_80 : decode cX4_prepare 80 = .ok (.ladd, 1) := dk_1097 (dk_g tcX4_prepare_6 8 rfl)
theorem dX4_prepare_81 : decode cX4_prepare 81 = .ok (.aload_n 0, 1) := dk_1042 (dk_g tcX4_prepare_6 9 rfl)
theorem tcX4_prepare_7 : (cX4_prepare.data.toList.drop 84).take 12 = [19, 133, 113, 136, 62, 28, 42, 180, 0, 16, 190, 162] := by decide +kernel
theorem dX4_prepare_82 : decode cX4_prepare 82 = .ok (.getfield 19, 3) := dk_1180 (dk_g tcX4_prepare_6 10 rfl) (dk_g tcX4_prepare_6 11 rfl) (dk_g tcX4_prepare_7 0 rfl) rfl
theorem dX4_prepare_85 : decode cX4_prepare 85 = .ok (.i2l, 1) := dk_1133 (dk_g tcX4_prepare_7 1 rfl)
theorem dX4_prepare_86 : decode cX4_prepare 86 = .ok (.lrem, 1) := dk_1113 (dk_g tcX4_prepare_7 2 rfl)
theorem dX4_prepare_87 : decode cX4_prepare 87 = .ok (.l2i, 1) := dk_1136 (dk_g tcX4_prepare_7 3 rfl)
theorem dX4_prepare_88 : decode cX4_prepare 88 = .ok (.istore_n 3, 1) := dk_1062 (dk_g tcX4_prepare_7 4 rfl)
theorem dX4_prepare_89 : decode cX4_prepare 89 = .ok (.iload_n 2, 1) := dk_1028 (dk_g tcX4_prepare_7 5 rfl)
theorem dX4_prepare_90 : decode cX4_prepare 90 = .ok (.aload_n 0, 1) := dk_1042 (dk_g tcX4_prepare_7 6 rfl)
theorem dX4_prepare_91 : decode cX4_prepare 91 = .ok (.getfield 16, 3) := dk_1180 (dk_g tcX4_prepare_7 7 rfl) (dk_g tcX4_prepare_7 8 rfl) (dk_g tcX4_prepare_7 9 rfl) rfl
theorem dX4_prepare_94 : decode cX4_prepare 94 = .ok (.arraylength, 1) := dk_1190 (dk_g tcX4_prepare_7 10 rfl)
theorem tcX4_prepare_8 : (cX4_prepare.data.toList.drop 96).take 12 = [0, 31, 29, 42, 180, 0, 10, 190, 162, 0, 22, 42] := by decide +kernel
theorem dX4_prepare_95 : decode cX4_prepare 95 = .ok (.if_icmp .ge 31, 3) := dk_2162 (dk_g tcX4_prepare_7 11 rfl) (dk_g tcX4_prepare_8 0 rfl) (dk_g tcX4_prepare_8 1 rfl) rfl rfl
theorem dX4_prepare_98 : decode cX4_prepare 98 = .ok (.iload_n 3, 1) := dk_1029 (dk_g tcX4_prepare_8 2 rfl)
theorem dX4_prepare_99 : decode cX4_prepare 99 = .ok (.aload_n 0, 1) := dk_1042 (dk_g tcX4_prepare_8 3 rfl)
theorem dX4_prepare_100 : decode cX4_prepare 100 = .ok (.getfield 10, 3) := dk_1180 (dk_g tcX4_prepare_8 4 rfl) (dk_g tcX4_prepare_8 5 rfl) (dk_g tcX4_prepare_8 6 rfl) rfl
theorem dX4_prepare_103 : decode cX4_prepare 103 = .ok (.arraylength, 1) := dk_1190 (dk_g tcX4_prepare_8 7 rfl)
theorem dX4_prepare_104 : decode cX4_prepare 104 = .ok (.if_icmp .ge 22, 3) := dk_2162 (dk_g tcX4_prepare_8 8 rfl) (dk_g tcX4_prepare_8 9 rfl) (dk_g tcX4_prepare_8 10 rfl) rfl rfl
theorem dX4_prepare_107 : decode cX4_prepare 107 = .ok (.aload_n 0, 1) := dk_1042 (dk_g tcX4_prepare_8 11 rfl)
theorem tcX4_prepare_9 : (cX4_prepare.data.toList.drop 108).take 12 = [180, 0, 16, 28, 42, 180, 0, 10, 29, 46, 79, 42] := by decide +kernel
theorem dX4_prepare_108 : decode cX4_prepare 108 = .ok (.getfield 16, 3) := dk_1180 (dk_g tcX4_prepare_9 0 rfl) (dk_g tcX4_prepare_9 1 rfl) (dk_g tcX4_prepare_9 2 rfl) rfl
theorem dX4_prepare_111 : decode cX4_prepare 111 = .ok (.iload_n 2, 1) := dk_1028 (dk_g tcX4_prepare_9 3 rfl)
theorem dX4_prepare_112 : decode cX4_prepare 112 = .ok (.aload_n 0, 1) := dk_1042 (dk_g tcX4_prepare_9 4 rfl)
theorem dX4_prepare_113 : decode cX4_prepare 113 = .ok (.getfield 10, 3) := dk_1180 (dk_g tcX4_prepare_9 5 rfl) (dk_g tcX4_prepare_9 6 rfl) (dk_g tcX4_prepare_9 7 rfl) rfl
theorem dX4_prepare_116 : decode cX4_prepare 116 = .ok (.iload_n 3, 1) := dk_1029 (dk_g tcX4_prepare_9 8 rfl)
theorem dX4_prepare_117 : decode cX4_prepare 117 = .ok (.iaload, 1) := dk_1046 (dk_g tcX4_prepare_9 9 rfl)
theorem dX4_prepare_118 : decode cX4_prepare 118 = .ok (.iastore, 1) := dk_1079 (dk_g tcX4_prepare_9 10 rfl)
theorem dX4_prepare_119 : decode cX4_prepare 119 = .ok (.aload_n 0, 1) := dk_1042 (dk_g tcX4_prepare_9 11 rfl)
theorem tcX4_prepare_10 : (cX4_prepare.data.toList.drop 120).take 12 = [180, 0, 10, 29, 28, 79, 132, 2, 255, 167, 255, 192] := by decide +kernel
theorem dX4_prepare_120 : decode cX4_prepare 120 = .ok (.getfield 10, 3) := dk_1180 (dk_g tcX4_prepare_10 0 rfl) (dk_g tcX4_prepare_10 1 rfl) (dk_g tcX4_prepare_10 2 rfl) rfl
theorem dX4_prepare_123 : decode cX4_prepare 123 = .ok (.iload_n 3, 1) := dk_1029 (dk_g tcX4_prepare_10 3 rfl)
theorem dX4_prepare_124 : decode cX4_prepare 124 = .ok (.iload_n 2, 1) := dk_1028 (dk_g tcX4_prepare_10 4 rfl)
theorem dX4_prepare_125 : decode cX4_prepare 125 = .ok (.iastore, 1) := dk_1079 (dk_g tcX4_prepare_10 5 rfl)
theorem dX4_prepare_126 : decode cX4_prepare 126 = .ok (.iinc 2 (-1), 3) := dk_1132 (dk_g tcX4_prepare_10 6 rfl) (dk_g tcX4_prepare_10 7 rfl) (dk_g tcX4_prepare_10 8 rfl) rfl (by decide +kernel)
theorem dX4_prepare_129 : decode cX4_prepare 129 = .ok (.goto (-64), 3) := dk_1167 (dk_g tcX4_prepare_10 9 rfl) (dk_g tcX4_prepare_10 10 rfl) (dk_g tcX4_prepare_10 11 rfl) (by decide +kernel)
theorem tcX4_prepare_11 : (cX4_prepare.data.toList.drop 132).take 12 = [177] := by decide +kernel
theorem dX4_prepare_132 : decode cX4_prepare 132 = .ok (.return_, 1) := dk_1177 (dk_g tcX4_prepare_11 0 rfl)
theorem tcX4_seekThing_0 : (cX4_seekThing.data.toList.drop 0).take 12 = [42, 43, 181, 0, 26, 42, 44, 181, 0, 33, 42, 3] := by decide +kernel
theorem dX4_seekThing_0 : decode cX4_seekThing 0 = .ok (.aload_n 0, 1) := dk_1042 (dk_g tcX4_seekThing_0 0 rfl)
theorem dX4_seekThing_1 : decode cX4_seekThing 1 = .ok (.aload_n 1, 1) := dk_1043 (dk_g tcX4_seekThing_0 1 rfl)
theorem dX4_seekThing_2 : decode cX4_seekThing 2 = .ok (.putfield 26, 3) := dk_1181 (dk_g tcX4_seekThing_0 2 rfl) (dk_g tcX4_seekThing_0 3 rfl) (dk_g tcX4_seekThing_0 4 rfl) rfl
theorem dX4_seekThing_5 : decode cX4_seekThing 5 = .ok (.aload_n 0, 1) := dk_1042 (dk_g tcX4_seekThing_0 5 rfl)
theorem dX4_seekThing_6 : decode cX4_seekThing 6 = .ok (.aload_n 2, 1) := dk_1044 (dk_g tcX4_seekThing_0 6 rfl)
theorem dX4_seekThing_7 : decode cX4_seekThing 7 = .ok (.putfield 33, 3) := dk_1181 (dk_g tcX4_seekThing_0 7 rfl) (dk_g tcX4_seekThing_0 8 rfl) (dk_g tcX4_seekThing_0 9 rfl) rfl
theorem dX4_seekThing_10 : decode cX4_seekThing 10 = .ok (.aload_n 0, 1) := dk_1042 (dk_g tcX4_seekThing_0 10 rfl)
theorem dX4_seekThing_11 : decode cX4_seekThing 11 = .ok (.iconst 0, 1) := dk_1003 (dk_g tcX4_seekThing_0 11 rfl)
theorem tcX4_seekThing_1 : (cX4_seekThing.data.toList.drop 12).take 12 = [181, 0, 37, 42, 2, 181, 0, 40, 42, 29, 181, 0] := by decide +kernel
theorem dX4_seekThing_12 : decode cX4_seekThing 12 = .ok (.putfield 37, 3) := dk_1181 (dk_g tcX4_seekThing_1 0 rfl) (dk_g tcX4_seekThing_1 1 rfl) (dk_g tcX4_seekThing_1 2 rfl) rfl
theorem dX4_seekThing_15 : decode cX4_seekThing 15 = .ok (.aload_n 0, 1) := dk_1042 (dk_g tcX4_seekThing_1 3 rfl)
theorem dX4_seekThing_16 : decode cX4_seekThing 16 = .ok (.iconst (-1), 1) := dk_1002 (dk_g tcX4_seekThing_1 4 rfl)
theorem dX4_seekThing_17 : decode cX4_seekThing 17 = .ok (.putfield 40, 3) := dk_1181 (dk_g tcX4_seekThing_1 5 rfl) (dk_g tcX4_seekThing_1 6 rfl) (dk_g tcX4_seekThing_1 7 rfl) rfl
theorem dX4_seekThing_20 : decode cX4_seekThing 20 = .ok (.aload_n 0, 1) := dk_1042 (dk_g tcX4_seekThing_1 8 rfl)
theorem dX4_seekThing_21 : decode cX4_seekThing 21 = .ok (.iload_n 3, 1) := dk_1029 (dk_g tcX4_seekThing_1 9 rfl)
theorem tcX4_seekThing_2 : (cX4_seekThing.data.toList.drop 24).take 12 = [46, 42, 21, 4, 182, 0, 57, 177] := by decide +kernel
theorem dX4_seekThing_22 : decode cX4_seekThing 22 = .ok (.putfield 46, 3) := dk_1181 (dk_g tcX4_seekThing_1 10 rfl) (dk_g tcX4_seekThing_1 11 rfl) (dk_g tcX4_seekThing_2 0 rfl) rfl
theorem dX4_seekThing_25 : decode cX4_seekThing 25 = .ok (.aload_n 0, 1) := dk_1042 (dk_g tcX4_seekThing_2 1 rfl)
theorem dX4_seekThing_26 : decode cX4_seekThing 26 = .ok (.iload 4, 2) := dk_1021 (dk_g tcX4_seekThing_2 2 rfl) (dk_g tcX4_seekThing_2 3 rfl) rfl
theorem dX4_seekThing_28 : decode cX4_seekThing 28 = .ok (.invokevirtual 57, 3) := dk_1182 (dk_g tcX4_seekThing_2 4 rfl) (dk_g tcX4_seekThing_2 5 rfl) (dk_g tcX4_seekThing_2 6 rfl) rfl
theorem dX4_seekThing_31 : decode cX4_seekThing 31 = .ok (.return_, 1) := dk_1177 (dk_g tcX4_seekThing_2 7 rfl)
theorem tcX4_seekStep_0 : (cX4_seekStep.data.toList.drop 0).take 12 = [42, 43, 181, 0, 26, 42, 44, 181, 0, 33, 42, 21] := by decide +kernel
theorem dX4_seekStep_0 : decode cX4_seekStep 0 = .ok (.aload_n 0, 1) := dk_1042 (dk_g tcX4_seekStep_0 0 rfl)
theorem dX4_seekStep_1 : decode cX4_seekStep 1 = .ok (.aload_n 1, 1) := dk_1043 (dk_g tcX4_seekStep_0 1 rfl)
theorem dX4_seekStep_2 : decode cX4_seekStep 2 = .ok (.putfield 26, 3) := dk_1181 (dk_g tcX4_seekStep_0 2 rfl) (dk_g tcX4_seekStep_0 3 rfl) (dk_g tcX4_seekStep_0 4 rfl) rfl
theorem dX4_seekStep_5 : decode cX4_seekStep 5 = .ok (.aload_n 0, 1) := dk_1042 (dk_g tcX4_seekStep_0 5 rfl)
theorem dX4_seekStep_6 : decode cX4_seekStep 6 = .ok (.aload_n 2, 1) := dk_1044 (dk_g tcX4_seekStep_0 6 rfl)
theorem dX4_seekStep_7 : decode cX4_seekStep 7 = .ok (.putfield 33, 3) := dk_1181 (dk_g tcX4_seekStep_0 7 rfl) (dk_g tcX4_seekStep_0 8 rfl) (dk_g tcX4_seekStep_0 9 rfl) rfl
theorem dX4_seekStep_10 : decode cX4_seekStep 10 = .ok (.aload_n 0, 1) := dk_1042 (dk_g tcX4_seekStep_0 10 rfl)
theorem tcX4_seekStep_1 : (cX4_seekStep.data.toList.drop 12).take 12 = [5, 181, 0, 37, 42, 21, 5, 181, 0, 40, 42, 29] := by decide +kernel
theorem dX4_seekStep_11 : decode cX4_seekStep 11 = .ok (.iload 5, 2) := dk_1021 (dk_g tcX4_seekStep_0 11 rfl) (dk_g tcX4_seekStep_1 0 rfl) rfl
theorem dX4_seekStep_13 : decode cX4_seekStep 13 = .ok (.putfield 37, 3) := dk_1181 (dk_g tcX4_seekStep_1 1 rfl) (dk_g tcX4_seekStep_1 2 rfl) (dk_g tcX4_seekStep_1 3 rfl) rfl
theorem dX4_seekStep_16 : decode cX4_seekStep 16 = .ok (.aload_n 0, 1) := dk_1042 (dk_g tcX4_seekStep_1 4 rfl)
theorem dX4_seekStep_17 : decode cX4_seekStep 17 = .ok (.iload 5, 2) := dk_1021 (dk_g tcX4_seekStep_1 5 rfl) (dk_g tcX4_seekStep_1 6 rfl) rfl
theorem dX4_seekStep_19 : decode cX4_seekStep 19 = .ok (.putfield 40, 3) := dk_1181 (dk_g tcX4_seekStep_1 7 rfl) (dk_g tcX4_seekStep_1 8 rfl) (dk_g tcX4_seekStep_1 9 rfl) rfl
theorem dX4_seekStep_22 : decode cX4_seekStep 22 = .ok (.aload_n 0, 1) := dk_1042 (dk_g tcX4_seekStep_1 10 rfl)
theorem dX4_seekStep_23 : decode cX4_seekStep 23 = .ok (.iload_n 3, 1) := dk_1029 (dk_g tcX4_seekStep_1 11 rfl)
theorem tcX4_seekStep_2 : (cX4_seekStep.data.toList.drop 24).take 12 = [181, 0, 43, 42, 2, 181, 0, 46, 42, 21, 4, 182] := by decide +kernel
theorem dX4_seekStep_24 : decode cX4_seekStep 24 = .ok (.putfield 43, 3) := dk_1181 (dk_g tcX4_seekStep_2 0 rfl) (dk_g tcX4_seekStep_2 1 rfl) (dk_g tcX4_seekStep_2 2 rfl) rfl
theorem dX4_seekStep_27 : decode cX4_seekStep 27 = .ok (.aload_n 0, 1) := dk_1042 (dk_g tcX4_seekStep_2 3 rfl)
theorem dX4_seekStep_28 : decode cX4_seekStep 28 = .ok (.iconst (-1), 1) := dk_1002 (dk_g tcX4_seekStep_2 4 rfl)
theorem dX4_seekStep_29 : decode cX4_seekStep 29 = .ok (.putfield 46, 3) := dk_1181 (dk_g tcX4_seekStep_2 5 rfl) (dk_g tcX4_seekStep_2 6 rfl) (dk_g tcX4_seekStep_2 7 rfl) rfl
theorem dX4_seekStep_32 : decode cX4_seekStep 32 = .ok (.aload_n 0, 1) := dk_1042 (dk_g tcX4_seekStep_2 8 rfl)
theorem dX4_seekStep_33 : decode cX4_seekStep 33 = .ok (.iload 4, 2) := dk_1021 (dk_g tcX4_seekStep_2 9 rfl) (dk_g tcX4_seekStep_2 10 rfl) rfl
theorem tcX4_seekStep_3 : (cX4_seekStep.data.toList.drop 36).take 12 = [0, 57, 177] := by decide +kernel
theorem dX4_seekStep_35 : decode cX4_seekStep 35 = .ok (.invokevirtual 57, 3) := dk_1182 (dk_g tcX4_seekStep_2 11 rfl) (dk_g tcX4_seekStep_3 0 rfl) (dk_g tcX4_seekStep_3 1 rfl) rfl
theorem dX4_seekStep_38 : decode cX4_seekStep 38 = .ok (.return_, 1) := dk_1177 (dk_g tcX4_seekStep_3 2 rfl)
theorem tcX4_seek_0 : (cX4_seek.data.toList.drop 0).take 12 = [42, 3, 181, 0, 49, 42, 3, 181, 0, 52, 42, 180] := by decide +kernel
theorem dX4_seek_0 : decode cX4_seek 0 = .ok (.aload_n 0, 1) := dk_1042 (dk_g tcX4_seek_0 0 rfl)
theorem dX4_seek_1 : decode cX4_seek 1 = .ok (.iconst 0, 1) := dk_1003 (dk_g tcX4_seek_0 1 rfl)
theorem dX4_seek_2 : decode cX4_seek 2 = .ok (.putfield 49, 3) := dk_1181 (dk_g tcX4_seek_0 2 rfl) (dk_g tcX4_seek_0 3 rfl) (dk_g tcX4_seek_0 4 rfl) rfl
theorem dX4_seek_5 : decode cX4_seek 5 = .ok (.aload_n 0, 1) := dk_1042 (dk_g tcX4_seek_0 5 rfl)
theorem dX4_seek_6 : decode cX4_seek 6 = .ok (.iconst 0, 1) := dk_1003 (dk_g tcX4_seek_0 6 rfl)
theorem dX4_seek_7 : decode cX4_seek 7 = .ok (.putfield 52, 3) := dk_1181 (dk_g tcX4_seek_0 7 rfl) (dk_g tcX4_seek_0 8 rfl) (dk_g tcX4_seek_0 9 rfl) rfl
theorem dX4_seek_10 : decode cX4_seek 10 = .ok (.aload_n 0, 1) := dk_1042 (dk_g tcX4_seek_0 10 rfl)
theorem tcX4_seek_1 : (cX4_seek.data.toList.drop 12).take 12 = [0, 19, 158, 0, 17, 42, 42, 180, 0, 26, 180, 0] := by decide +kernel
theorem dX4_seek_11 : decode cX4_seek 11 = .ok (.getfield 19, 3) := dk_1180 (dk_g tcX4_seek_0 11 rfl) (dk_g tcX4_seek_1 0 rfl) (dk_g tcX4_seek_1 1 rfl) rfl
theorem dX4_seek_14 : decode cX4_seek 14 = .ok (.ifCond .le 17, 3) := dk_2158 (dk_g tcX4_seek_1 2 rfl) (dk_g tcX4_seek_1 3 rfl) (dk_g tcX4_seek_1 4 rfl) rfl rfl
theorem dX4_seek_17 : decode cX4_seek 17 = .ok (.aload_n 0, 1) := dk_1042 (dk_g tcX4_seek_1 5 rfl)
theorem dX4_seek_18 : decode cX4_seek 18 = .ok (.aload_n 0, 1) := dk_1042 (dk_g tcX4_seek_1 6 rfl)
theorem dX4_seek_19 : decode cX4_seek 19 = .ok (.getfield 26, 3) := dk_1180 (dk_g tcX4_seek_1 7 rfl) (dk_g tcX4_seek_1 8 rfl) (dk_g tcX4_seek_1 9 rfl) rfl
theorem tcX4_seek_2 : (cX4_seek.data.toList.drop 24).take 12 = [61, 4, 100, 27, 184, 0, 64, 177] := by decide +kernel
theorem dX4_seek_22 : decode cX4_seek 22 = .ok (.getfield 61, 3) := dk_1180 (dk_g tcX4_seek_1 10 rfl) (dk_g tcX4_seek_1 11 rfl) (dk_g tcX4_seek_2 0 rfl) rfl
theorem dX4_seek_25 : decode cX4_seek 25 = .ok (.iconst 1, 1) := dk_1004 (dk_g tcX4_seek_2 1 rfl)
theorem dX4_seek_26 : decode cX4_seek 26 = .ok (.isub, 1) := dk_1100 (dk_g tcX4_seek_2 2 rfl)
theorem dX4_seek_27 : decode cX4_seek 27 = .ok (.iload_n 1, 1) := dk_1027 (dk_g tcX4_seek_2 3 rfl)
theorem dX4_seek_28 : decode cX4_seek 28 = .ok (.invokestatic 64, 3) := dk_1184 (dk_g tcX4_seek_2 4 rfl) (dk_g tcX4_seek_2 5 rfl) (dk_g tcX4_seek_2 6 rfl) rfl
theorem dX4_seek_31 : decode cX4_seek 31 = .ok (.return_, 1) := dk_1177 (dk_g tcX4_seek_2 7 rfl)
theorem tcX4_goBack_0 : (cX4_goBack.data.toList.drop 0).take 12 = [27, 42, 180, 0, 37, 161, 0, 7, 27, 156, 0, 9] := by decide +kernel
theorem dX4_goBack_0 : decode cX4_goBack 0 = .ok (.iload_n 1, 1) := dk_1027 (dk_g tcX4_goBack_0 0 rfl)
theorem dX4_goBack_1 : decode cX4_goBack 1 = .ok (.aload_n 0, 1) := dk_1042 (dk_g tcX4_goBack_0 1 rfl)
theorem dX4_goBack_2 : decode cX4_goBack 2 = .ok (.getfield 37, 3) := dk_1180 (dk_g tcX4_goBack_0 2 rfl) (dk_g tcX4_goBack_0 3 rfl) (dk_g tcX4_goBack_0 4 rfl) rfl
theorem dX4_goBack_5 : decode cX4_goBack 5 = .ok (.if_icmp .lt 7, 3) := dk_2161 (dk_g tcX4_goBack_0 5 rfl) (dk_g tcX4_goBack_0 6 rfl) (dk_g tcX4_goBack_0 7 rfl) rfl rfl
theorem dX4_goBack_8 : decode cX4_goBack 8 = .ok (.iload_n 1, 1) := dk_1027 (dk_g tcX4_goBack_0 8 rfl)
theorem dX4_goBack_9 : decode cX4_goBack 9 = .ok (.ifCond .ge 9, 3) := dk_2156 (dk_g tcX4_goBack_0 9 rfl) (dk_g tcX4_goBack_0 10 rfl) (dk_g tcX4_goBack_0 11 rfl) rfl rfl
theorem tcX4_goBack_1 : (cX4_goBack.data.toList.drop 12).take 12 = [42, 28, 182, 0, 68, 177, 27, 42, 180, 0, 40, 160] := by decide +kernel
theorem dX4_goBack_12 : decode cX4_goBack 12 = .ok (.aload_n 0, 1) := dk_1042 (dk_g tcX4_goBack_1 0 rfl)
theorem dX4_goBack_13 : decode cX4_goBack 13 = .ok (.iload_n 2, 1) := dk_1028 (dk_g tcX4_goBack_1 1 rfl)
theorem dX4_goBack_14 : decode cX4_goBack 14 = .ok (.invokevirtual 68, 3) := dk_1182 (dk_g tcX4_goBack_1 2 rfl) (dk_g tcX4_goBack_1 3 rfl) (dk_g tcX4_goBack_1 4 rfl) rfl
theorem dX4_goBack_17 : decode cX4_goBack 17 = .ok (.return_, 1) := dk_1177 (dk_g tcX4_goBack_1 5 rfl)
theorem dX4_goBack_18 : decode cX4_goBack 18 = .ok (.iload_n 1, 1) := dk_1027 (dk_g tcX4_goBack_1 6 rfl)
theorem dX4_goBack_19 : decode cX4_goBack 19 = .ok (.aload_n 0, 1) := dk_1042 (dk_g tcX4_goBack_1 7 rfl)
theorem dX4_goBack_20 : decode cX4_goBack 20 = .ok (.getfield 40, 3) := dk_1180 (dk_g tcX4_goBack_1 8 rfl) (dk_g tcX4_goBack_1 9 rfl) (dk_g tcX4_goBack_1 10 rfl) rfl
theorem tcX4_goBack_2 : (cX4_goBack.data.toList.drop 24).take 12 = [0, 7, 4, 167, 0, 4, 3, 62, 29, 153, 0, 10] := by decide +kernel
theorem dX4_goBack_23 : decode cX4_goBack 23 = .ok (.if_icmp .ne 7, 3) := dk_2160 (dk_g tcX4_goBack_1 11 rfl) (dk_g tcX4_goBack_2 0 rfl) (dk_g tcX4_goBack_2 1 rfl) rfl rfl
theorem dX4_goBack_26 : decode cX4_goBack 26 = .ok (.iconst 1, 1) := dk_1004 (dk_g tcX4_goBack_2 2 rfl)
theorem dX4_goBack_27 : decode cX4_goBack 27 = .ok (.goto 4, 3) := dk_2167 (dk_g tcX4_goBack_2 3 rfl) (dk_g tcX4_goBack_2 4 rfl) (dk_g tcX4_goBack_2 5 rfl) rfl rfl
theorem dX4_goBack_30 : decode cX4_goBack 30 = .ok (.iconst 0, 1) := dk_1003 (dk_g tcX4_goBack_2 6 rfl)
theorem dX4_goBack_31 : decode cX4_goBack 31 = .ok (.istore_n 3, 1) := dk_1062 (dk_g tcX4_goBack_2 7 rfl)
theorem dX4_goBack_32 : decode cX4_goBack 32 = .ok (.iload_n 3, 1) := dk_1029 (dk_g tcX4_goBack_2 8 rfl)
theorem dX4_goBack_33 : decode cX4_goBack 33 = .ok (.ifCond .eq 10, 3) := dk_2153 (dk_g tcX4_goBack_2 9 rfl) (dk_g tcX4_goBack_2 10 rfl) (dk_g tcX4_goBack_2 11 rfl) rfl rfl
theorem tcX4_goBack_3 : (cX4_goBack.data.toList.drop 36).take 12 = [42, 180, 0, 43, 167, 0, 11, 42, 180, 0, 33, 27] := by decide +kernel
theorem dX4_goBack_36 : decode cX4_goBack 36 = .ok (.aload_n 0, 1) := dk_1042 (dk_g tcX4_goBack_3 0 rfl)
theorem dX4_goBack_37 : decode cX4_goBack 37 = .ok (.getfield 43, 3) := dk_1180 (dk_g tcX4_goBack_3 1 rfl) (dk_g tcX4_goBack_3 2 rfl) (dk_g tcX4_goBack_3 3 rfl) rfl
theorem dX4_goBack_40 : decode cX4_goBack 40 = .ok (.goto 11, 3) := dk_2167 (dk_g tcX4_goBack_3 4 rfl) (dk_g tcX4_goBack_3 5 rfl) (dk_g tcX4_goBack_3 6 rfl) rfl rfl
theorem dX4_goBack_43 : decode cX4_goBack 43 = .ok (.aload_n 0, 1) := dk_1042 (dk_g tcX4_goBack_3 7 rfl)
theorem dX4_goBack_44 : decode cX4_goBack 44 = .ok (.getfield 33, 3) := dk_1180 (dk_g tcX4_goBack_3 8 rfl) (dk_g tcX4_goBack_3 9 rfl) (dk_g tcX4_goBack_3 10 rfl) rfl
theorem dX4_goBack_47 : decode cX4_goBack 47 = .ok (.iload_n 1, 1) := dk_1027 (dk_g tcX4_goBack_3 11 rfl)
theorem tcX4_goBack_4 : (cX4_goBack.data.toList.drop 48).take 12 = [182, 0, 71, 54, 4, 42, 180, 0, 26, 27, 182, 0] := by decide +kernel
theorem dX4_goBack_48 : decode cX4_goBack 48 = .ok (.invokevirtual 71, 3) := dk_1182 (dk_g tcX4_goBack_4 0 rfl) (dk_g tcX4_goBack_4 1 rfl) (dk_g tcX4_goBack_4 2 rfl) rfl
theorem dX4_goBack_51 : decode cX4_goBack 51 = .ok (.istore 4, 2) := dk_1054 (dk_g tcX4_goBack_4 3 rfl) (dk_g tcX4_goBack_4 4 rfl) rfl
theorem dX4_goBack_53 : decode cX4_goBack 53 = .ok (.aload_n 0, 1) := dk_1042 (dk_g tcX4_goBack_4 5 rfl)
theorem dX4_goBack_54 : decode cX4_goBack 54 = .ok (.getfield 26, 3) := dk_1180 (dk_g tcX4_goBack_4 6 rfl) (dk_g tcX4_goBack_4 7 rfl) (dk_g tcX4_goBack_4 8 rfl) rfl
theorem dX4_goBack_57 : decode cX4_goBack 57 = .ok (.iload_n 1, 1) := dk_1027 (dk_g tcX4_goBack_4 9 rfl)
theorem tcX4_goBack_5 : (cX4_goBack.data.toList.drop 60).take 12 = [75, 29, 159, 0, 18, 42, 27, 4, 100, 42, 21, 4] := by decide +kernel
theorem dX4_goBack_58 : decode cX4_goBack 58 = .ok (.invokevirtual 75, 3) := dk_1182 (dk_g tcX4_goBack_4 10 rfl) (dk_g tcX4_goBack_4 11 rfl) (dk_g tcX4_goBack_5 0 rfl) rfl
theorem dX4_goBack_61 : decode cX4_goBack 61 = .ok (.iload_n 3, 1) := dk_1029 (dk_g tcX4_goBack_5 1 rfl)
theorem dX4_goBack_62 : decode cX4_goBack 62 = .ok (.if_icmp .eq 18, 3) := dk_2159 (dk_g tcX4_goBack_5 2 rfl) (dk_g tcX4_goBack_5 3 rfl) (dk_g tcX4_goBack_5 4 rfl) rfl rfl
theorem dX4_goBack_65 : decode cX4_goBack 65 = .ok (.aload_n 0, 1) := dk_1042 (dk_g tcX4_goBack_5 5 rfl)
theorem dX4_goBack_66 : decode cX4_goBack 66 = .ok (.iload_n 1, 1) := dk_1027 (dk_g tcX4_goBack_5 6 rfl)
theorem dX4_goBack_67 : decode cX4_goBack 67 = .ok (.iconst 1, 1) := dk_1004 (dk_g tcX4_goBack_5 7 rfl)
theorem dX4_goBack_68 : decode cX4_goBack 68 = .ok (.isub, 1) := dk_1100 (dk_g tcX4_goBack_5 8 rfl)
theorem dX4_goBack_69 : decode cX4_goBack 69 = .ok (.aload_n 0, 1) := dk_1042 (dk_g tcX4_goBack_5 9 rfl)
theorem dX4_goBack_70 : decode cX4_goBack 70 = .ok (.iload 4, 2) := dk_1021 (dk_g tcX4_goBack_5 10 rfl) (dk_g tcX4_goBack_5 11 rfl) rfl
theorem tcX4_goBack_6 : (cX4_goBack.data.toList.drop 72).take 12 = [28, 182, 0, 79, 184, 0, 64, 177, 42, 21, 4, 28] := by decide +kernel
theorem dX4_goBack_72 : decode cX4_goBack 72 = .ok (.iload_n 2, 1) := dk_1028 (dk_g tcX4_goBack_6 0 rfl)
theorem dX4_goBack_73 : decode cX4_goBack 73 = .ok (.invokevirtual 79, 3) := dk_1182 (dk_g tcX4_goBack_6 1 rfl) (dk_g tcX4_goBack_6 2 rfl) (dk_g tcX4_goBack_6 3 rfl) rfl
theorem dX4_goBack_76 : decode cX4_goBack 76 = .ok (.invokestatic 64, 3) := dk_1184 (dk_g tcX4_goBack_6 4 rfl) (dk_g tcX4_goBack_6 5 rfl) (dk_g tcX4_goBack_6 6 rfl) rfl
theorem dX4_goBack_79 : decode cX4_goBack 79 = .ok (.return_, 1) := dk_1177 (dk_g tcX4_goBack_6 7 rfl)
theorem dX4_goBack_80 : decode cX4_goBack 80 = .ok (.aload_n 0, 1) := dk_1042 (dk_g tcX4_goBack_6 8 rfl)
theorem dX4_goBack_81 : decode cX4_goBack 81 = .ok (.iload 4, 2) := dk_1021 (dk_g tcX4_goBack_6 9 rfl) (dk_g tcX4_goBack_6 10 rfl) rfl
theorem dX4_goBack_83 : decode cX4_goBack 83 = .ok (.iload_n 2, 1) := dk_1028 (dk_g tcX4_goBack_6 11 rfl)
theorem tcX4_goBack_7 : (cX4_goBack.data.toList.drop 84).take 12 = [182, 0, 83, 54, 5, 3, 54, 6, 21, 6, 42, 180] := by decide +kernel
theorem dX4_goBack_84 : decode cX4_goBack 84 = .ok (.invokevirtual 83, 3) := dk_1182 (dk_g tcX4_goBack_7 0 rfl) (dk_g tcX4_goBack_7 1 rfl) (dk_g tcX4_goBack_7 2 rfl) rfl
theorem dX4_goBack_87 : decode cX4_goBack 87 = .ok (.istore 5, 2) := dk_1054 (dk_g tcX4_goBack_7 3 rfl) (dk_g tcX4_goBack_7 4 rfl) rfl
theorem dX4_goBack_89 : decode cX4_goBack 89 = .ok (.iconst 0, 1) := dk_1003 (dk_g tcX4_goBack_7 5 rfl)
theorem dX4_goBack_90 : decode cX4_goBack 90 = .ok (.istore 6, 2) := dk_1054 (dk_g tcX4_goBack_7 6 rfl) (dk_g tcX4_goBack_7 7 rfl) rfl
theorem dX4_goBack_92 : decode cX4_goBack 92 = .ok (.iload 6, 2) := dk_1021 (dk_g tcX4_goBack_7 8 rfl) (dk_g tcX4_goBack_7 9 rfl) rfl
theorem dX4_goBack_94 : decode cX4_goBack 94 = .ok (.aload_n 0, 1) := dk_1042 (dk_g tcX4_goBack_7 10 rfl)
theorem tcX4_goBack_8 : (cX4_goBack.data.toList.drop 96).take 12 = [0, 19, 162, 0, 43, 21, 5, 155, 0, 38, 21, 5] := by decide +kernel
theorem dX4_goBack_95 : decode cX4_goBack 95 = .ok (.getfield 19, 3) := dk_1180 (dk_g tcX4_goBack_7 11 rfl) (dk_g tcX4_goBack_8 0 rfl) (dk_g tcX4_goBack_8 1 rfl) rfl
theorem dX4_goBack_98 : decode cX4_goBack 98 = .ok (.if_icmp .ge 43, 3) := dk_2162 (dk_g tcX4_goBack_8 2 rfl) (dk_g tcX4_goBack_8 3 rfl) (dk_g tcX4_goBack_8 4 rfl) rfl rfl
theorem dX4_goBack_101 : decode cX4_goBack 101 = .ok (.iload 5, 2) := dk_1021 (dk_g tcX4_goBack_8 5 rfl) (dk_g tcX4_goBack_8 6 rfl) rfl
theorem dX4_goBack_103 : decode cX4_goBack 103 = .ok (.ifCond .lt 38, 3) := dk_2155 (dk_g tcX4_goBack_8 7 rfl) (dk_g tcX4_goBack_8 8 rfl) (dk_g tcX4_goBack_8 9 rfl) rfl rfl
theorem dX4_goBack_106 : decode cX4_goBack 106 = .ok (.iload 5, 2) := dk_1021 (dk_g tcX4_goBack_8 10 rfl) (dk_g tcX4_goBack_8 11 rfl) rfl
theorem tcX4_goBack_9 : (cX4_goBack.data.toList.drop 108).take 12 = [18, 9, 162, 0, 31, 42, 27, 4, 100, 42, 21, 5] := by decide +kernel
theorem dX4_goBack_108 : decode cX4_goBack 108 = .ok (.ldc 9, 2) := dk_1018 (dk_g tcX4_goBack_9 0 rfl) (dk_g tcX4_goBack_9 1 rfl) rfl
theorem dX4_goBack_110 : decode cX4_goBack 110 = .ok (.if_icmp .ge 31, 3) := dk_2162 (dk_g tcX4_goBack_9 2 rfl) (dk_g tcX4_goBack_9 3 rfl) (dk_g tcX4_goBack_9 4 rfl) rfl rfl
theorem dX4_goBack_113 : decode cX4_goBack 113 = .ok (.aload_n 0, 1) := dk_1042 (dk_g tcX4_goBack_9 5 rfl)
theorem dX4_goBack_114 : decode cX4_goBack 114 = .ok (.iload_n 1, 1) := dk_1027 (dk_g tcX4_goBack_9 6 rfl)
theorem dX4_goBack_115 : decode cX4_goBack 115 = .ok (.iconst 1, 1) := dk_1004 (dk_g tcX4_goBack_9 7 rfl)
theorem dX4_goBack_116 : decode cX4_goBack 116 = .ok (.isub, 1) := dk_1100 (dk_g tcX4_goBack_9 8 rfl)
theorem dX4_goBack_117 : decode cX4_goBack 117 = .ok (.aload_n 0, 1) := dk_1042 (dk_g tcX4_goBack_9 9 rfl)
theorem dX4_goBack_118 : decode cX4_goBack 118 = .ok (.iload 5, 2) := dk_1021 (dk_g tcX4_goBack_9 10 rfl) (dk_g tcX4_goBack_9 11 rfl) rfl
theorem tcX4_goBack_10 : (cX4_goBack.data.toList.drop 120).take 12 = [182, 0, 86, 184, 0, 64, 42, 180, 0, 16, 21, 5] := by decide +kernel
theorem dX4_goBack_120 : decode cX4_goBack 120 = .ok (.invokevirtual 86, 3) := dk_1182 (dk_g tcX4_goBack_10 0 rfl) (dk_g tcX4_goBack_10 1 rfl) (dk_g tcX4_goBack_10 2 rfl) rfl
theorem dX4_goBack_123 : decode cX4_goBack 123 = .ok (.invokestatic 64, 3) := dk_1184 (dk_g tcX4_goBack_10 3 rfl) (dk_g tcX4_goBack_10 4 rfl) (dk_g tcX4_goBack_10 5 rfl) rfl
theorem dX4_goBack_126 : decode cX4_goBack 126 = .ok (.aload_n 0, 1) := dk_1042 (dk_g tcX4_goBack_10 6 rfl)
theorem dX4_goBack_127 : decode cX4_goBack 127 = .ok (.getfield 16, 3) := dk_1180 (dk_g tcX4_goBack_10 7 rfl) (dk_g tcX4_goBack_10 8 rfl) (dk_g tcX4_goBack_10 9 rfl) rfl
theorem dX4_goBack_130 : decode cX4_goBack 130 = .ok (.iload 5, 2) := dk_1021 (dk_g tcX4_goBack_10 10 rfl) (dk_g tcX4_goBack_10 11 rfl) rfl
theorem tcX4_goBack_11 : (cX4_goBack.data.toList.drop 132).take 12 = [46, 54, 5, 132, 6, 1, 167, 255, 210, 177] := by decide +kernel
theorem dX4_goBack_132 : decode cX4_goBack 132 = .ok (.iaload, 1) := dk_1046 (dk_g tcX4_goBack_11 0 rfl)
theorem dX4_goBack_133 : decode cX4_goBack 133 = .ok (.istore 5, 2) := dk_1054 (dk_g tcX4_goBack_11 1 rfl) (dk_g tcX4_goBack_11 2 rfl) rfl
theorem dX4_goBack_135 : decode cX4_goBack 135 = .ok (.iinc 6 1, 3) := dk_1132 (dk_g tcX4_goBack_11 3 rfl) (dk_g tcX4_goBack_11 4 rfl) (dk_g tcX4_goBack_11 5 rfl) rfl (by decide +kernel)
theorem dX4_goBack_138 : decode cX4_goBack 138 = .ok (.goto (-46), 3) := dk_1167 (dk_g tcX4_goBack_11 6 rfl) (dk_g tcX4_goBack_11 7 rfl) (dk_g tcX4_goBack_11 8 rfl) (by decide +kernel)
theorem dX4_goBack_141 : decode cX4_goBack 141 = .ok (.return_, 1) := dk_1177 (dk_g tcX4_goBack_11 9 rfl)
theorem tcX4_take_0 : (cX4_take.data.toList.drop 0).take 12 = [27, 42, 180, 0, 46, 160, 0, 4, 177, 42, 42, 180] := by decide +kernel
theorem dX4_take_0 : decode cX4_take 0 = .ok (.iload_n 1, 1) := dk_1027 (dk_g tcX4_take_0 0 rfl)
theorem dX4_take_1 : decode cX4_take 1 = .ok (.aload_n 0, 1) := dk_1042 (dk_g tcX4_take_0 1 rfl)
theorem dX4_take_2 : decode cX4_take 2 = .ok (.getfield 46, 3) := dk_1180 (dk_g tcX4_take_0 2 rfl) (dk_g tcX4_take_0 3 rfl) (dk_g tcX4_take_0 4 rfl) rfl
theorem dX4_take_5 : decode cX4_take 5 = .ok (.if_icmp .ne 4, 3) := dk_2160 (dk_g tcX4_take_0 5 rfl) (dk_g tcX4_take_0 6 rfl) (dk_g tcX4_take_0 7 rfl) rfl rfl
theorem dX4_take_8 : decode cX4_take 8 = .ok (.return_, 1) := dk_1177 (dk_g tcX4_take_0 8 rfl)
theorem dX4_take_9 : decode cX4_take 9 = .ok (.aload_n 0, 1) := dk_1042 (dk_g tcX4_take_0 9 rfl)
theorem dX4_take_10 : decode cX4_take 10 = .ok (.aload_n 0, 1) := dk_1042 (dk_g tcX4_take_0 10 rfl)
theorem tcX4_take_1 : (cX4_take.data.toList.drop 12).take 12 = [0, 49, 154, 0, 7, 27, 167, 0, 11, 42, 180, 0] := by decide +kernel
theorem dX4_take_11 : decode cX4_take 11 = .ok (.getfield 49, 3) := dk_1180 (dk_g tcX4_take_0 11 rfl) (dk_g tcX4_take_1 0 rfl) (dk_g tcX4_take_1 1 rfl) rfl
theorem dX4_take_14 : decode cX4_take 14 = .ok (.ifCond .ne 7, 3) := dk_2154 (dk_g tcX4_take_1 2 rfl) (dk_g tcX4_take_1 3 rfl) (dk_g tcX4_take_1 4 rfl) rfl rfl
theorem dX4_take_17 : decode cX4_take 17 = .ok (.iload_n 1, 1) := dk_1027 (dk_g tcX4_take_1 5 rfl)
theorem dX4_take_18 : decode cX4_take 18 = .ok (.goto 11, 3) := dk_2167 (dk_g tcX4_take_1 6 rfl) (dk_g tcX4_take_1 7 rfl) (dk_g tcX4_take_1 8 rfl) rfl rfl
theorem dX4_take_21 : decode cX4_take 21 = .ok (.aload_n 0, 1) := dk_1042 (dk_g tcX4_take_1 9 rfl)
theorem tcX4_take_2 : (cX4_take.data.toList.drop 24).take 12 = [52, 27, 184, 0, 89, 181, 0, 52, 42, 89, 180, 0] := by decide +kernel
theorem dX4_take_22 : decode cX4_take 22 = .ok (.getfield 52, 3) := dk_1180 (dk_g tcX4_take_1 10 rfl) (dk_g tcX4_take_1 11 rfl) (dk_g tcX4_take_2 0 rfl) rfl
theorem dX4_take_25 : decode cX4_take 25 = .ok (.iload_n 1, 1) := dk_1027 (dk_g tcX4_take_2 1 rfl)
theorem dX4_take_26 : decode cX4_take 26 = .ok (.invokestatic 89, 3) := dk_1184 (dk_g tcX4_take_2 2 rfl) (dk_g tcX4_take_2 3 rfl) (dk_g tcX4_take_2 4 rfl) rfl
theorem dX4_take_29 : decode cX4_take 29 = .ok (.putfield 52, 3) := dk_1181 (dk_g tcX4_take_2 5 rfl) (dk_g tcX4_take_2 6 rfl) (dk_g tcX4_take_2 7 rfl) rfl
theorem dX4_take_32 : decode cX4_take 32 = .ok (.aload_n 0, 1) := dk_1042 (dk_g tcX4_take_2 8 rfl)
theorem dX4_take_33 : decode cX4_take 33 = .ok (.dup, 1) := dk_1089 (dk_g tcX4_take_2 9 rfl)
theorem tcX4_take_3 : (cX4_take.data.toList.drop 36).take 12 = [49, 4, 96, 181, 0, 49, 177] := by decide +kernel
theorem dX4_take_34 : decode cX4_take 34 = .ok (.getfield 49, 3) := dk_1180 (dk_g tcX4_take_2 10 rfl) (dk_g tcX4_take_2 11 rfl) (dk_g tcX4_take_3 0 rfl) rfl
theorem dX4_take_37 : decode cX4_take 37 = .ok (.iconst 1, 1) := dk_1004 (dk_g tcX4_take_3 1 rfl)
theorem dX4_take_38 : decode cX4_take 38 = .ok (.iadd, 1) := dk_1096 (dk_g tcX4_take_3 2 rfl)
theorem dX4_take_39 : decode cX4_take 39 = .ok (.putfield 49, 3) := dk_1181 (dk_g tcX4_take_3 3 rfl) (dk_g tcX4_take_3 4 rfl) (dk_g tcX4_take_3 5 rfl) rfl
theorem dX4_take_42 : decode cX4_take 42 = .ok (.return_, 1) := dk_1177 (dk_g tcX4_take_3 6 rfl)
theorem tcX4_secondOf_0 : (cX4_secondOf.data.toList.drop 0).take 12 = [42, 28, 42, 180, 0, 19, 27, 3, 184, 0, 94, 100] := by decide +kernel
theorem dX4_secondOf_0 : decode cX4_secondOf 0 = .ok (.aload_n 0, 1) := dk_1042 (dk_g tcX4_secondOf_0 0 rfl)
theorem dX4_secondOf_1 : decode cX4_secondOf 1 = .ok (.iload_n 2, 1) := dk_1028 (dk_g tcX4_secondOf_0 1 rfl)
theorem dX4_secondOf_2 : decode cX4_secondOf 2 = .ok (.aload_n 0, 1) := dk_1042 (dk_g tcX4_secondOf_0 2 rfl)
theorem dX4_secondOf_3 : decode cX4_secondOf 3 = .ok (.getfield 19, 3) := dk_1180 (dk_g tcX4_secondOf_0 3 rfl) (dk_g tcX4_secondOf_0 4 rfl) (dk_g tcX4_secondOf_0 5 rfl) rfl
theorem dX4_secondOf_6 : decode cX4_secondOf 6 = .ok (.iload_n 1, 1) := dk_1027 (dk_g tcX4_secondOf_0 6 rfl)
theorem dX4_secondOf_7 : decode cX4_secondOf 7 = .ok (.iconst 0, 1) := dk_1003 (dk_g tcX4_secondOf_0 7 rfl)
theorem dX4_secondOf_8 : decode cX4_secondOf 8 = .ok (.invokestatic 94, 3) := dk_1184 (dk_g tcX4_secondOf_0 8 rfl) (dk_g tcX4_secondOf_0 9 rfl) (dk_g tcX4_secondOf_0 10 rfl) rfl
theorem dX4_secondOf_11 : decode cX4_secondOf 11 = .ok (.isub, 1) := dk_1100 (dk_g tcX4_secondOf_0 11 rfl)
theorem tcX4_secondOf_1 : (cX4_secondOf.data.toList.drop 12).take 12 = [133, 182, 0, 98, 172] := by decide +kernel
theorem dX4_secondOf_12 : decode cX4_secondOf 12 = .ok (.i2l, 1) := dk_1133 (dk_g tcX4_secondOf_1 0 rfl)
theorem dX4_secondOf_13 : decode cX4_secondOf 13 = .ok (.invokevirtual 98, 3) := dk_1182 (dk_g tcX4_secondOf_1 1 rfl) (dk_g tcX4_secondOf_1 2 rfl) (dk_g tcX4_secondOf_1 3 rfl) rfl
theorem dX4_secondOf_16 : decode cX4_secondOf 16 = .ok (.ireturn, 1) := dk_1172 (dk_g tcX4_secondOf_1 4 rfl)
theorem tcX4_leastRoot_0 : (cX4_leastRoot.data.toList.drop 0).take 12 = [42, 28, 27, 100, 16, 7, 100, 133, 182, 0, 98, 62] := by decide +kernel
theorem dX4_leastRoot_0 : decode cX4_leastRoot 0 = .ok (.aload_n 0, 1) := dk_1042 (dk_g tcX4_leastRoot_0 0 rfl)
theorem dX4_leastRoot_1 : decode cX4_leastRoot 1 = .ok (.iload_n 2, 1) := dk_1028 (dk_g tcX4_leastRoot_0 1 rfl)
theorem dX4_leastRoot_2 : decode cX4_leastRoot 2 = .ok (.iload_n 1, 1) := dk_1027 (dk_g tcX4_leastRoot_0 2 rfl)
theorem dX4_leastRoot_3 : decode cX4_leastRoot 3 = .ok (.isub, 1) := dk_1100 (dk_g tcX4_leastRoot_0 3 rfl)
theorem dX4_leastRoot_4 : decode cX4_leastRoot 4 = .ok (.bipush 7, 2) := dk_1016 (dk_g tcX4_leastRoot_0 4 rfl) (dk_g tcX4_leastRoot_0 5 rfl) (by decide +kernel)
theorem dX4_leastRoot_6 : decode cX4_leastRoot 6 = .ok (.isub, 1) := dk_1100 (dk_g tcX4_leastRoot_0 6 rfl)
theorem dX4_leastRoot_7 : decode cX4_leastRoot 7 = .ok (.i2l, 1) := dk_1133 (dk_g tcX4_leastRoot_0 7 rfl)
theorem dX4_leastRoot_8 : decode cX4_leastRoot 8 = .ok (.invokevirtual 98, 3) := dk_1182 (dk_g tcX4_leastRoot_0 8 rfl) (dk_g tcX4_leastRoot_0 9 rfl) (dk_g tcX4_leastRoot_0 10 rfl) rfl
theorem dX4_leastRoot_11 : decode cX4_leastRoot 11 = .ok (.istore_n 3, 1) := dk_1062 (dk_g tcX4_leastRoot_0 11 rfl)
theorem tcX4_leastRoot_1 : (cX4_leastRoot.data.toList.drop 12).take 12 = [29, 155, 0, 21, 29, 42, 180, 0, 10, 190, 162, 0] := by decide +kernel
theorem dX4_leastRoot_12 : decode cX4_leastRoot 12 = .ok (.iload_n 3, 1) := dk_1029 (dk_g tcX4_leastRoot_1 0 rfl)
theorem dX4_leastRoot_13 : decode cX4_leastRoot 13 = .ok (.ifCond .lt 21, 3) := dk_2155 (dk_g tcX4_leastRoot_1 1 rfl) (dk_g tcX4_leastRoot_1 2 rfl) (dk_g tcX4_leastRoot_1 3 rfl) rfl rfl
theorem dX4_leastRoot_16 : decode cX4_leastRoot 16 = .ok (.iload_n 3, 1) := dk_1029 (dk_g tcX4_leastRoot_1 4 rfl)
theorem dX4_leastRoot_17 : decode cX4_leastRoot 17 = .ok (.aload_n 0, 1) := dk_1042 (dk_g tcX4_leastRoot_1 5 rfl)
theorem dX4_leastRoot_18 : decode cX4_leastRoot 18 = .ok (.getfield 10, 3) := dk_1180 (dk_g tcX4_leastRoot_1 6 rfl) (dk_g tcX4_leastRoot_1 7 rfl) (dk_g tcX4_leastRoot_1 8 rfl) rfl
theorem dX4_leastRoot_21 : decode cX4_leastRoot 21 = .ok (.arraylength, 1) := dk_1190 (dk_g tcX4_leastRoot_1 9 rfl)
theorem tcX4_leastRoot_2 : (cX4_leastRoot.data.toList.drop 24).take 12 = [12, 42, 180, 0, 10, 29, 46, 167, 0, 4, 2, 172] := by decide +kernel
theorem dX4_leastRoot_22 : decode cX4_leastRoot 22 = .ok (.if_icmp .ge 12, 3) := dk_2162 (dk_g tcX4_leastRoot_1 10 rfl) (dk_g tcX4_leastRoot_1 11 rfl) (dk_g tcX4_leastRoot_2 0 rfl) rfl rfl
theorem dX4_leastRoot_25 : decode cX4_leastRoot 25 = .ok (.aload_n 0, 1) := dk_1042 (dk_g tcX4_leastRoot_2 1 rfl)
theorem dX4_leastRoot_26 : decode cX4_leastRoot 26 = .ok (.getfield 10, 3) := dk_1180 (dk_g tcX4_leastRoot_2 2 rfl) (dk_g tcX4_leastRoot_2 3 rfl) (dk_g tcX4_leastRoot_2 4 rfl) rfl
theorem dX4_leastRoot_29 : decode cX4_leastRoot 29 = .ok (.iload_n 3, 1) := dk_1029 (dk_g tcX4_leastRoot_2 5 rfl)
theorem dX4_leastRoot_30 : decode cX4_leastRoot 30 = .ok (.iaload, 1) := dk_1046 (dk_g tcX4_leastRoot_2 6 rfl)
theorem dX4_leastRoot_31 : decode cX4_leastRoot 31 = .ok (.goto 4, 3) := dk_2167 (dk_g tcX4_leastRoot_2 7 rfl) (dk_g tcX4_leastRoot_2 8 rfl) (dk_g tcX4_leastRoot_2 9 rfl) rfl rfl
theorem dX4_leastRoot_34 : decode cX4_leastRoot 34 = .ok (.iconst (-1), 1) := dk_1002 (dk_g tcX4_leastRoot_2 10 rfl)
theorem dX4_leastRoot_35 : decode cX4_leastRoot 35 = .ok (.ireturn, 1) := dk_1172 (dk_g tcX4_leastRoot_2 11 rfl)
theorem tcX4_firstOf_0 : (cX4_firstOf.data.toList.drop 0).take 12 = [42, 27, 133, 20, 0, 102, 101, 182, 0, 98, 172] := by decide +kernel
theorem dX4_firstOf_0 : decode cX4_firstOf 0 = .ok (.aload_n 0, 1) := dk_1042 (dk_g tcX4_firstOf_0 0 rfl)
theorem dX4_firstOf_1 : decode cX4_firstOf 1 = .ok (.iload_n 1, 1) := dk_1027 (dk_g tcX4_firstOf_0 1 rfl)
theorem dX4_firstOf_2 : decode cX4_firstOf 2 = .ok (.i2l, 1) := dk_1133 (dk_g tcX4_firstOf_0 2 rfl)
theorem dX4_firstOf_3 : decode cX4_firstOf 3 = .ok (.ldc2_w 102, 3) := dk_1020 (dk_g tcX4_firstOf_0 3 rfl) (dk_g tcX4_firstOf_0 4 rfl) (dk_g tcX4_firstOf_0 5 rfl) rfl
theorem dX4_firstOf_6 : decode cX4_firstOf 6 = .ok (.lsub, 1) := dk_1101 (dk_g tcX4_firstOf_0 6 rfl)
theorem dX4_firstOf_7 : decode cX4_firstOf 7 = .ok (.invokevirtual 98, 3) := dk_1182 (dk_g tcX4_firstOf_0 7 rfl) (dk_g tcX4_firstOf_0 8 rfl) (dk_g tcX4_firstOf_0 9 rfl) rfl
theorem dX4_firstOf_10 : decode cX4_firstOf 10 = .ok (.ireturn, 1) := dk_1172 (dk_g tcX4_firstOf_0 10 rfl)
theorem tcX4_restOf_0 : (cX4_restOf.data.toList.drop 0).take 12 = [42, 180, 0, 19, 158, 0, 16, 31, 42, 180, 0, 19] := by decide +kernel
theorem dX4_restOf_0 : decode cX4_restOf 0 = .ok (.aload_n 0, 1) := dk_1042 (dk_g tcX4_restOf_0 0 rfl)
theorem dX4_restOf_1 : decode cX4_restOf 1 = .ok (.getfield 19, 3) := dk_1180 (dk_g tcX4_restOf_0 1 rfl) (dk_g tcX4_restOf_0 2 rfl) (dk_g tcX4_restOf_0 3 rfl) rfl
theorem dX4_restOf_4 : decode cX4_restOf 4 = .ok (.ifCond .le 16, 3) := dk_2158 (dk_g tcX4_restOf_0 4 rfl) (dk_g tcX4_restOf_0 5 rfl) (dk_g tcX4_restOf_0 6 rfl) rfl rfl
theorem dX4_restOf_7 : decode cX4_restOf 7 = .ok (.lload_n 1, 1) := dk_1031 (dk_g tcX4_restOf_0 7 rfl)
theorem dX4_restOf_8 : decode cX4_restOf 8 = .ok (.aload_n 0, 1) := dk_1042 (dk_g tcX4_restOf_0 8 rfl)
theorem dX4_restOf_9 : decode cX4_restOf 9 = .ok (.getfield 19, 3) := dk_1180 (dk_g tcX4_restOf_0 9 rfl) (dk_g tcX4_restOf_0 10 rfl) (dk_g tcX4_restOf_0 11 rfl) rfl
theorem tcX4_restOf_1 : (cX4_restOf.data.toList.drop 12).take 12 = [133, 184, 0, 104, 136, 167, 0, 4, 3, 172] := by decide +kernel
theorem dX4_restOf_12 : decode cX4_restOf 12 = .ok (.i2l, 1) := dk_1133 (dk_g tcX4_restOf_1 0 rfl)
theorem dX4_restOf_13 : decode cX4_restOf 13 = .ok (.invokestatic 104, 3) := dk_1184 (dk_g tcX4_restOf_1 1 rfl) (dk_g tcX4_restOf_1 2 rfl) (dk_g tcX4_restOf_1 3 rfl) rfl
theorem dX4_restOf_16 : decode cX4_restOf 16 = .ok (.l2i, 1) := dk_1136 (dk_g tcX4_restOf_1 4 rfl)
theorem dX4_restOf_17 : decode cX4_restOf 17 = .ok (.goto 4, 3) := dk_2167 (dk_g tcX4_restOf_1 5 rfl) (dk_g tcX4_restOf_1 6 rfl) (dk_g tcX4_restOf_1 7 rfl) rfl rfl
theorem dX4_restOf_20 : decode cX4_restOf 20 = .ok (.iconst 0, 1) := dk_1003 (dk_g tcX4_restOf_1 8 rfl)
theorem dX4_restOf_21 : decode cX4_restOf 21 = .ok (.ireturn, 1) := dk_1172 (dk_g tcX4_restOf_1 9 rfl)
theorem tcX5_init_0 : (cX5_init.data.toList.drop 0).take 12 = [42, 183, 0, 3, 42, 16, 64, 188, 10, 181, 0, 9] := by decide +kernel
theorem dX5_init_0 : decode cX5_init 0 = .ok (.aload_n 0, 1) := dk_1042 (dk_g tcX5_init_0 0 rfl)
theorem dX5_init_1 : decode cX5_init 1 = .ok (.invokespecial 3, 3) := dk_1183 (dk_g tcX5_init_0 1 rfl) (dk_g tcX5_init_0 2 rfl) (dk_g tcX5_init_0 3 rfl) rfl
theorem dX5_init_4 : decode cX5_init 4 = .ok (.aload_n 0, 1) := dk_1042 (dk_g tcX5_init_0 4 rfl)
theorem dX5_init_5 : decode cX5_init 5 = .ok (.bipush 64, 2) := dk_1016 (dk_g tcX5_init_0 5 rfl) (dk_g tcX5_init_0 6 rfl) (by decide +kernel)
theorem dX5_init_7 : decode cX5_init 7 = .ok (.newarray .int, 2) := dk_1188_10 (dk_g tcX5_init_0 7 rfl) (dk_g tcX5_init_0 8 rfl)
theorem dX5_init_9 : decode cX5_init 9 = .ok (.putfield 9, 3) := dk_1181 (dk_g tcX5_init_0 9 rfl) (dk_g tcX5_init_0 10 rfl) (dk_g tcX5_init_0 11 rfl) rfl
theorem tcX5_init_1 : (cX5_init.data.toList.drop 12).take 12 = [42, 3, 181, 0, 15, 177] := by decide +kernel
theorem dX5_init_12 : decode cX5_init 12 = .ok (.aload_n 0, 1) := dk_1042 (dk_g tcX5_init_1 0 rfl)
theorem dX5_init_13 : decode cX5_init 13 = .ok (.iconst 0, 1) := dk_1003 (dk_g tcX5_init_1 1 rfl)
theorem dX5_init_14 : decode cX5_init 14 = .ok (.putfield 15, 3) := dk_1181 (dk_g tcX5_init_1 2 rfl) (dk_g tcX5_init_1 3 rfl) (dk_g tcX5_init_1 4 rfl) rfl
theorem dX5_init_17 : decode cX5_init 17 = .ok (.return_, 1) := dk_1177 (dk_g tcX5_init_1 5 rfl)
theorem tcX5_at_0 : (cX5_at.data.toList.drop 0).take 12 = [27, 155, 0, 29, 27, 42, 180, 0, 15, 162, 0, 21] := by decide +kernel
theorem dX5_at_0 : decode cX5_at 0 = .ok (.iload_n 1, 1) := dk_1027 (dk_g tcX5_at_0 0 rfl)
theorem dX5_at_1 : decode cX5_at 1 = .ok (.ifCond .lt 29, 3) := dk_2155 (dk_g tcX5_at_0 1 rfl) (dk_g tcX5_at_0 2 rfl) (dk_g tcX5_at_0 3 rfl) rfl rfl
theorem dX5_at_4 : decode cX5_at 4 = .ok (.iload_n 1, 1) := dk_1027 (dk_g tcX5_at_0 4 rfl)
theorem dX5_at_5 : decode cX5_at 5 = .ok (.aload_n 0, 1) := dk_1042 (dk_g tcX5_at_0 5 rfl)
theorem dX5_at_6 : decode cX5_at 6 = .ok (.getfield 15, 3) := dk_1180 (dk_g tcX5_at_0 6 rfl) (dk_g tcX5_at_0 7 rfl) (dk_g tcX5_at_0 8 rfl) rfl
theorem dX5_at_9 : decode cX5_at 9 = .ok (.if_icmp .ge 21, 3) := dk_2162 (dk_g tcX5_at_0 9 rfl) (dk_g tcX5_at_0 10 rfl) (dk_g tcX5_at_0 11 rfl) rfl rfl
theorem tcX5_at_1 : (cX5_at.data.toList.drop 12).take 12 = [27, 42, 180, 0, 9, 190, 162, 0, 12, 42, 180, 0] := by decide +kernel
theorem dX5_at_12 : decode cX5_at 12 = .ok (.iload_n 1, 1) := dk_1027 (dk_g tcX5_at_1 0 rfl)
theorem dX5_at_13 : decode cX5_at 13 = .ok (.aload_n 0, 1) := dk_1042 (dk_g tcX5_at_1 1 rfl)
theorem dX5_at_14 : decode cX5_at 14 = .ok (.getfield 9, 3) := dk_1180 (dk_g tcX5_at_1 2 rfl) (dk_g tcX5_at_1 3 rfl) (dk_g tcX5_at_1 4 rfl) rfl
theorem dX5_at_17 : decode cX5_at 17 = .ok (.arraylength, 1) := dk_1190 (dk_g tcX5_at_1 5 rfl)
theorem dX5_at_18 : decode cX5_at 18 = .ok (.if_icmp .ge 12, 3) := dk_2162 (dk_g tcX5_at_1 6 rfl) (dk_g tcX5_at_1 7 rfl) (dk_g tcX5_at_1 8 rfl) rfl rfl
theorem dX5_at_21 : decode cX5_at 21 = .ok (.aload_n 0, 1) := dk_1042 (dk_g tcX5_at_1 9 rfl)
theorem tcX5_at_2 : (cX5_at.data.toList.drop 24).take 12 = [9, 27, 46, 167, 0, 4, 3, 172] := by decide +kernel
theorem dX5_at_22 : decode cX5_at 22 = .ok (.getfield 9, 3) := dk_1180 (dk_g tcX5_at_1 10 rfl) (dk_g tcX5_at_1 11 rfl) (dk_g tcX5_at_2 0 rfl) rfl
theorem dX5_at_25 : decode cX5_at 25 = .ok (.iload_n 1, 1) := dk_1027 (dk_g tcX5_at_2 1 rfl)
theorem dX5_at_26 : decode cX5_at 26 = .ok (.iaload, 1) := dk_1046 (dk_g tcX5_at_2 2 rfl)
theorem dX5_at_27 : decode cX5_at 27 = .ok (.goto 4, 3) := dk_2167 (dk_g tcX5_at_2 3 rfl) (dk_g tcX5_at_2 4 rfl) (dk_g tcX5_at_2 5 rfl) rfl rfl
theorem dX5_at_30 : decode cX5_at 30 = .ok (.iconst 0, 1) := dk_1003 (dk_g tcX5_at_2 6 rfl)
theorem dX5_at_31 : decode cX5_at 31 = .ok (.ireturn, 1) := dk_1172 (dk_g tcX5_at_2 7 rfl)
theorem tcX5_put_0 : (cX5_put.data.toList.drop 0).take 12 = [42, 180, 0, 15, 155, 0, 35, 42, 180, 0, 15, 42] := by decide +kernel
theorem dX5_put_0 : decode cX5_put 0 = .ok (.aload_n 0, 1) := dk_1042 (dk_g tcX5_put_0 0 rfl)
theorem dX5_put_1 : decode cX5_put 1 = .ok (.getfield 15, 3) := dk_1180 (dk_g tcX5_put_0 1 rfl) (dk_g tcX5_put_0 2 rfl) (dk_g tcX5_put_0 3 rfl) rfl
theorem dX5_put_4 : decode cX5_put 4 = .ok (.ifCond .lt 35, 3) := dk_2155 (dk_g tcX5_put_0 4 rfl) (dk_g tcX5_put_0 5 rfl) (dk_g tcX5_put_0 6 rfl) rfl rfl
theorem dX5_put_7 : decode cX5_put 7 = .ok (.aload_n 0, 1) := dk_1042 (dk_g tcX5_put_0 7 rfl)
theorem dX5_put_8 : decode cX5_put 8 = .ok (.getfield 15, 3) := dk_1180 (dk_g tcX5_put_0 8 rfl) (dk_g tcX5_put_0 9 rfl) (dk_g tcX5_put_0 10 rfl) rfl
theorem dX5_put_11 : decode cX5_put 11 = .ok (.aload_n 0, 1) := dk_1042 (dk_g tcX5_put_0 11 rfl)
theorem tcX5_put_1 : (cX5_put.data.toList.drop 12).take 12 = [180, 0, 9, 190, 162, 0, 23, 42, 180, 0, 9, 42] := by decide +kernel
theorem dX5_put_12 : decode cX5_put 12 = .ok (.getfield 9, 3) := dk_1180 (dk_g tcX5_put_1 0 rfl) (dk_g tcX5_put_1 1 rfl) (dk_g tcX5_put_1 2 rfl) rfl
theorem dX5_put_15 : decode cX5_put 15 = .ok (.arraylength, 1) := dk_1190 (dk_g tcX5_put_1 3 rfl)
theorem dX5_put_16 : decode cX5_put 16 = .ok (.if_icmp .ge 23, 3) := dk_2162 (dk_g tcX5_put_1 4 rfl) (dk_g tcX5_put_1 5 rfl) (dk_g tcX5_put_1 6 rfl) rfl rfl
theorem dX5_put_19 : decode cX5_put 19 = .ok (.aload_n 0, 1) := dk_1042 (dk_g tcX5_put_1 7 rfl)
theorem dX5_put_20 : decode cX5_put 20 = .ok (.getfield 9, 3) := dk_1180 (dk_g tcX5_put_1 8 rfl) (dk_g tcX5_put_1 9 rfl) (dk_g tcX5_put_1 10 rfl) rfl
theorem dX5_put_23 : decode cX5_put 23 = .ok (.aload_n 0, 1) := dk_1042 (dk_g tcX5_put_1 11 rfl)
theorem tcX5_put_2 : (cX5_put.data.toList.drop 24).take 12 = [180, 0, 15, 27, 79, 42, 89, 180, 0, 15, 4, 96] := by decide +kernel
theorem dX5_put_24 : decode cX5_put 24 = .ok (.getfield 15, 3) := dk_1180 (dk_g tcX5_put_2 0 rfl) (dk_g tcX5_put_2 1 rfl) (dk_g tcX5_put_2 2 rfl) rfl
theorem dX5_put_27 : decode cX5_put 27 = .ok (.iload_n 1, 1) := dk_1027 (dk_g tcX5_put_2 3 rfl)
theorem dX5_put_28 : decode cX5_put 28 = .ok (.iastore, 1) := dk_1079 (dk_g tcX5_put_2 4 rfl)
theorem dX5_put_29 : decode cX5_put 29 = .ok (.aload_n 0, 1) := dk_1042 (dk_g tcX5_put_2 5 rfl)
theorem dX5_put_30 : decode cX5_put 30 = .ok (.dup, 1) := dk_1089 (dk_g tcX5_put_2 6 rfl)
theorem dX5_put_31 : decode cX5_put 31 = .ok (.getfield 15, 3) := dk_1180 (dk_g tcX5_put_2 7 rfl) (dk_g tcX5_put_2 8 rfl) (dk_g tcX5_put_2 9 rfl) rfl
theorem dX5_put_34 : decode cX5_put 34 = .ok (.iconst 1, 1) := dk_1004 (dk_g tcX5_put_2 10 rfl)
theorem dX5_put_35 : decode cX5_put 35 = .ok (.iadd, 1) := dk_1096 (dk_g tcX5_put_2 11 rfl)
theorem tcX5_put_3 : (cX5_put.data.toList.drop 36).take 12 = [181, 0, 15, 177] := by decide +kernel
theorem dX5_put_36 : decode cX5_put 36 = .ok (.putfield 15, 3) := dk_1181 (dk_g tcX5_put_3 0 rfl) (dk_g tcX5_put_3 1 rfl) (dk_g tcX5_put_3 2 rfl) rfl
theorem dX5_put_39 : decode cX5_put 39 = .ok (.return_, 1) := dk_1177 (dk_g tcX5_put_3 3 rfl)
theorem tcX5_change_0 : (cX5_change.data.toList.drop 0).take 12 = [27, 155, 0, 27, 27, 42, 180, 0, 15, 162, 0, 19] := by decide +kernel
theorem dX5_change_0 : decode cX5_change 0 = .ok (.iload_n 1, 1) := dk_1027 (dk_g tcX5_change_0 0 rfl)
theorem dX5_change_1 : decode cX5_change 1 = .ok (.ifCond .lt 27, 3) := dk_2155 (dk_g tcX5_change_0 1 rfl) (dk_g tcX5_change_0 2 rfl) (dk_g tcX5_change_0 3 rfl) rfl rfl
theorem dX5_change_4 : decode cX5_change 4 = .ok (.iload_n 1, 1) := dk_1027 (dk_g tcX5_change_0 4 rfl)
theorem dX5_change_5 : decode cX5_change 5 = .ok (.aload_n 0, 1) := dk_1042 (dk_g tcX5_change_0 5 rfl)
theorem dX5_change_6 : decode cX5_change 6 = .ok (.getfield 15, 3) := dk_1180 (dk_g tcX5_change_0 6 rfl) (dk_g tcX5_change_0 7 rfl) (dk_g tcX5_change_0 8 rfl) rfl
theorem dX5_change_9 : decode cX5_change 9 = .ok (.if_icmp .ge 19, 3) := dk_2162 (dk_g tcX5_change_0 9 rfl) (dk_g tcX5_change_0 10 rfl) (dk_g tcX5_change_0 11 rfl) rfl rfl
theorem tcX5_change_1 : (cX5_change.data.toList.drop 12).take 12 = [27, 42, 180, 0, 9, 190, 162, 0, 10, 42, 180, 0] := by decide +kernel
theorem dX5_change_12 : decode cX5_change 12 = .ok (.iload_n 1, 1) := dk_1027 (dk_g tcX5_change_1 0 rfl)
theorem dX5_change_13 : decode cX5_change 13 = .ok (.aload_n 0, 1) := dk_1042 (dk_g tcX5_change_1 1 rfl)
theorem dX5_change_14 : decode cX5_change 14 = .ok (.getfield 9, 3) := dk_1180 (dk_g tcX5_change_1 2 rfl) (dk_g tcX5_change_1 3 rfl) (dk_g tcX5_change_1 4 rfl) rfl
theorem dX5_change_17 : decode cX5_change 17 = .ok (.arraylength, 1) := dk_1190 (dk_g tcX5_change_1 5 rfl)
theorem dX5_change_18 : decode cX5_change 18 = .ok (.if_icmp .ge 10, 3) := dk_2162 (dk_g tcX5_change_1 6 rfl) (dk_g tcX5_change_1 7 rfl) (dk_g tcX5_change_1 8 rfl) rfl rfl
theorem dX5_change_21 : decode cX5_change 21 = .ok (.aload_n 0, 1) := dk_1042 (dk_g tcX5_change_1 9 rfl)
theorem tcX5_change_2 : (cX5_change.data.toList.drop 24).take 12 = [9, 27, 28, 79, 177] := by decide +kernel
theorem dX5_change_22 : decode cX5_change 22 = .ok (.getfield 9, 3) := dk_1180 (dk_g tcX5_change_1 10 rfl) (dk_g tcX5_change_1 11 rfl) (dk_g tcX5_change_2 0 rfl) rfl
theorem dX5_change_25 : decode cX5_change 25 = .ok (.iload_n 1, 1) := dk_1027 (dk_g tcX5_change_2 1 rfl)
theorem dX5_change_26 : decode cX5_change 26 = .ok (.iload_n 2, 1) := dk_1028 (dk_g tcX5_change_2 2 rfl)
theorem dX5_change_27 : decode cX5_change 27 = .ok (.iastore, 1) := dk_1079 (dk_g tcX5_change_2 3 rfl)
theorem dX5_change_28 : decode cX5_change 28 = .ok (.return_, 1) := dk_1177 (dk_g tcX5_change_2 4 rfl)
theorem tcX5_shorten_0 : (cX5_shorten.data.toList.drop 0).take 12 = [27, 155, 0, 16, 27, 42, 180, 0, 15, 162, 0, 8] := by decide +kernel
theorem dX5_shorten_0 : decode cX5_shorten 0 = .ok (.iload_n 1, 1) := dk_1027 (dk_g tcX5_shorten_0 0 rfl)
theorem dX5_shorten_1 : decode cX5_shorten 1 = .ok (.ifCond .lt 16, 3) := dk_2155 (dk_g tcX5_shorten_0 1 rfl) (dk_g tcX5_shorten_0 2 rfl) (dk_g tcX5_shorten_0 3 rfl) rfl rfl
theorem dX5_shorten_4 : decode cX5_shorten 4 = .ok (.iload_n 1, 1) := dk_1027 (dk_g tcX5_shorten_0 4 rfl)
theorem dX5_shorten_5 : decode cX5_shorten 5 = .ok (.aload_n 0, 1) := dk_1042 (dk_g tcX5_shorten_0 5 rfl)
theorem dX5_shorten_6 : decode cX5_shorten 6 = .ok (.getfield 15, 3) := dk_1180 (dk_g tcX5_shorten_0 6 rfl) (dk_g tcX5_shorten_0 7 rfl) (dk_g tcX5_shorten_0 8 rfl) rfl
theorem dX5_shorten_9 : decode cX5_shorten 9 = .ok (.if_icmp .ge 8, 3) := dk_2162 (dk_g tcX5_shorten_0 9 rfl) (dk_g tcX5_shorten_0 10 rfl) (dk_g tcX5_shorten_0 11 rfl) rfl rfl
theorem tcX5_shorten_1 : (cX5_shorten.data.toList.drop 12).take 12 = [42, 27, 181, 0, 15, 177] := by decide +kernel
theorem dX5_shorten_12 : decode cX5_shorten 12 = .ok (.aload_n 0, 1) := dk_1042 (dk_g tcX5_shorten_1 0 rfl)
theorem dX5_shorten_13 : decode cX5_shorten 13 = .ok (.iload_n 1, 1) := dk_1027 (dk_g tcX5_shorten_1 1 rfl)
theorem dX5_shorten_14 : decode cX5_shorten 14 = .ok (.putfield 15, 3) := dk_1181 (dk_g tcX5_shorten_1 2 rfl) (dk_g tcX5_shorten_1 3 rfl) (dk_g tcX5_shorten_1 4 rfl) rfl
theorem dX5_shorten_17 : decode cX5_shorten 17 = .ok (.return_, 1) := dk_1177 (dk_g tcX5_shorten_1 5 rfl)
theorem tcX5_countOf_0 : (cX5_countOf.data.toList.drop 0).take 12 = [3, 61, 3, 62, 29, 42, 180, 0, 15, 162, 0, 21] := by decide +kernel
theorem dX5_countOf_0 : decode cX5_countOf 0 = .ok (.iconst 0, 1) := dk_1003 (dk_g tcX5_countOf_0 0 rfl)
theorem dX5_countOf_1 : decode cX5_countOf 1 = .ok (.istore_n 2, 1) := dk_1061 (dk_g tcX5_countOf_0 1 rfl)
theorem dX5_countOf_2 : decode cX5_countOf 2 = .ok (.iconst 0, 1) := dk_1003 (dk_g tcX5_countOf_0 2 rfl)
theorem dX5_countOf_3 : decode cX5_countOf 3 = .ok (.istore_n 3, 1) := dk_1062 (dk_g tcX5_countOf_0 3 rfl)
theorem dX5_countOf_4 : decode cX5_countOf 4 = .ok (.iload_n 3, 1) := dk_1029 (dk_g tcX5_countOf_0 4 rfl)
theorem dX5_countOf_5 : decode cX5_countOf 5 = .ok (.aload_n 0, 1) := dk_1042 (dk_g tcX5_countOf_0 5 rfl)
theorem dX5_countOf_6 : decode cX5_countOf 6 = .ok (.getfield 15, 3) := dk_1180 (dk_g tcX5_countOf_0 6 rfl) (dk_g tcX5_countOf_0 7 rfl) (dk_g tcX5_countOf_0 8 rfl) rfl
theorem dX5_countOf_9 : decode cX5_countOf 9 = .ok (.if_icmp .ge 21, 3) := dk_2162 (dk_g tcX5_countOf_0 9 rfl) (dk_g tcX5_countOf_0 10 rfl) (dk_g tcX5_countOf_0 11 rfl) rfl rfl
theorem tcX5_countOf_1 : (cX5_countOf.data.toList.drop 12).take 12 = [42, 29, 182, 0, 19, 27, 160, 0, 6, 132, 2, 1] := by decide +kernel
theorem dX5_countOf_12 : decode cX5_countOf 12 = .ok (.aload_n 0, 1) := dk_1042 (dk_g tcX5_countOf_1 0 rfl)
theorem dX5_countOf_13 : decode cX5_countOf 13 = .ok (.iload_n 3, 1) := dk_1029 (dk_g tcX5_countOf_1 1 rfl)
theorem dX5_countOf_14 : decode cX5_countOf 14 = .ok (.invokevirtual 19, 3) := dk_1182 (dk_g tcX5_countOf_1 2 rfl) (dk_g tcX5_countOf_1 3 rfl) (dk_g tcX5_countOf_1 4 rfl) rfl
theorem dX5_countOf_17 : decode cX5_countOf 17 = .ok (.iload_n 1, 1) := dk_1027 (dk_g tcX5_countOf_1 5 rfl)
theorem dX5_countOf_18 : decode cX5_countOf 18 = .ok (.if_icmp .ne 6, 3) := dk_2160 (dk_g tcX5_countOf_1 6 rfl) (dk_g tcX5_countOf_1 7 rfl) (dk_g tcX5_countOf_1 8 rfl) rfl rfl
theorem dX5_countOf_21 : decode cX5_countOf 21 = .ok (.iinc 2 1, 3) := dk_1132 (dk_g tcX5_countOf_1 9 rfl) (dk_g tcX5_countOf_1 10 rfl) (dk_g tcX5_countOf_1 11 rfl) rfl (by decide +kernel)
theorem tcX5_countOf_2 : (cX5_countOf.data.toList.drop 24).take 12 = [132, 3, 1, 167, 255, 233, 28, 172] := by decide +kernel
theorem dX5_countOf_24 : decode cX5_countOf 24 = .ok (.iinc 3 1, 3) := dk_1132 (dk_g tcX5_countOf_2 0 rfl) (dk_g tcX5_countOf_2 1 rfl) (dk_g tcX5_countOf_2 2 rfl) rfl (by decide +kernel)
theorem dX5_countOf_27 : decode cX5_countOf 27 = .ok (.goto (-23), 3) := dk_1167 (dk_g tcX5_countOf_2 3 rfl) (dk_g tcX5_countOf_2 4 rfl) (dk_g tcX5_countOf_2 5 rfl) (by decide +kernel)
theorem dX5_countOf_30 : decode cX5_countOf 30 = .ok (.iload_n 2, 1) := dk_1028 (dk_g tcX5_countOf_2 6 rfl)
theorem dX5_countOf_31 : decode cX5_countOf 31 = .ok (.ireturn, 1) := dk_1172 (dk_g tcX5_countOf_2 7 rfl)
theorem tcX5_putPeak_0 : (cX5_putPeak.data.toList.drop 0).take 12 = [29, 54, 4, 28, 54, 5, 3, 54, 6, 21, 6, 16] := by decide +kernel
theorem dX5_putPeak_0 : decode cX5_putPeak 0 = .ok (.iload_n 3, 1) := dk_1029 (dk_g tcX5_putPeak_0 0 rfl)
theorem dX5_putPeak_1 : decode cX5_putPeak 1 = .ok (.istore 4, 2) := dk_1054 (dk_g tcX5_putPeak_0 1 rfl) (dk_g tcX5_putPeak_0 2 rfl) rfl
theorem dX5_putPeak_3 : decode cX5_putPeak 3 = .ok (.iload_n 2, 1) := dk_1028 (dk_g tcX5_putPeak_0 3 rfl)
theorem dX5_putPeak_4 : decode cX5_putPeak 4 = .ok (.istore 5, 2) := dk_1054 (dk_g tcX5_putPeak_0 4 rfl) (dk_g tcX5_putPeak_0 5 rfl) rfl
theorem dX5_putPeak_6 : decode cX5_putPeak 6 = .ok (.iconst 0, 1) := dk_1003 (dk_g tcX5_putPeak_0 6 rfl)
theorem dX5_putPeak_7 : decode cX5_putPeak 7 = .ok (.istore 6, 2) := dk_1054 (dk_g tcX5_putPeak_0 7 rfl) (dk_g tcX5_putPeak_0 8 rfl) rfl
theorem dX5_putPeak_9 : decode cX5_putPeak 9 = .ok (.iload 6, 2) := dk_1021 (dk_g tcX5_putPeak_0 9 rfl) (dk_g tcX5_putPeak_0 10 rfl) rfl
theorem tcX5_putPeak_1 : (cX5_putPeak.data.toList.drop 12).take 12 = [31, 162, 0, 51, 21, 5, 4, 126, 4, 160, 0, 43] := by decide +kernel
theorem dX5_putPeak_11 : decode cX5_putPeak 11 = .ok (.bipush 31, 2) := dk_1016 (dk_g tcX5_putPeak_0 11 rfl) (dk_g tcX5_putPeak_1 0 rfl) (by decide +kernel)
theorem dX5_putPeak_13 : decode cX5_putPeak 13 = .ok (.if_icmp .ge 51, 3) := dk_2162 (dk_g tcX5_putPeak_1 1 rfl) (dk_g tcX5_putPeak_1 2 rfl) (dk_g tcX5_putPeak_1 3 rfl) rfl rfl
theorem dX5_putPeak_16 : decode cX5_putPeak 16 = .ok (.iload 5, 2) := dk_1021 (dk_g tcX5_putPeak_1 4 rfl) (dk_g tcX5_putPeak_1 5 rfl) rfl
theorem dX5_putPeak_18 : decode cX5_putPeak 18 = .ok (.iconst 1, 1) := dk_1004 (dk_g tcX5_putPeak_1 6 rfl)
theorem dX5_putPeak_19 : decode cX5_putPeak 19 = .ok (.iand, 1) := dk_1126 (dk_g tcX5_putPeak_1 7 rfl)
theorem dX5_putPeak_20 : decode cX5_putPeak 20 = .ok (.iconst 1, 1) := dk_1004 (dk_g tcX5_putPeak_1 8 rfl)
theorem dX5_putPeak_21 : decode cX5_putPeak 21 = .ok (.if_icmp .ne 43, 3) := dk_2160 (dk_g tcX5_putPeak_1 9 rfl) (dk_g tcX5_putPeak_1 10 rfl) (dk_g tcX5_putPeak_1 11 rfl) rfl rfl
theorem tcX5_putPeak_2 : (cX5_putPeak.data.toList.drop 24).take 12 = [27, 42, 42, 180, 0, 15, 4, 100, 182, 0, 19, 21] := by decide +kernel
theorem dX5_putPeak_24 : decode cX5_putPeak 24 = .ok (.iload_n 1, 1) := dk_1027 (dk_g tcX5_putPeak_2 0 rfl)
theorem dX5_putPeak_25 : decode cX5_putPeak 25 = .ok (.aload_n 0, 1) := dk_1042 (dk_g tcX5_putPeak_2 1 rfl)
theorem dX5_putPeak_26 : decode cX5_putPeak 26 = .ok (.aload_n 0, 1) := dk_1042 (dk_g tcX5_putPeak_2 2 rfl)
theorem dX5_putPeak_27 : decode cX5_putPeak 27 = .ok (.getfield 15, 3) := dk_1180 (dk_g tcX5_putPeak_2 3 rfl) (dk_g tcX5_putPeak_2 4 rfl) (dk_g tcX5_putPeak_2 5 rfl) rfl
theorem dX5_putPeak_30 : decode cX5_putPeak 30 = .ok (.iconst 1, 1) := dk_1004 (dk_g tcX5_putPeak_2 6 rfl)
theorem dX5_putPeak_31 : decode cX5_putPeak 31 = .ok (.isub, 1) := dk_1100 (dk_g tcX5_putPeak_2 7 rfl)
theorem dX5_putPeak_32 : decode cX5_putPeak 32 = .ok (.invokevirtual 19, 3) := dk_1182 (dk_g tcX5_putPeak_2 8 rfl) (dk_g tcX5_putPeak_2 9 rfl) (dk_g tcX5_putPeak_2 10 rfl) rfl
theorem tcX5_putPeak_3 : (cX5_putPeak.data.toList.drop 36).take 12 = [4, 184, 0, 23, 54, 4, 42, 42, 180, 0, 15, 4] := by decide +kernel
theorem dX5_putPeak_35 : decode cX5_putPeak 35 = .ok (.iload 4, 2) := dk_1021 (dk_g tcX5_putPeak_2 11 rfl) (dk_g tcX5_putPeak_3 0 rfl) rfl
theorem dX5_putPeak_37 : decode cX5_putPeak 37 = .ok (.invokestatic 23, 3) := dk_1184 (dk_g tcX5_putPeak_3 1 rfl) (dk_g tcX5_putPeak_3 2 rfl) (dk_g tcX5_putPeak_3 3 rfl) rfl
theorem dX5_putPeak_40 : decode cX5_putPeak 40 = .ok (.istore 4, 2) := dk_1054 (dk_g tcX5_putPeak_3 4 rfl) (dk_g tcX5_putPeak_3 5 rfl) rfl
theorem dX5_putPeak_42 : decode cX5_putPeak 42 = .ok (.aload_n 0, 1) := dk_1042 (dk_g tcX5_putPeak_3 6 rfl)
theorem dX5_putPeak_43 : decode cX5_putPeak 43 = .ok (.aload_n 0, 1) := dk_1042 (dk_g tcX5_putPeak_3 7 rfl)
theorem dX5_putPeak_44 : decode cX5_putPeak 44 = .ok (.getfield 15, 3) := dk_1180 (dk_g tcX5_putPeak_3 8 rfl) (dk_g tcX5_putPeak_3 9 rfl) (dk_g tcX5_putPeak_3 10 rfl) rfl
theorem dX5_putPeak_47 : decode cX5_putPeak 47 = .ok (.iconst 1, 1) := dk_1004 (dk_g tcX5_putPeak_3 11 rfl)
theorem tcX5_putPeak_4 : (cX5_putPeak.data.toList.drop 48).take 12 = [100, 182, 0, 27, 21, 5, 4, 124, 54, 5, 132, 6] := by decide +kernel
theorem dX5_putPeak_48 : decode cX5_putPeak 48 = .ok (.isub, 1) := dk_1100 (dk_g tcX5_putPeak_4 0 rfl)
theorem dX5_putPeak_49 : decode cX5_putPeak 49 = .ok (.invokevirtual 27, 3) := dk_1182 (dk_g tcX5_putPeak_4 1 rfl) (dk_g tcX5_putPeak_4 2 rfl) (dk_g tcX5_putPeak_4 3 rfl) rfl
theorem dX5_putPeak_52 : decode cX5_putPeak 52 = .ok (.iload 5, 2) := dk_1021 (dk_g tcX5_putPeak_4 4 rfl) (dk_g tcX5_putPeak_4 5 rfl) rfl
theorem dX5_putPeak_54 : decode cX5_putPeak 54 = .ok (.iconst 1, 1) := dk_1004 (dk_g tcX5_putPeak_4 6 rfl)
theorem dX5_putPeak_55 : decode cX5_putPeak 55 = .ok (.iushr, 1) := dk_1124 (dk_g tcX5_putPeak_4 7 rfl)
theorem dX5_putPeak_56 : decode cX5_putPeak 56 = .ok (.istore 5, 2) := dk_1054 (dk_g tcX5_putPeak_4 8 rfl) (dk_g tcX5_putPeak_4 9 rfl) rfl
theorem tcX5_putPeak_5 : (cX5_putPeak.data.toList.drop 60).take 12 = [1, 167, 255, 204, 42, 21, 4, 182, 0, 31, 177] := by decide +kernel
theorem dX5_putPeak_58 : decode cX5_putPeak 58 = .ok (.iinc 6 1, 3) := dk_1132 (dk_g tcX5_putPeak_4 10 rfl) (dk_g tcX5_putPeak_4 11 rfl) (dk_g tcX5_putPeak_5 0 rfl) rfl (by decide +kernel)
theorem dX5_putPeak_61 : decode cX5_putPeak 61 = .ok (.goto (-52), 3) := dk_1167 (dk_g tcX5_putPeak_5 1 rfl) (dk_g tcX5_putPeak_5 2 rfl) (dk_g tcX5_putPeak_5 3 rfl) (by decide +kernel)
theorem dX5_putPeak_64 : decode cX5_putPeak 64 = .ok (.aload_n 0, 1) := dk_1042 (dk_g tcX5_putPeak_5 4 rfl)
theorem dX5_putPeak_65 : decode cX5_putPeak 65 = .ok (.iload 4, 2) := dk_1021 (dk_g tcX5_putPeak_5 5 rfl) (dk_g tcX5_putPeak_5 6 rfl) rfl
theorem dX5_putPeak_67 : decode cX5_putPeak 67 = .ok (.invokevirtual 31, 3) := dk_1182 (dk_g tcX5_putPeak_5 7 rfl) (dk_g tcX5_putPeak_5 8 rfl) (dk_g tcX5_putPeak_5 9 rfl) rfl
theorem dX5_putPeak_70 : decode cX5_putPeak 70 = .ok (.return_, 1) := dk_1177 (dk_g tcX5_putPeak_5 10 rfl)
theorem tcX5_foldedPeaks_0 : (cX5_foldedPeaks.data.toList.drop 0).take 12 = [42, 42, 180, 0, 15, 4, 100, 182, 0, 19, 61, 42] := by decide +kernel
theorem dX5_foldedPeaks_0 : decode cX5_foldedPeaks 0 = .ok (.aload_n 0, 1) := dk_1042 (dk_g tcX5_foldedPeaks_0 0 rfl)
theorem dX5_foldedPeaks_1 : decode cX5_foldedPeaks 1 = .ok (.aload_n 0, 1) := dk_1042 (dk_g tcX5_foldedPeaks_0 1 rfl)
theorem dX5_foldedPeaks_2 : decode cX5_foldedPeaks 2 = .ok (.getfield 15, 3) := dk_1180 (dk_g tcX5_foldedPeaks_0 2 rfl) (dk_g tcX5_foldedPeaks_0 3 rfl) (dk_g tcX5_foldedPeaks_0 4 rfl) rfl
theorem dX5_foldedPeaks_5 : decode cX5_foldedPeaks 5 = .ok (.iconst 1, 1) := dk_1004 (dk_g tcX5_foldedPeaks_0 5 rfl)
theorem dX5_foldedPeaks_6 : decode cX5_foldedPeaks 6 = .ok (.isub, 1) := dk_1100 (dk_g tcX5_foldedPeaks_0 6 rfl)
theorem dX5_foldedPeaks_7 : decode cX5_foldedPeaks 7 = .ok (.invokevirtual 19, 3) := dk_1182 (dk_g tcX5_foldedPeaks_0 7 rfl) (dk_g tcX5_foldedPeaks_0 8 rfl) (dk_g tcX5_foldedPeaks_0 9 rfl) rfl
theorem dX5_foldedPeaks_10 : decode cX5_foldedPeaks 10 = .ok (.istore_n 2, 1) := dk_1061 (dk_g tcX5_foldedPeaks_0 10 rfl)
theorem dX5_foldedPeaks_11 : decode cX5_foldedPeaks 11 = .ok (.aload_n 0, 1) := dk_1042 (dk_g tcX5_foldedPeaks_0 11 rfl)
theorem tcX5_foldedPeaks_1 : (cX5_foldedPeaks.data.toList.drop 12).take 12 = [180, 0, 15, 5, 100, 62, 29, 155, 0, 20, 27, 42] := by decide +kernel
theorem dX5_foldedPeaks_12 : decode cX5_foldedPeaks 12 = .ok (.getfield 15, 3) := dk_1180 (dk_g tcX5_foldedPeaks_1 0 rfl) (dk_g tcX5_foldedPeaks_1 1 rfl) (dk_g tcX5_foldedPeaks_1 2 rfl) rfl
theorem dX5_foldedPeaks_15 : decode cX5_foldedPeaks 15 = .ok (.iconst 2, 1) := dk_1005 (dk_g tcX5_foldedPeaks_1 3 rfl)
theorem dX5_foldedPeaks_16 : decode cX5_foldedPeaks 16 = .ok (.isub, 1) := dk_1100 (dk_g tcX5_foldedPeaks_1 4 rfl)
theorem dX5_foldedPeaks_17 : decode cX5_foldedPeaks 17 = .ok (.istore_n 3, 1) := dk_1062 (dk_g tcX5_foldedPeaks_1 5 rfl)
theorem dX5_foldedPeaks_18 : decode cX5_foldedPeaks 18 = .ok (.iload_n 3, 1) := dk_1029 (dk_g tcX5_foldedPeaks_1 6 rfl)
theorem dX5_foldedPeaks_19 : decode cX5_foldedPeaks 19 = .ok (.ifCond .lt 20, 3) := dk_2155 (dk_g tcX5_foldedPeaks_1 7 rfl) (dk_g tcX5_foldedPeaks_1 8 rfl) (dk_g tcX5_foldedPeaks_1 9 rfl) rfl rfl
theorem dX5_foldedPeaks_22 : decode cX5_foldedPeaks 22 = .ok (.iload_n 1, 1) := dk_1027 (dk_g tcX5_foldedPeaks_1 10 rfl)
theorem dX5_foldedPeaks_23 : decode cX5_foldedPeaks 23 = .ok (.aload_n 0, 1) := dk_1042 (dk_g tcX5_foldedPeaks_1 11 rfl)
theorem tcX5_foldedPeaks_2 : (cX5_foldedPeaks.data.toList.drop 24).take 12 = [29, 182, 0, 19, 28, 184, 0, 23, 61, 132, 3, 255] := by decide +kernel
theorem dX5_foldedPeaks_24 : decode cX5_foldedPeaks 24 = .ok (.iload_n 3, 1) := dk_1029 (dk_g tcX5_foldedPeaks_2 0 rfl)
theorem dX5_foldedPeaks_25 : decode cX5_foldedPeaks 25 = .ok (.invokevirtual 19, 3) := dk_1182 (dk_g tcX5_foldedPeaks_2 1 rfl) (dk_g tcX5_foldedPeaks_2 2 rfl) (dk_g tcX5_foldedPeaks_2 3 rfl) rfl
theorem dX5_foldedPeaks_28 : decode cX5_foldedPeaks 28 = .ok (.iload_n 2, 1) := dk_1028 (dk_g tcX5_foldedPeaks_2 4 rfl)
theorem dX5_foldedPeaks_29 : decode cX5_foldedPeaks 29 = .ok (.invokestatic 23, 3) := dk_1184 (dk_g tcX5_foldedPeaks_2 5 rfl) (dk_g tcX5_foldedPeaks_2 6 rfl) (dk_g tcX5_foldedPeaks_2 7 rfl) rfl
theorem dX5_foldedPeaks_32 : decode cX5_foldedPeaks 32 = .ok (.istore_n 2, 1) := dk_1061 (dk_g tcX5_foldedPeaks_2 8 rfl)
theorem dX5_foldedPeaks_33 : decode cX5_foldedPeaks 33 = .ok (.iinc 3 (-1), 3) := dk_1132 (dk_g tcX5_foldedPeaks_2 9 rfl) (dk_g tcX5_foldedPeaks_2 10 rfl) (dk_g tcX5_foldedPeaks_2 11 rfl) rfl (by decide +kernel)
theorem tcX5_foldedPeaks_3 : (cX5_foldedPeaks.data.toList.drop 36).take 12 = [167, 255, 238, 28, 172] := by decide +kernel
theorem dX5_foldedPeaks_36 : decode cX5_foldedPeaks 36 = .ok (.goto (-18), 3) := dk_1167 (dk_g tcX5_foldedPeaks_3 0 rfl) (dk_g tcX5_foldedPeaks_3 1 rfl) (dk_g tcX5_foldedPeaks_3 2 rfl) (by decide +kernel)
theorem dX5_foldedPeaks_39 : decode cX5_foldedPeaks 39 = .ok (.iload_n 2, 1) := dk_1028 (dk_g tcX5_foldedPeaks_3 3 rfl)
theorem dX5_foldedPeaks_40 : decode cX5_foldedPeaks 40 = .ok (.ireturn, 1) := dk_1172 (dk_g tcX5_foldedPeaks_3 4 rfl)
theorem tcX6_init_0 : (cX6_init.data.toList.drop 0).take 12 = [42, 183, 0, 3, 42, 3, 188, 8, 181, 0, 9, 42] := by decide +kernel
theorem dX6_init_0 : decode cX6_init 0 = .ok (.aload_n 0, 1) := dk_1042 (dk_g tcX6_init_0 0 rfl)
theorem dX6_init_1 : decode cX6_init 1 = .ok (.invokespecial 3, 3) := dk_1183 (dk_g tcX6_init_0 1 rfl) (dk_g tcX6_init_0 2 rfl) (dk_g tcX6_init_0 3 rfl) rfl
theorem dX6_init_4 : decode cX6_init 4 = .ok (.aload_n 0, 1) := dk_1042 (dk_g tcX6_init_0 4 rfl)
theorem dX6_init_5 : decode cX6_init 5 = .ok (.iconst 0, 1) := dk_1003 (dk_g tcX6_init_0 5 rfl)
theorem dX6_init_6 : decode cX6_init 6 = .ok (.newarray .byte, 2) := dk_1188_8 (dk_g tcX6_init_0 6 rfl) (dk_g tcX6_init_0 7 rfl)
theorem dX6_init_8 : decode cX6_init 8 = .ok (.putfield 9, 3) := dk_1181 (dk_g tcX6_init_0 8 rfl) (dk_g tcX6_init_0 9 rfl) (dk_g tcX6_init_0 10 rfl) rfl
theorem dX6_init_11 : decode cX6_init 11 = .ok (.aload_n 0, 1) := dk_1042 (dk_g tcX6_init_0 11 rfl)
theorem tcX6_init_1 : (cX6_init.data.toList.drop 12).take 12 = [3, 181, 0, 15, 42, 3, 181, 0, 19, 42, 3, 181] := by decide +kernel
theorem dX6_init_12 : decode cX6_init 12 = .ok (.iconst 0, 1) := dk_1003 (dk_g tcX6_init_1 0 rfl)
theorem dX6_init_13 : decode cX6_init 13 = .ok (.putfield 15, 3) := dk_1181 (dk_g tcX6_init_1 1 rfl) (dk_g tcX6_init_1 2 rfl) (dk_g tcX6_init_1 3 rfl) rfl
theorem dX6_init_16 : decode cX6_init 16 = .ok (.aload_n 0, 1) := dk_1042 (dk_g tcX6_init_1 4 rfl)
theorem dX6_init_17 : decode cX6_init 17 = .ok (.iconst 0, 1) := dk_1003 (dk_g tcX6_init_1 5 rfl)
theorem dX6_init_18 : decode cX6_init 18 = .ok (.putfield 19, 3) := dk_1181 (dk_g tcX6_init_1 6 rfl) (dk_g tcX6_init_1 7 rfl) (dk_g tcX6_init_1 8 rfl) rfl
theorem dX6_init_21 : decode cX6_init 21 = .ok (.aload_n 0, 1) := dk_1042 (dk_g tcX6_init_1 9 rfl)
theorem dX6_init_22 : decode cX6_init 22 = .ok (.iconst 0, 1) := dk_1003 (dk_g tcX6_init_1 10 rfl)
theorem tcX6_init_2 : (cX6_init.data.toList.drop 24).take 12 = [0, 22, 42, 3, 181, 0, 25, 42, 3, 181, 0, 28] := by decide +kernel
theorem dX6_init_23 : decode cX6_init 23 = .ok (.putfield 22, 3) := dk_1181 (dk_g tcX6_init_1 11 rfl) (dk_g tcX6_init_2 0 rfl) (dk_g tcX6_init_2 1 rfl) rfl
theorem dX6_init_26 : decode cX6_init 26 = .ok (.aload_n 0, 1) := dk_1042 (dk_g tcX6_init_2 2 rfl)
theorem dX6_init_27 : decode cX6_init 27 = .ok (.iconst 0, 1) := dk_1003 (dk_g tcX6_init_2 3 rfl)
theorem dX6_init_28 : decode cX6_init 28 = .ok (.putfield 25, 3) := dk_1181 (dk_g tcX6_init_2 4 rfl) (dk_g tcX6_init_2 5 rfl) (dk_g tcX6_init_2 6 rfl) rfl
theorem dX6_init_31 : decode cX6_init 31 = .ok (.aload_n 0, 1) := dk_1042 (dk_g tcX6_init_2 7 rfl)
theorem dX6_init_32 : decode cX6_init 32 = .ok (.iconst 0, 1) := dk_1003 (dk_g tcX6_init_2 8 rfl)
theorem dX6_init_33 : decode cX6_init 33 = .ok (.putfield 28, 3) := dk_1181 (dk_g tcX6_init_2 9 rfl) (dk_g tcX6_init_2 10 rfl) (dk_g tcX6_init_2 11 rfl) rfl
theorem tcX6_init_3 : (cX6_init.data.toList.drop 36).take 12 = [42, 3, 181, 0, 31, 177] := by decide +kernel
theorem dX6_init_36 : decode cX6_init 36 = .ok (.aload_n 0, 1) := dk_1042 (dk_g tcX6_init_3 0 rfl)
theorem dX6_init_37 : decode cX6_init 37 = .ok (.iconst 0, 1) := dk_1003 (dk_g tcX6_init_3 1 rfl)
theorem dX6_init_38 : decode cX6_init 38 = .ok (.putfield 31, 3) := dk_1181 (dk_g tcX6_init_3 2 rfl) (dk_g tcX6_init_3 3 rfl) (dk_g tcX6_init_3 4 rfl) rfl
theorem dX6_init_41 : decode cX6_init 41 = .ok (.return_, 1) := dk_1177 (dk_g tcX6_init_3 5 rfl)
theorem tcX6_begin_0 : (cX6_begin.data.toList.drop 0).take 12 = [42, 43, 181, 0, 9, 42, 3, 28, 43, 190, 184, 0] := by decide +kernel
theorem dX6_begin_0 : decode cX6_begin 0 = .ok (.aload_n 0, 1) := dk_1042 (dk_g tcX6_begin_0 0 rfl)
theorem dX6_begin_1 : decode cX6_begin 1 = .ok (.aload_n 1, 1) := dk_1043 (dk_g tcX6_begin_0 1 rfl)
theorem dX6_begin_2 : decode cX6_begin 2 = .ok (.putfield 9, 3) := dk_1181 (dk_g tcX6_begin_0 2 rfl) (dk_g tcX6_begin_0 3 rfl) (dk_g tcX6_begin_0 4 rfl) rfl
theorem dX6_begin_5 : decode cX6_begin 5 = .ok (.aload_n 0, 1) := dk_1042 (dk_g tcX6_begin_0 5 rfl)
theorem dX6_begin_6 : decode cX6_begin 6 = .ok (.iconst 0, 1) := dk_1003 (dk_g tcX6_begin_0 6 rfl)
theorem dX6_begin_7 : decode cX6_begin 7 = .ok (.iload_n 2, 1) := dk_1028 (dk_g tcX6_begin_0 7 rfl)
theorem dX6_begin_8 : decode cX6_begin 8 = .ok (.aload_n 1, 1) := dk_1043 (dk_g tcX6_begin_0 8 rfl)
theorem dX6_begin_9 : decode cX6_begin 9 = .ok (.arraylength, 1) := dk_1190 (dk_g tcX6_begin_0 9 rfl)
theorem tcX6_begin_1 : (cX6_begin.data.toList.drop 12).take 12 = [34, 184, 0, 40, 181, 0, 15, 42, 3, 181, 0, 19] := by decide +kernel
theorem dX6_begin_10 : decode cX6_begin 10 = .ok (.invokestatic 34, 3) := dk_1184 (dk_g tcX6_begin_0 10 rfl) (dk_g tcX6_begin_0 11 rfl) (dk_g tcX6_begin_1 0 rfl) rfl
theorem dX6_begin_13 : decode cX6_begin 13 = .ok (.invokestatic 40, 3) := dk_1184 (dk_g tcX6_begin_1 1 rfl) (dk_g tcX6_begin_1 2 rfl) (dk_g tcX6_begin_1 3 rfl) rfl
theorem dX6_begin_16 : decode cX6_begin 16 = .ok (.putfield 15, 3) := dk_1181 (dk_g tcX6_begin_1 4 rfl) (dk_g tcX6_begin_1 5 rfl) (dk_g tcX6_begin_1 6 rfl) rfl
theorem dX6_begin_19 : decode cX6_begin 19 = .ok (.aload_n 0, 1) := dk_1042 (dk_g tcX6_begin_1 7 rfl)
theorem dX6_begin_20 : decode cX6_begin 20 = .ok (.iconst 0, 1) := dk_1003 (dk_g tcX6_begin_1 8 rfl)
theorem dX6_begin_21 : decode cX6_begin 21 = .ok (.putfield 19, 3) := dk_1181 (dk_g tcX6_begin_1 9 rfl) (dk_g tcX6_begin_1 10 rfl) (dk_g tcX6_begin_1 11 rfl) rfl
theorem tcX6_begin_2 : (cX6_begin.data.toList.drop 24).take 12 = [177] := by decide +kernel
theorem dX6_begin_24 : decode cX6_begin 24 = .ok (.return_, 1) := dk_1177 (dk_g tcX6_begin_2 0 rfl)
theorem tcX6_advance_0 : (cX6_advance.data.toList.drop 0).take 12 = [3, 60, 27, 17, 3, 132, 162, 0, 33, 42, 42, 180] := by decide +kernel
theorem dX6_advance_0 : decode cX6_advance 0 = .ok (.iconst 0, 1) := dk_1003 (dk_g tcX6_advance_0 0 rfl)
theorem dX6_advance_1 : decode cX6_advance 1 = .ok (.istore_n 1, 1) := dk_1060 (dk_g tcX6_advance_0 1 rfl)
theorem dX6_advance_2 : decode cX6_advance 2 = .ok (.iload_n 1, 1) := dk_1027 (dk_g tcX6_advance_0 2 rfl)
theorem dX6_advance_3 : decode cX6_advance 3 = .ok (.sipush 900, 3) := dk_2017 (dk_g tcX6_advance_0 3 rfl) (dk_g tcX6_advance_0 4 rfl) (dk_g tcX6_advance_0 5 rfl) rfl rfl
theorem dX6_advance_6 : decode cX6_advance 6 = .ok (.if_icmp .ge 33, 3) := dk_2162 (dk_g tcX6_advance_0 6 rfl) (dk_g tcX6_advance_0 7 rfl) (dk_g tcX6_advance_0 8 rfl) rfl rfl
theorem dX6_advance_9 : decode cX6_advance 9 = .ok (.aload_n 0, 1) := dk_1042 (dk_g tcX6_advance_0 9 rfl)
theorem dX6_advance_10 : decode cX6_advance 10 = .ok (.aload_n 0, 1) := dk_1042 (dk_g tcX6_advance_0 10 rfl)
theorem tcX6_advance_1 : (cX6_advance.data.toList.drop 12).take 12 = [0, 19, 182, 0, 43, 184, 0, 47, 153, 0, 19, 42] := by decide +kernel
theorem dX6_advance_11 : decode cX6_advance 11 = .ok (.getfield 19, 3) := dk_1180 (dk_g tcX6_advance_0 11 rfl) (dk_g tcX6_advance_1 0 rfl) (dk_g tcX6_advance_1 1 rfl) rfl
theorem dX6_advance_14 : decode cX6_advance 14 = .ok (.invokevirtual 43, 3) := dk_1182 (dk_g tcX6_advance_1 2 rfl) (dk_g tcX6_advance_1 3 rfl) (dk_g tcX6_advance_1 4 rfl) rfl
theorem dX6_advance_17 : decode cX6_advance 17 = .ok (.invokestatic 47, 3) := dk_1184 (dk_g tcX6_advance_1 5 rfl) (dk_g tcX6_advance_1 6 rfl) (dk_g tcX6_advance_1 7 rfl) rfl
theorem dX6_advance_20 : decode cX6_advance 20 = .ok (.ifCond .eq 19, 3) := dk_2153 (dk_g tcX6_advance_1 8 rfl) (dk_g tcX6_advance_1 9 rfl) (dk_g tcX6_advance_1 10 rfl) rfl rfl
theorem dX6_advance_23 : decode cX6_advance 23 = .ok (.aload_n 0, 1) := dk_1042 (dk_g tcX6_advance_1 11 rfl)
theorem tcX6_advance_2 : (cX6_advance.data.toList.drop 24).take 12 = [89, 180, 0, 19, 4, 96, 181, 0, 19, 132, 1, 1] := by decide +kernel
theorem dX6_advance_24 : decode cX6_advance 24 = .ok (.dup, 1) := dk_1089 (dk_g tcX6_advance_2 0 rfl)
theorem dX6_advance_25 : decode cX6_advance 25 = .ok (.getfield 19, 3) := dk_1180 (dk_g tcX6_advance_2 1 rfl) (dk_g tcX6_advance_2 2 rfl) (dk_g tcX6_advance_2 3 rfl) rfl
theorem dX6_advance_28 : decode cX6_advance 28 = .ok (.iconst 1, 1) := dk_1004 (dk_g tcX6_advance_2 4 rfl)
theorem dX6_advance_29 : decode cX6_advance 29 = .ok (.iadd, 1) := dk_1096 (dk_g tcX6_advance_2 5 rfl)
theorem dX6_advance_30 : decode cX6_advance 30 = .ok (.putfield 19, 3) := dk_1181 (dk_g tcX6_advance_2 6 rfl) (dk_g tcX6_advance_2 7 rfl) (dk_g tcX6_advance_2 8 rfl) rfl
theorem dX6_advance_33 : decode cX6_advance 33 = .ok (.iinc 1 1, 3) := dk_1132 (dk_g tcX6_advance_2 9 rfl) (dk_g tcX6_advance_2 10 rfl) (dk_g tcX6_advance_2 11 rfl) rfl (by decide +kernel)
theorem tcX6_advance_3 : (cX6_advance.data.toList.drop 36).take 12 = [167, 255, 222, 42, 42, 180, 0, 19, 181, 0, 25, 42] := by decide +kernel
theorem dX6_advance_36 : decode cX6_advance 36 = .ok (.goto (-34), 3) := dk_1167 (dk_g tcX6_advance_3 0 rfl) (dk_g tcX6_advance_3 1 rfl) (dk_g tcX6_advance_3 2 rfl) (by decide +kernel)
theorem dX6_advance_39 : decode cX6_advance 39 = .ok (.aload_n 0, 1) := dk_1042 (dk_g tcX6_advance_3 3 rfl)
theorem dX6_advance_40 : decode cX6_advance 40 = .ok (.aload_n 0, 1) := dk_1042 (dk_g tcX6_advance_3 4 rfl)
theorem dX6_advance_41 : decode cX6_advance 41 = .ok (.getfield 19, 3) := dk_1180 (dk_g tcX6_advance_3 5 rfl) (dk_g tcX6_advance_3 6 rfl) (dk_g tcX6_advance_3 7 rfl) rfl
theorem dX6_advance_44 : decode cX6_advance 44 = .ok (.putfield 25, 3) := dk_1181 (dk_g tcX6_advance_3 8 rfl) (dk_g tcX6_advance_3 9 rfl) (dk_g tcX6_advance_3 10 rfl) rfl
theorem dX6_advance_47 : decode cX6_advance 47 = .ok (.aload_n 0, 1) := dk_1042 (dk_g tcX6_advance_3 11 rfl)
theorem tcX6_advance_4 : (cX6_advance.data.toList.drop 48).take 12 = [42, 180, 0, 19, 42, 180, 0, 15, 162, 0, 17, 42] := by decide +kernel
theorem dX6_advance_48 : decode cX6_advance 48 = .ok (.aload_n 0, 1) := dk_1042 (dk_g tcX6_advance_4 0 rfl)
theorem dX6_advance_49 : decode cX6_advance 49 = .ok (.getfield 19, 3) := dk_1180 (dk_g tcX6_advance_4 1 rfl) (dk_g tcX6_advance_4 2 rfl) (dk_g tcX6_advance_4 3 rfl) rfl
theorem dX6_advance_52 : decode cX6_advance 52 = .ok (.aload_n 0, 1) := dk_1042 (dk_g tcX6_advance_4 4 rfl)
theorem dX6_advance_53 : decode cX6_advance 53 = .ok (.getfield 15, 3) := dk_1180 (dk_g tcX6_advance_4 5 rfl) (dk_g tcX6_advance_4 6 rfl) (dk_g tcX6_advance_4 7 rfl) rfl
theorem dX6_advance_56 : decode cX6_advance 56 = .ok (.if_icmp .ge 17, 3) := dk_2162 (dk_g tcX6_advance_4 8 rfl) (dk_g tcX6_advance_4 9 rfl) (dk_g tcX6_advance_4 10 rfl) rfl rfl
theorem dX6_advance_59 : decode cX6_advance 59 = .ok (.aload_n 0, 1) := dk_1042 (dk_g tcX6_advance_4 11 rfl)
theorem tcX6_advance_5 : (cX6_advance.data.toList.drop 60).take 12 = [42, 180, 0, 19, 182, 0, 43, 184, 0, 51, 167, 0] := by decide +kernel
theorem dX6_advance_60 : decode cX6_advance 60 = .ok (.aload_n 0, 1) := dk_1042 (dk_g tcX6_advance_5 0 rfl)
theorem dX6_advance_61 : decode cX6_advance 61 = .ok (.getfield 19, 3) := dk_1180 (dk_g tcX6_advance_5 1 rfl) (dk_g tcX6_advance_5 2 rfl) (dk_g tcX6_advance_5 3 rfl) rfl
theorem dX6_advance_64 : decode cX6_advance 64 = .ok (.invokevirtual 43, 3) := dk_1182 (dk_g tcX6_advance_5 4 rfl) (dk_g tcX6_advance_5 5 rfl) (dk_g tcX6_advance_5 6 rfl) rfl
theorem dX6_advance_67 : decode cX6_advance 67 = .ok (.invokestatic 51, 3) := dk_1184 (dk_g tcX6_advance_5 7 rfl) (dk_g tcX6_advance_5 8 rfl) (dk_g tcX6_advance_5 9 rfl) rfl
theorem tcX6_advance_6 : (cX6_advance.data.toList.drop 72).take 12 = [4, 3, 181, 0, 22, 42, 89, 180, 0, 19, 42, 180] := by decide +kernel
theorem dX6_advance_70 : decode cX6_advance 70 = .ok (.goto 4, 3) := dk_2167 (dk_g tcX6_advance_5 10 rfl) (dk_g tcX6_advance_5 11 rfl) (dk_g tcX6_advance_6 0 rfl) rfl rfl
theorem dX6_advance_73 : decode cX6_advance 73 = .ok (.iconst 0, 1) := dk_1003 (dk_g tcX6_advance_6 1 rfl)
theorem dX6_advance_74 : decode cX6_advance 74 = .ok (.putfield 22, 3) := dk_1181 (dk_g tcX6_advance_6 2 rfl) (dk_g tcX6_advance_6 3 rfl) (dk_g tcX6_advance_6 4 rfl) rfl
theorem dX6_advance_77 : decode cX6_advance 77 = .ok (.aload_n 0, 1) := dk_1042 (dk_g tcX6_advance_6 5 rfl)
theorem dX6_advance_78 : decode cX6_advance 78 = .ok (.dup, 1) := dk_1089 (dk_g tcX6_advance_6 6 rfl)
theorem dX6_advance_79 : decode cX6_advance 79 = .ok (.getfield 19, 3) := dk_1180 (dk_g tcX6_advance_6 7 rfl) (dk_g tcX6_advance_6 8 rfl) (dk_g tcX6_advance_6 9 rfl) rfl
theorem dX6_advance_82 : decode cX6_advance 82 = .ok (.aload_n 0, 1) := dk_1042 (dk_g tcX6_advance_6 10 rfl)
theorem tcX6_advance_7 : (cX6_advance.data.toList.drop 84).take 12 = [0, 22, 154, 0, 7, 3, 167, 0, 4, 4, 96, 181] := by decide +kernel
theorem dX6_advance_83 : decode cX6_advance 83 = .ok (.getfield 22, 3) := dk_1180 (dk_g tcX6_advance_6 11 rfl) (dk_g tcX6_advance_7 0 rfl) (dk_g tcX6_advance_7 1 rfl) rfl
theorem dX6_advance_86 : decode cX6_advance 86 = .ok (.ifCond .ne 7, 3) := dk_2154 (dk_g tcX6_advance_7 2 rfl) (dk_g tcX6_advance_7 3 rfl) (dk_g tcX6_advance_7 4 rfl) rfl rfl
theorem dX6_advance_89 : decode cX6_advance 89 = .ok (.iconst 0, 1) := dk_1003 (dk_g tcX6_advance_7 5 rfl)
theorem dX6_advance_90 : decode cX6_advance 90 = .ok (.goto 4, 3) := dk_2167 (dk_g tcX6_advance_7 6 rfl) (dk_g tcX6_advance_7 7 rfl) (dk_g tcX6_advance_7 8 rfl) rfl rfl
theorem dX6_advance_93 : decode cX6_advance 93 = .ok (.iconst 1, 1) := dk_1004 (dk_g tcX6_advance_7 9 rfl)
theorem dX6_advance_94 : decode cX6_advance 94 = .ok (.iadd, 1) := dk_1096 (dk_g tcX6_advance_7 10 rfl)
theorem tcX6_advance_8 : (cX6_advance.data.toList.drop 96).take 12 = [0, 19, 3, 60, 27, 17, 3, 132, 162, 0, 53, 42] := by decide +kernel
theorem dX6_advance_95 : decode cX6_advance 95 = .ok (.putfield 19, 3) := dk_1181 (dk_g tcX6_advance_7 11 rfl) (dk_g tcX6_advance_8 0 rfl) (dk_g tcX6_advance_8 1 rfl) rfl
theorem dX6_advance_98 : decode cX6_advance 98 = .ok (.iconst 0, 1) := dk_1003 (dk_g tcX6_advance_8 2 rfl)
theorem dX6_advance_99 : decode cX6_advance 99 = .ok (.istore_n 1, 1) := dk_1060 (dk_g tcX6_advance_8 3 rfl)
theorem dX6_advance_100 : decode cX6_advance 100 = .ok (.iload_n 1, 1) := dk_1027 (dk_g tcX6_advance_8 4 rfl)
theorem dX6_advance_101 : decode cX6_advance 101 = .ok (.sipush 900, 3) := dk_2017 (dk_g tcX6_advance_8 5 rfl) (dk_g tcX6_advance_8 6 rfl) (dk_g tcX6_advance_8 7 rfl) rfl rfl
theorem dX6_advance_104 : decode cX6_advance 104 = .ok (.if_icmp .ge 53, 3) := dk_2162 (dk_g tcX6_advance_8 8 rfl) (dk_g tcX6_advance_8 9 rfl) (dk_g tcX6_advance_8 10 rfl) rfl rfl
theorem dX6_advance_107 : decode cX6_advance 107 = .ok (.aload_n 0, 1) := dk_1042 (dk_g tcX6_advance_8 11 rfl)
theorem tcX6_advance_9 : (cX6_advance.data.toList.drop 108).take 12 = [180, 0, 22, 4, 159, 0, 11, 42, 180, 0, 22, 5] := by decide +kernel
theorem dX6_advance_108 : decode cX6_advance 108 = .ok (.getfield 22, 3) := dk_1180 (dk_g tcX6_advance_9 0 rfl) (dk_g tcX6_advance_9 1 rfl) (dk_g tcX6_advance_9 2 rfl) rfl
theorem dX6_advance_111 : decode cX6_advance 111 = .ok (.iconst 1, 1) := dk_1004 (dk_g tcX6_advance_9 3 rfl)
theorem dX6_advance_112 : decode cX6_advance 112 = .ok (.if_icmp .eq 11, 3) := dk_2159 (dk_g tcX6_advance_9 4 rfl) (dk_g tcX6_advance_9 5 rfl) (dk_g tcX6_advance_9 6 rfl) rfl rfl
theorem dX6_advance_115 : decode cX6_advance 115 = .ok (.aload_n 0, 1) := dk_1042 (dk_g tcX6_advance_9 7 rfl)
theorem dX6_advance_116 : decode cX6_advance 116 = .ok (.getfield 22, 3) := dk_1180 (dk_g tcX6_advance_9 8 rfl) (dk_g tcX6_advance_9 9 rfl) (dk_g tcX6_advance_9 10 rfl) rfl
theorem dX6_advance_119 : decode cX6_advance 119 = .ok (.iconst 2, 1) := dk_1005 (dk_g tcX6_advance_9 11 rfl)
theorem tcX6_advance_10 : (cX6_advance.data.toList.drop 120).take 12 = [160, 0, 37, 42, 42, 180, 0, 19, 182, 0, 43, 184] := by decide +kernel
theorem dX6_advance_120 : decode cX6_advance 120 = .ok (.if_icmp .ne 37, 3) := dk_2160 (dk_g tcX6_advance_10 0 rfl) (dk_g tcX6_advance_10 1 rfl) (dk_g tcX6_advance_10 2 rfl) rfl rfl
theorem dX6_advance_123 : decode cX6_advance 123 = .ok (.aload_n 0, 1) := dk_1042 (dk_g tcX6_advance_10 3 rfl)
theorem dX6_advance_124 : decode cX6_advance 124 = .ok (.aload_n 0, 1) := dk_1042 (dk_g tcX6_advance_10 4 rfl)
theorem dX6_advance_125 : decode cX6_advance 125 = .ok (.getfield 19, 3) := dk_1180 (dk_g tcX6_advance_10 5 rfl) (dk_g tcX6_advance_10 6 rfl) (dk_g tcX6_advance_10 7 rfl) rfl
theorem dX6_advance_128 : decode cX6_advance 128 = .ok (.invokevirtual 43, 3) := dk_1182 (dk_g tcX6_advance_10 8 rfl) (dk_g tcX6_advance_10 9 rfl) (dk_g tcX6_advance_10 10 rfl) rfl
theorem tcX6_advance_11 : (cX6_advance.data.toList.drop 132).take 12 = [0, 51, 42, 180, 0, 22, 160, 0, 19, 42, 89, 180] := by decide +kernel
theorem dX6_advance_131 : decode cX6_advance 131 = .ok (.invokestatic 51, 3) := dk_1184 (dk_g tcX6_advance_10 11 rfl) (dk_g tcX6_advance_11 0 rfl) (dk_g tcX6_advance_11 1 rfl) rfl
theorem dX6_advance_134 : decode cX6_advance 134 = .ok (.aload_n 0, 1) := dk_1042 (dk_g tcX6_advance_11 2 rfl)
theorem dX6_advance_135 : decode cX6_advance 135 = .ok (.getfield 22, 3) := dk_1180 (dk_g tcX6_advance_11 3 rfl) (dk_g tcX6_advance_11 4 rfl) (dk_g tcX6_advance_11 5 rfl) rfl
theorem dX6_advance_138 : decode cX6_advance 138 = .ok (.if_icmp .ne 19, 3) := dk_2160 (dk_g tcX6_advance_11 6 rfl) (dk_g tcX6_advance_11 7 rfl) (dk_g tcX6_advance_11 8 rfl) rfl rfl
theorem dX6_advance_141 : decode cX6_advance 141 = .ok (.aload_n 0, 1) := dk_1042 (dk_g tcX6_advance_11 9 rfl)
theorem dX6_advance_142 : decode cX6_advance 142 = .ok (.dup, 1) := dk_1089 (dk_g tcX6_advance_11 10 rfl)
theorem tcX6_advance_12 : (cX6_advance.data.toList.drop 144).take 12 = [0, 19, 4, 96, 181, 0, 19, 132, 1, 1, 167, 255] := by decide +kernel
theorem dX6_advance_143 : decode cX6_advance 143 = .ok (.getfield 19, 3) := dk_1180 (dk_g tcX6_advance_11 11 rfl) (dk_g tcX6_advance_12 0 rfl) (dk_g tcX6_advance_12 1 rfl) rfl
theorem dX6_advance_146 : decode cX6_advance 146 = .ok (.iconst 1, 1) := dk_1004 (dk_g tcX6_advance_12 2 rfl)
theorem dX6_advance_147 : decode cX6_advance 147 = .ok (.iadd, 1) := dk_1096 (dk_g tcX6_advance_12 3 rfl)
theorem dX6_advance_148 : decode cX6_advance 148 = .ok (.putfield 19, 3) := dk_1181 (dk_g tcX6_advance_12 4 rfl) (dk_g tcX6_advance_12 5 rfl) (dk_g tcX6_advance_12 6 rfl) rfl
theorem dX6_advance_151 : decode cX6_advance 151 = .ok (.iinc 1 1, 3) := dk_1132 (dk_g tcX6_advance_12 7 rfl) (dk_g tcX6_advance_12 8 rfl) (dk_g tcX6_advance_12 9 rfl) rfl (by decide +kernel)
theorem tcX6_advance_13 : (cX6_advance.data.toList.drop 156).take 12 = [202, 42, 42, 180, 0, 19, 42, 180, 0, 25, 100, 181] := by decide +kernel
theorem dX6_advance_154 : decode cX6_advance 154 = .ok (.goto (-54), 3) := dk_1167 (dk_g tcX6_advance_12 10 rfl) (dk_g tcX6_advance_12 11 rfl) (dk_g tcX6_advance_13 0 rfl) (by decide +kernel)
theorem dX6_advance_157 : decode cX6_advance 157 = .ok (.aload_n 0, 1) := dk_1042 (dk_g tcX6_advance_13 1 rfl)
theorem dX6_advance_158 : decode cX6_advance 158 = .ok (.aload_n 0, 1) := dk_1042 (dk_g tcX6_advance_13 2 rfl)
theorem dX6_advance_159 : decode cX6_advance 159 = .ok (.getfield 19, 3) := dk_1180 (dk_g tcX6_advance_13 3 rfl) (dk_g tcX6_advance_13 4 rfl) (dk_g tcX6_advance_13 5 rfl) rfl
theorem dX6_advance_162 : decode cX6_advance 162 = .ok (.aload_n 0, 1) := dk_1042 (dk_g tcX6_advance_13 6 rfl)
theorem dX6_advance_163 : decode cX6_advance 163 = .ok (.getfield 25, 3) := dk_1180 (dk_g tcX6_advance_13 7 rfl) (dk_g tcX6_advance_13 8 rfl) (dk_g tcX6_advance_13 9 rfl) rfl
theorem dX6_advance_166 : decode cX6_advance 166 = .ok (.isub, 1) := dk_1100 (dk_g tcX6_advance_13 10 rfl)
theorem tcX6_advance_14 : (cX6_advance.data.toList.drop 168).take 12 = [0, 28, 42, 3, 181, 0, 31, 3, 60, 27, 42, 180] := by decide +kernel
theorem dX6_advance_167 : decode cX6_advance 167 = .ok (.putfield 28, 3) := dk_1181 (dk_g tcX6_advance_13 11 rfl) (dk_g tcX6_advance_14 0 rfl) (dk_g tcX6_advance_14 1 rfl) rfl
theorem dX6_advance_170 : decode cX6_advance 170 = .ok (.aload_n 0, 1) := dk_1042 (dk_g tcX6_advance_14 2 rfl)
theorem dX6_advance_171 : decode cX6_advance 171 = .ok (.iconst 0, 1) := dk_1003 (dk_g tcX6_advance_14 3 rfl)
theorem dX6_advance_172 : decode cX6_advance 172 = .ok (.putfield 31, 3) := dk_1181 (dk_g tcX6_advance_14 4 rfl) (dk_g tcX6_advance_14 5 rfl) (dk_g tcX6_advance_14 6 rfl) rfl
theorem dX6_advance_175 : decode cX6_advance 175 = .ok (.iconst 0, 1) := dk_1003 (dk_g tcX6_advance_14 7 rfl)
theorem dX6_advance_176 : decode cX6_advance 176 = .ok (.istore_n 1, 1) := dk_1060 (dk_g tcX6_advance_14 8 rfl)
theorem dX6_advance_177 : decode cX6_advance 177 = .ok (.iload_n 1, 1) := dk_1027 (dk_g tcX6_advance_14 9 rfl)
theorem dX6_advance_178 : decode cX6_advance 178 = .ok (.aload_n 0, 1) := dk_1042 (dk_g tcX6_advance_14 10 rfl)
theorem tcX6_advance_15 : (cX6_advance.data.toList.drop 180).take 12 = [0, 28, 162, 0, 47, 27, 8, 162, 0, 42, 42, 180] := by decide +kernel
theorem dX6_advance_179 : decode cX6_advance 179 = .ok (.getfield 28, 3) := dk_1180 (dk_g tcX6_advance_14 11 rfl) (dk_g tcX6_advance_15 0 rfl) (dk_g tcX6_advance_15 1 rfl) rfl
theorem dX6_advance_182 : decode cX6_advance 182 = .ok (.if_icmp .ge 47, 3) := dk_2162 (dk_g tcX6_advance_15 2 rfl) (dk_g tcX6_advance_15 3 rfl) (dk_g tcX6_advance_15 4 rfl) rfl rfl
theorem dX6_advance_185 : decode cX6_advance 185 = .ok (.iload_n 1, 1) := dk_1027 (dk_g tcX6_advance_15 5 rfl)
theorem dX6_advance_186 : decode cX6_advance 186 = .ok (.iconst 5, 1) := dk_1008 (dk_g tcX6_advance_15 6 rfl)
theorem dX6_advance_187 : decode cX6_advance 187 = .ok (.if_icmp .ge 42, 3) := dk_2162 (dk_g tcX6_advance_15 7 rfl) (dk_g tcX6_advance_15 8 rfl) (dk_g tcX6_advance_15 9 rfl) rfl rfl
theorem dX6_advance_190 : decode cX6_advance 190 = .ok (.aload_n 0, 1) := dk_1042 (dk_g tcX6_advance_15 10 rfl)
theorem tcX6_advance_16 : (cX6_advance.data.toList.drop 192).take 12 = [0, 22, 5, 160, 0, 34, 42, 16, 10, 42, 180, 0] := by decide +kernel
theorem dX6_advance_191 : decode cX6_advance 191 = .ok (.getfield 22, 3) := dk_1180 (dk_g tcX6_advance_15 11 rfl) (dk_g tcX6_advance_16 0 rfl) (dk_g tcX6_advance_16 1 rfl) rfl
theorem dX6_advance_194 : decode cX6_advance 194 = .ok (.iconst 2, 1) := dk_1005 (dk_g tcX6_advance_16 2 rfl)
theorem dX6_advance_195 : decode cX6_advance 195 = .ok (.if_icmp .ne 34, 3) := dk_2160 (dk_g tcX6_advance_16 3 rfl) (dk_g tcX6_advance_16 4 rfl) (dk_g tcX6_advance_16 5 rfl) rfl rfl
theorem dX6_advance_198 : decode cX6_advance 198 = .ok (.aload_n 0, 1) := dk_1042 (dk_g tcX6_advance_16 6 rfl)
theorem dX6_advance_199 : decode cX6_advance 199 = .ok (.bipush 10, 2) := dk_1016 (dk_g tcX6_advance_16 7 rfl) (dk_g tcX6_advance_16 8 rfl) (by decide +kernel)
theorem dX6_advance_201 : decode cX6_advance 201 = .ok (.aload_n 0, 1) := dk_1042 (dk_g tcX6_advance_16 9 rfl)
theorem tcX6_advance_17 : (cX6_advance.data.toList.drop 204).take 12 = [31, 104, 42, 42, 180, 0, 25, 27, 96, 182, 0, 43] := by decide +kernel
theorem dX6_advance_202 : decode cX6_advance 202 = .ok (.getfield 31, 3) := dk_1180 (dk_g tcX6_advance_16 10 rfl) (dk_g tcX6_advance_16 11 rfl) (dk_g tcX6_advance_17 0 rfl) rfl
theorem dX6_advance_205 : decode cX6_advance 205 = .ok (.imul, 1) := dk_1104 (dk_g tcX6_advance_17 1 rfl)
theorem dX6_advance_206 : decode cX6_advance 206 = .ok (.aload_n 0, 1) := dk_1042 (dk_g tcX6_advance_17 2 rfl)
theorem dX6_advance_207 : decode cX6_advance 207 = .ok (.aload_n 0, 1) := dk_1042 (dk_g tcX6_advance_17 3 rfl)
theorem dX6_advance_208 : decode cX6_advance 208 = .ok (.getfield 25, 3) := dk_1180 (dk_g tcX6_advance_17 4 rfl) (dk_g tcX6_advance_17 5 rfl) (dk_g tcX6_advance_17 6 rfl) rfl
theorem dX6_advance_211 : decode cX6_advance 211 = .ok (.iload_n 1, 1) := dk_1027 (dk_g tcX6_advance_17 7 rfl)
theorem dX6_advance_212 : decode cX6_advance 212 = .ok (.iadd, 1) := dk_1096 (dk_g tcX6_advance_17 8 rfl)
theorem dX6_advance_213 : decode cX6_advance 213 = .ok (.invokevirtual 43, 3) := dk_1182 (dk_g tcX6_advance_17 9 rfl) (dk_g tcX6_advance_17 10 rfl) (dk_g tcX6_advance_17 11 rfl) rfl
theorem tcX6_advance_18 : (cX6_advance.data.toList.drop 216).take 12 = [96, 16, 48, 100, 181, 0, 31, 132, 1, 1, 167, 255] := by decide +kernel
theorem dX6_advance_216 : decode cX6_advance 216 = .ok (.iadd, 1) := dk_1096 (dk_g tcX6_advance_18 0 rfl)
theorem dX6_advance_217 : decode cX6_advance 217 = .ok (.bipush 48, 2) := dk_1016 (dk_g tcX6_advance_18 1 rfl) (dk_g tcX6_advance_18 2 rfl) (by decide +kernel)
theorem dX6_advance_219 : decode cX6_advance 219 = .ok (.isub, 1) := dk_1100 (dk_g tcX6_advance_18 3 rfl)
theorem dX6_advance_220 : decode cX6_advance 220 = .ok (.putfield 31, 3) := dk_1181 (dk_g tcX6_advance_18 4 rfl) (dk_g tcX6_advance_18 5 rfl) (dk_g tcX6_advance_18 6 rfl) rfl
theorem dX6_advance_223 : decode cX6_advance 223 = .ok (.iinc 1 1, 3) := dk_1132 (dk_g tcX6_advance_18 7 rfl) (dk_g tcX6_advance_18 8 rfl) (dk_g tcX6_advance_18 9 rfl) rfl (by decide +kernel)
theorem tcX6_advance_19 : (cX6_advance.data.toList.drop 228).take 12 = [207, 42, 42, 180, 0, 22, 5, 160, 0, 15, 42, 180] := by decide +kernel
theorem dX6_advance_226 : decode cX6_advance 226 = .ok (.goto (-49), 3) := dk_1167 (dk_g tcX6_advance_18 10 rfl) (dk_g tcX6_advance_18 11 rfl) (dk_g tcX6_advance_19 0 rfl) (by decide +kernel)
theorem dX6_advance_229 : decode cX6_advance 229 = .ok (.aload_n 0, 1) := dk_1042 (dk_g tcX6_advance_19 1 rfl)
theorem dX6_advance_230 : decode cX6_advance 230 = .ok (.aload_n 0, 1) := dk_1042 (dk_g tcX6_advance_19 2 rfl)
theorem dX6_advance_231 : decode cX6_advance 231 = .ok (.getfield 22, 3) := dk_1180 (dk_g tcX6_advance_19 3 rfl) (dk_g tcX6_advance_19 4 rfl) (dk_g tcX6_advance_19 5 rfl) rfl
theorem dX6_advance_234 : decode cX6_advance 234 = .ok (.iconst 2, 1) := dk_1005 (dk_g tcX6_advance_19 6 rfl)
theorem dX6_advance_235 : decode cX6_advance 235 = .ok (.if_icmp .ne 15, 3) := dk_2160 (dk_g tcX6_advance_19 7 rfl) (dk_g tcX6_advance_19 8 rfl) (dk_g tcX6_advance_19 9 rfl) rfl rfl
theorem dX6_advance_238 : decode cX6_advance 238 = .ok (.aload_n 0, 1) := dk_1042 (dk_g tcX6_advance_19 10 rfl)
theorem tcX6_advance_20 : (cX6_advance.data.toList.drop 240).take 12 = [0, 28, 8, 164, 0, 7, 7, 167, 0, 7, 42, 180] := by decide +kernel
theorem dX6_advance_239 : decode cX6_advance 239 = .ok (.getfield 28, 3) := dk_1180 (dk_g tcX6_advance_19 11 rfl) (dk_g tcX6_advance_20 0 rfl) (dk_g tcX6_advance_20 1 rfl) rfl
theorem dX6_advance_242 : decode cX6_advance 242 = .ok (.iconst 5, 1) := dk_1008 (dk_g tcX6_advance_20 2 rfl)
theorem dX6_advance_243 : decode cX6_advance 243 = .ok (.if_icmp .le 7, 3) := dk_2164 (dk_g tcX6_advance_20 3 rfl) (dk_g tcX6_advance_20 4 rfl) (dk_g tcX6_advance_20 5 rfl) rfl rfl
theorem dX6_advance_246 : decode cX6_advance 246 = .ok (.iconst 4, 1) := dk_1007 (dk_g tcX6_advance_20 6 rfl)
theorem dX6_advance_247 : decode cX6_advance 247 = .ok (.goto 7, 3) := dk_2167 (dk_g tcX6_advance_20 7 rfl) (dk_g tcX6_advance_20 8 rfl) (dk_g tcX6_advance_20 9 rfl) rfl rfl
theorem dX6_advance_250 : decode cX6_advance 250 = .ok (.aload_n 0, 1) := dk_1042 (dk_g tcX6_advance_20 10 rfl)
theorem tcX6_advance_21 : (cX6_advance.data.toList.drop 252).take 12 = [0, 22, 181, 0, 22, 177] := by decide +kernel
theorem dX6_advance_251 : decode cX6_advance 251 = .ok (.getfield 22, 3) := dk_1180 (dk_g tcX6_advance_20 11 rfl) (dk_g tcX6_advance_21 0 rfl) (dk_g tcX6_advance_21 1 rfl) rfl
theorem dX6_advance_254 : decode cX6_advance 254 = .ok (.putfield 22, 3) := dk_1181 (dk_g tcX6_advance_21 2 rfl) (dk_g tcX6_advance_21 3 rfl) (dk_g tcX6_advance_21 4 rfl) rfl
theorem dX6_advance_257 : decode cX6_advance 257 = .ok (.return_, 1) := dk_1177 (dk_g tcX6_advance_21 5 rfl)
theorem tcX6_spells_0 : (cX6_spells.data.toList.drop 0).take 12 = [42, 180, 0, 22, 4, 160, 0, 18, 42, 180, 0, 28] := by decide +kernel
theorem dX6_spells_0 : decode cX6_spells 0 = .ok (.aload_n 0, 1) := dk_1042 (dk_g tcX6_spells_0 0 rfl)
theorem dX6_spells_1 : decode cX6_spells 1 = .ok (.getfield 22, 3) := dk_1180 (dk_g tcX6_spells_0 1 rfl) (dk_g tcX6_spells_0 2 rfl) (dk_g tcX6_spells_0 3 rfl) rfl
theorem dX6_spells_4 : decode cX6_spells 4 = .ok (.iconst 1, 1) := dk_1004 (dk_g tcX6_spells_0 4 rfl)
theorem dX6_spells_5 : decode cX6_spells 5 = .ok (.if_icmp .ne 18, 3) := dk_2160 (dk_g tcX6_spells_0 5 rfl) (dk_g tcX6_spells_0 6 rfl) (dk_g tcX6_spells_0 7 rfl) rfl rfl
theorem dX6_spells_8 : decode cX6_spells 8 = .ok (.aload_n 0, 1) := dk_1042 (dk_g tcX6_spells_0 8 rfl)
theorem dX6_spells_9 : decode cX6_spells 9 = .ok (.getfield 28, 3) := dk_1180 (dk_g tcX6_spells_0 9 rfl) (dk_g tcX6_spells_0 10 rfl) (dk_g tcX6_spells_0 11 rfl) rfl
theorem tcX6_spells_1 : (cX6_spells.data.toList.drop 12).take 12 = [43, 182, 0, 54, 160, 0, 7, 4, 167, 0, 4, 3] := by decide +kernel
theorem dX6_spells_12 : decode cX6_spells 12 = .ok (.aload_n 1, 1) := dk_1043 (dk_g tcX6_spells_1 0 rfl)
theorem dX6_spells_13 : decode cX6_spells 13 = .ok (.invokevirtual 54, 3) := dk_1182 (dk_g tcX6_spells_1 1 rfl) (dk_g tcX6_spells_1 2 rfl) (dk_g tcX6_spells_1 3 rfl) rfl
theorem dX6_spells_16 : decode cX6_spells 16 = .ok (.if_icmp .ne 7, 3) := dk_2160 (dk_g tcX6_spells_1 4 rfl) (dk_g tcX6_spells_1 5 rfl) (dk_g tcX6_spells_1 6 rfl) rfl rfl
theorem dX6_spells_19 : decode cX6_spells 19 = .ok (.iconst 1, 1) := dk_1004 (dk_g tcX6_spells_1 7 rfl)
theorem dX6_spells_20 : decode cX6_spells 20 = .ok (.goto 4, 3) := dk_2167 (dk_g tcX6_spells_1 8 rfl) (dk_g tcX6_spells_1 9 rfl) (dk_g tcX6_spells_1 10 rfl) rfl rfl
theorem dX6_spells_23 : decode cX6_spells 23 = .ok (.iconst 0, 1) := dk_1003 (dk_g tcX6_spells_1 11 rfl)
theorem tcX6_spells_2 : (cX6_spells.data.toList.drop 24).take 12 = [61, 3, 62, 29, 43, 182, 0, 54, 162, 0, 37, 28] := by decide +kernel
theorem dX6_spells_24 : decode cX6_spells 24 = .ok (.istore_n 2, 1) := dk_1061 (dk_g tcX6_spells_2 0 rfl)
theorem dX6_spells_25 : decode cX6_spells 25 = .ok (.iconst 0, 1) := dk_1003 (dk_g tcX6_spells_2 1 rfl)
theorem dX6_spells_26 : decode cX6_spells 26 = .ok (.istore_n 3, 1) := dk_1062 (dk_g tcX6_spells_2 2 rfl)
theorem dX6_spells_27 : decode cX6_spells 27 = .ok (.iload_n 3, 1) := dk_1029 (dk_g tcX6_spells_2 3 rfl)
theorem dX6_spells_28 : decode cX6_spells 28 = .ok (.aload_n 1, 1) := dk_1043 (dk_g tcX6_spells_2 4 rfl)
theorem dX6_spells_29 : decode cX6_spells 29 = .ok (.invokevirtual 54, 3) := dk_1182 (dk_g tcX6_spells_2 5 rfl) (dk_g tcX6_spells_2 6 rfl) (dk_g tcX6_spells_2 7 rfl) rfl
theorem dX6_spells_32 : decode cX6_spells 32 = .ok (.if_icmp .ge 37, 3) := dk_2162 (dk_g tcX6_spells_2 8 rfl) (dk_g tcX6_spells_2 9 rfl) (dk_g tcX6_spells_2 10 rfl) rfl rfl
theorem dX6_spells_35 : decode cX6_spells 35 = .ok (.iload_n 2, 1) := dk_1028 (dk_g tcX6_spells_2 11 rfl)
theorem tcX6_spells_3 : (cX6_spells.data.toList.drop 36).take 12 = [153, 0, 33, 42, 42, 180, 0, 25, 29, 96, 182, 0] := by decide +kernel
theorem dX6_spells_36 : decode cX6_spells 36 = .ok (.ifCond .eq 33, 3) := dk_2153 (dk_g tcX6_spells_3 0 rfl) (dk_g tcX6_spells_3 1 rfl) (dk_g tcX6_spells_3 2 rfl) rfl rfl
theorem dX6_spells_39 : decode cX6_spells 39 = .ok (.aload_n 0, 1) := dk_1042 (dk_g tcX6_spells_3 3 rfl)
theorem dX6_spells_40 : decode cX6_spells 40 = .ok (.aload_n 0, 1) := dk_1042 (dk_g tcX6_spells_3 4 rfl)
theorem dX6_spells_41 : decode cX6_spells 41 = .ok (.getfield 25, 3) := dk_1180 (dk_g tcX6_spells_3 5 rfl) (dk_g tcX6_spells_3 6 rfl) (dk_g tcX6_spells_3 7 rfl) rfl
theorem dX6_spells_44 : decode cX6_spells 44 = .ok (.iload_n 3, 1) := dk_1029 (dk_g tcX6_spells_3 8 rfl)
theorem dX6_spells_45 : decode cX6_spells 45 = .ok (.iadd, 1) := dk_1096 (dk_g tcX6_spells_3 9 rfl)
theorem tcX6_spells_4 : (cX6_spells.data.toList.drop 48).take 12 = [43, 43, 29, 182, 0, 59, 160, 0, 7, 4, 167, 0] := by decide +kernel
theorem dX6_spells_46 : decode cX6_spells 46 = .ok (.invokevirtual 43, 3) := dk_1182 (dk_g tcX6_spells_3 10 rfl) (dk_g tcX6_spells_3 11 rfl) (dk_g tcX6_spells_4 0 rfl) rfl
theorem dX6_spells_49 : decode cX6_spells 49 = .ok (.aload_n 1, 1) := dk_1043 (dk_g tcX6_spells_4 1 rfl)
theorem dX6_spells_50 : decode cX6_spells 50 = .ok (.iload_n 3, 1) := dk_1029 (dk_g tcX6_spells_4 2 rfl)
theorem dX6_spells_51 : decode cX6_spells 51 = .ok (.invokevirtual 59, 3) := dk_1182 (dk_g tcX6_spells_4 3 rfl) (dk_g tcX6_spells_4 4 rfl) (dk_g tcX6_spells_4 5 rfl) rfl
theorem dX6_spells_54 : decode cX6_spells 54 = .ok (.if_icmp .ne 7, 3) := dk_2160 (dk_g tcX6_spells_4 6 rfl) (dk_g tcX6_spells_4 7 rfl) (dk_g tcX6_spells_4 8 rfl) rfl rfl
theorem dX6_spells_57 : decode cX6_spells 57 = .ok (.iconst 1, 1) := dk_1004 (dk_g tcX6_spells_4 9 rfl)
theorem tcX6_spells_5 : (cX6_spells.data.toList.drop 60).take 12 = [4, 3, 61, 132, 3, 1, 167, 255, 217, 28, 172] := by decide +kernel
theorem dX6_spells_58 : decode cX6_spells 58 = .ok (.goto 4, 3) := dk_2167 (dk_g tcX6_spells_4 10 rfl) (dk_g tcX6_spells_4 11 rfl) (dk_g tcX6_spells_5 0 rfl) rfl rfl
theorem dX6_spells_61 : decode cX6_spells 61 = .ok (.iconst 0, 1) := dk_1003 (dk_g tcX6_spells_5 1 rfl)
theorem dX6_spells_62 : decode cX6_spells 62 = .ok (.istore_n 2, 1) := dk_1061 (dk_g tcX6_spells_5 2 rfl)
theorem dX6_spells_63 : decode cX6_spells 63 = .ok (.iinc 3 1, 3) := dk_1132 (dk_g tcX6_spells_5 3 rfl) (dk_g tcX6_spells_5 4 rfl) (dk_g tcX6_spells_5 5 rfl) rfl (by decide +kernel)
theorem dX6_spells_66 : decode cX6_spells 66 = .ok (.goto (-39), 3) := dk_1167 (dk_g tcX6_spells_5 6 rfl) (dk_g tcX6_spells_5 7 rfl) (dk_g tcX6_spells_5 8 rfl) (by decide +kernel)
theorem dX6_spells_69 : decode cX6_spells 69 = .ok (.iload_n 2, 1) := dk_1028 (dk_g tcX6_spells_5 9 rfl)
theorem dX6_spells_70 : decode cX6_spells 70 = .ok (.ireturn, 1) := dk_1172 (dk_g tcX6_spells_5 10 rfl)
theorem tcX6_copyWord_0 : (cX6_copyWord.data.toList.drop 0).take 12 = [43, 182, 0, 63, 3, 61, 28, 42, 180, 0, 28, 162] := by decide +kernel
theorem dX6_copyWord_0 : decode cX6_copyWord 0 = .ok (.aload_n 1, 1) := dk_1043 (dk_g tcX6_copyWord_0 0 rfl)
theorem dX6_copyWord_1 : decode cX6_copyWord 1 = .ok (.invokevirtual 63, 3) := dk_1182 (dk_g tcX6_copyWord_0 1 rfl) (dk_g tcX6_copyWord_0 2 rfl) (dk_g tcX6_copyWord_0 3 rfl) rfl
theorem dX6_copyWord_4 : decode cX6_copyWord 4 = .ok (.iconst 0, 1) := dk_1003 (dk_g tcX6_copyWord_0 4 rfl)
theorem dX6_copyWord_5 : decode cX6_copyWord 5 = .ok (.istore_n 2, 1) := dk_1061 (dk_g tcX6_copyWord_0 5 rfl)
theorem dX6_copyWord_6 : decode cX6_copyWord 6 = .ok (.iload_n 2, 1) := dk_1028 (dk_g tcX6_copyWord_0 6 rfl)
theorem dX6_copyWord_7 : decode cX6_copyWord 7 = .ok (.aload_n 0, 1) := dk_1042 (dk_g tcX6_copyWord_0 7 rfl)
theorem dX6_copyWord_8 : decode cX6_copyWord 8 = .ok (.getfield 28, 3) := dk_1180 (dk_g tcX6_copyWord_0 8 rfl) (dk_g tcX6_copyWord_0 9 rfl) (dk_g tcX6_copyWord_0 10 rfl) rfl
theorem tcX6_copyWord_1 : (cX6_copyWord.data.toList.drop 12).take 12 = [0, 34, 28, 16, 8, 162, 0, 28, 43, 42, 42, 180] := by decide +kernel
theorem dX6_copyWord_11 : decode cX6_copyWord 11 = .ok (.if_icmp .ge 34, 3) := dk_2162 (dk_g tcX6_copyWord_0 11 rfl) (dk_g tcX6_copyWord_1 0 rfl) (dk_g tcX6_copyWord_1 1 rfl) rfl rfl
theorem dX6_copyWord_14 : decode cX6_copyWord 14 = .ok (.iload_n 2, 1) := dk_1028 (dk_g tcX6_copyWord_1 2 rfl)
theorem dX6_copyWord_15 : decode cX6_copyWord 15 = .ok (.bipush 8, 2) := dk_1016 (dk_g tcX6_copyWord_1 3 rfl) (dk_g tcX6_copyWord_1 4 rfl) (by decide +kernel)
theorem dX6_copyWord_17 : decode cX6_copyWord 17 = .ok (.if_icmp .ge 28, 3) := dk_2162 (dk_g tcX6_copyWord_1 5 rfl) (dk_g tcX6_copyWord_1 6 rfl) (dk_g tcX6_copyWord_1 7 rfl) rfl rfl
theorem dX6_copyWord_20 : decode cX6_copyWord 20 = .ok (.aload_n 1, 1) := dk_1043 (dk_g tcX6_copyWord_1 8 rfl)
theorem dX6_copyWord_21 : decode cX6_copyWord 21 = .ok (.aload_n 0, 1) := dk_1042 (dk_g tcX6_copyWord_1 9 rfl)
theorem dX6_copyWord_22 : decode cX6_copyWord 22 = .ok (.aload_n 0, 1) := dk_1042 (dk_g tcX6_copyWord_1 10 rfl)
theorem tcX6_copyWord_2 : (cX6_copyWord.data.toList.drop 24).take 12 = [0, 25, 28, 96, 182, 0, 43, 16, 97, 100, 4, 96] := by decide +kernel
theorem dX6_copyWord_23 : decode cX6_copyWord 23 = .ok (.getfield 25, 3) := dk_1180 (dk_g tcX6_copyWord_1 11 rfl) (dk_g tcX6_copyWord_2 0 rfl) (dk_g tcX6_copyWord_2 1 rfl) rfl
theorem dX6_copyWord_26 : decode cX6_copyWord 26 = .ok (.iload_n 2, 1) := dk_1028 (dk_g tcX6_copyWord_2 2 rfl)
theorem dX6_copyWord_27 : decode cX6_copyWord 27 = .ok (.iadd, 1) := dk_1096 (dk_g tcX6_copyWord_2 3 rfl)
theorem dX6_copyWord_28 : decode cX6_copyWord 28 = .ok (.invokevirtual 43, 3) := dk_1182 (dk_g tcX6_copyWord_2 4 rfl) (dk_g tcX6_copyWord_2 5 rfl) (dk_g tcX6_copyWord_2 6 rfl) rfl
theorem dX6_copyWord_31 : decode cX6_copyWord 31 = .ok (.bipush 97, 2) := dk_1016 (dk_g tcX6_copyWord_2 7 rfl) (dk_g tcX6_copyWord_2 8 rfl) (by decide +kernel)
theorem dX6_copyWord_33 : decode cX6_copyWord 33 = .ok (.isub, 1) := dk_1100 (dk_g tcX6_copyWord_2 9 rfl)
theorem dX6_copyWord_34 : decode cX6_copyWord 34 = .ok (.iconst 1, 1) := dk_1004 (dk_g tcX6_copyWord_2 10 rfl)
theorem dX6_copyWord_35 : decode cX6_copyWord 35 = .ok (.iadd, 1) := dk_1096 (dk_g tcX6_copyWord_2 11 rfl)
theorem tcX6_copyWord_3 : (cX6_copyWord.data.toList.drop 36).take 12 = [182, 0, 68, 132, 2, 1, 167, 255, 220, 177] := by decide +kernel
theorem dX6_copyWord_36 : decode cX6_copyWord 36 = .ok (.invokevirtual 68, 3) := dk_1182 (dk_g tcX6_copyWord_3 0 rfl) (dk_g tcX6_copyWord_3 1 rfl) (dk_g tcX6_copyWord_3 2 rfl) rfl
theorem dX6_copyWord_39 : decode cX6_copyWord 39 = .ok (.iinc 2 1, 3) := dk_1132 (dk_g tcX6_copyWord_3 3 rfl) (dk_g tcX6_copyWord_3 4 rfl) (dk_g tcX6_copyWord_3 5 rfl) rfl (by decide +kernel)
theorem dX6_copyWord_42 : decode cX6_copyWord 42 = .ok (.goto (-36), 3) := dk_1167 (dk_g tcX6_copyWord_3 6 rfl) (dk_g tcX6_copyWord_3 7 rfl) (dk_g tcX6_copyWord_3 8 rfl) (by decide +kernel)
theorem dX6_copyWord_45 : decode cX6_copyWord 45 = .ok (.return_, 1) := dk_1177 (dk_g tcX6_copyWord_3 9 rfl)
theorem tcX6_byteAt_0 : (cX6_byteAt.data.toList.drop 0).take 12 = [27, 155, 0, 29, 27, 42, 180, 0, 15, 162, 0, 21] := by decide +kernel
theorem dX6_byteAt_0 : decode cX6_byteAt 0 = .ok (.iload_n 1, 1) := dk_1027 (dk_g tcX6_byteAt_0 0 rfl)
theorem dX6_byteAt_1 : decode cX6_byteAt 1 = .ok (.ifCond .lt 29, 3) := dk_2155 (dk_g tcX6_byteAt_0 1 rfl) (dk_g tcX6_byteAt_0 2 rfl) (dk_g tcX6_byteAt_0 3 rfl) rfl rfl
theorem dX6_byteAt_4 : decode cX6_byteAt 4 = .ok (.iload_n 1, 1) := dk_1027 (dk_g tcX6_byteAt_0 4 rfl)
theorem dX6_byteAt_5 : decode cX6_byteAt 5 = .ok (.aload_n 0, 1) := dk_1042 (dk_g tcX6_byteAt_0 5 rfl)
theorem dX6_byteAt_6 : decode cX6_byteAt 6 = .ok (.getfield 15, 3) := dk_1180 (dk_g tcX6_byteAt_0 6 rfl) (dk_g tcX6_byteAt_0 7 rfl) (dk_g tcX6_byteAt_0 8 rfl) rfl
theorem dX6_byteAt_9 : decode cX6_byteAt 9 = .ok (.if_icmp .ge 21, 3) := dk_2162 (dk_g tcX6_byteAt_0 9 rfl) (dk_g tcX6_byteAt_0 10 rfl) (dk_g tcX6_byteAt_0 11 rfl) rfl rfl
theorem tcX6_byteAt_1 : (cX6_byteAt.data.toList.drop 12).take 12 = [27, 42, 180, 0, 9, 190, 162, 0, 12, 42, 180, 0] := by decide +kernel
theorem dX6_byteAt_12 : decode cX6_byteAt 12 = .ok (.iload_n 1, 1) := dk_1027 (dk_g tcX6_byteAt_1 0 rfl)
theorem dX6_byteAt_13 : decode cX6_byteAt 13 = .ok (.aload_n 0, 1) := dk_1042 (dk_g tcX6_byteAt_1 1 rfl)
theorem dX6_byteAt_14 : decode cX6_byteAt 14 = .ok (.getfield 9, 3) := dk_1180 (dk_g tcX6_byteAt_1 2 rfl) (dk_g tcX6_byteAt_1 3 rfl) (dk_g tcX6_byteAt_1 4 rfl) rfl
theorem dX6_byteAt_17 : decode cX6_byteAt 17 = .ok (.arraylength, 1) := dk_1190 (dk_g tcX6_byteAt_1 5 rfl)
theorem dX6_byteAt_18 : decode cX6_byteAt 18 = .ok (.if_icmp .ge 12, 3) := dk_2162 (dk_g tcX6_byteAt_1 6 rfl) (dk_g tcX6_byteAt_1 7 rfl) (dk_g tcX6_byteAt_1 8 rfl) rfl rfl
theorem dX6_byteAt_21 : decode cX6_byteAt 21 = .ok (.aload_n 0, 1) := dk_1042 (dk_g tcX6_byteAt_1 9 rfl)
theorem tcX6_byteAt_2 : (cX6_byteAt.data.toList.drop 24).take 12 = [9, 27, 51, 167, 0, 4, 3, 172] := by decide +kernel
theorem dX6_byteAt_22 : decode cX6_byteAt 22 = .ok (.getfield 9, 3) := dk_1180 (dk_g tcX6_byteAt_1 10 rfl) (dk_g tcX6_byteAt_1 11 rfl) (dk_g tcX6_byteAt_2 0 rfl) rfl
theorem dX6_byteAt_25 : decode cX6_byteAt 25 = .ok (.iload_n 1, 1) := dk_1027 (dk_g tcX6_byteAt_2 1 rfl)
theorem dX6_byteAt_26 : decode cX6_byteAt 26 = .ok (.baload, 1) := dk_1051 (dk_g tcX6_byteAt_2 2 rfl)
theorem dX6_byteAt_27 : decode cX6_byteAt 27 = .ok (.goto 4, 3) := dk_2167 (dk_g tcX6_byteAt_2 3 rfl) (dk_g tcX6_byteAt_2 4 rfl) (dk_g tcX6_byteAt_2 5 rfl) rfl rfl
theorem dX6_byteAt_30 : decode cX6_byteAt 30 = .ok (.iconst 0, 1) := dk_1003 (dk_g tcX6_byteAt_2 6 rfl)
theorem dX6_byteAt_31 : decode cX6_byteAt 31 = .ok (.ireturn, 1) := dk_1172 (dk_g tcX6_byteAt_2 7 rfl)
theorem tcX6_isBlank_0 : (cX6_isBlank.data.toList.drop 0).take 12 = [26, 16, 10, 159, 0, 9, 26, 16, 32, 160, 0, 7] := by decide +kernel
theorem dX6_isBlank_0 : decode cX6_isBlank 0 = .ok (.iload_n 0, 1) := dk_1026 (dk_g tcX6_isBlank_0 0 rfl)
theorem dX6_isBlank_1 : decode cX6_isBlank 1 = .ok (.bipush 10, 2) := dk_1016 (dk_g tcX6_isBlank_0 1 rfl) (dk_g tcX6_isBlank_0 2 rfl) (by decide +kernel)
theorem dX6_isBlank_3 : decode cX6_isBlank 3 = .ok (.if_icmp .eq 9, 3) := dk_2159 (dk_g tcX6_isBlank_0 3 rfl) (dk_g tcX6_isBlank_0 4 rfl) (dk_g tcX6_isBlank_0 5 rfl) rfl rfl
theorem dX6_isBlank_6 : decode cX6_isBlank 6 = .ok (.iload_n 0, 1) := dk_1026 (dk_g tcX6_isBlank_0 6 rfl)
theorem dX6_isBlank_7 : decode cX6_isBlank 7 = .ok (.bipush 32, 2) := dk_1016 (dk_g tcX6_isBlank_0 7 rfl) (dk_g tcX6_isBlank_0 8 rfl) (by decide +kernel)
theorem dX6_isBlank_9 : decode cX6_isBlank 9 = .ok (.if_icmp .ne 7, 3) := dk_2160 (dk_g tcX6_isBlank_0 9 rfl) (dk_g tcX6_isBlank_0 10 rfl) (dk_g tcX6_isBlank_0 11 rfl) rfl rfl
theorem tcX6_isBlank_1 : (cX6_isBlank.data.toList.drop 12).take 12 = [4, 167, 0, 4, 3, 172] := by decide +kernel
theorem dX6_isBlank_12 : decode cX6_isBlank 12 = .ok (.iconst 1, 1) := dk_1004 (dk_g tcX6_isBlank_1 0 rfl)
theorem dX6_isBlank_13 : decode cX6_isBlank 13 = .ok (.goto 4, 3) := dk_2167 (dk_g tcX6_isBlank_1 1 rfl) (dk_g tcX6_isBlank_1 2 rfl) (dk_g tcX6_isBlank_1 3 rfl) rfl rfl
theorem dX6_isBlank_16 : decode cX6_isBlank 16 = .ok (.iconst 0, 1) := dk_1003 (dk_g tcX6_isBlank_1 4 rfl)
theorem dX6_isBlank_17 : decode cX6_isBlank 17 = .ok (.ireturn, 1) := dk_1172 (dk_g tcX6_isBlank_1 5 rfl)
theorem tcX6_kindOf_0 : (cX6_kindOf.data.toList.drop 0).take 12 = [26, 16, 97, 161, 0, 11, 26, 16, 122, 163, 0, 5] := by decide +kernel
theorem dX6_kindOf_0 : decode cX6_kindOf 0 = .ok (.iload_n 0, 1) := dk_1026 (dk_g tcX6_kindOf_0 0 rfl)
theorem dX6_kindOf_1 : decode cX6_kindOf 1 = .ok (.bipush 97, 2) := dk_1016 (dk_g tcX6_kindOf_0 1 rfl) (dk_g tcX6_kindOf_0 2 rfl) (by decide +kernel)
theorem dX6_kindOf_3 : decode cX6_kindOf 3 = .ok (.if_icmp .lt 11, 3) := dk_2161 (dk_g tcX6_kindOf_0 3 rfl) (dk_g tcX6_kindOf_0 4 rfl) (dk_g tcX6_kindOf_0 5 rfl) rfl rfl
theorem dX6_kindOf_6 : decode cX6_kindOf 6 = .ok (.iload_n 0, 1) := dk_1026 (dk_g tcX6_kindOf_0 6 rfl)
theorem dX6_kindOf_7 : decode cX6_kindOf 7 = .ok (.bipush 122, 2) := dk_1016 (dk_g tcX6_kindOf_0 7 rfl) (dk_g tcX6_kindOf_0 8 rfl) (by decide +kernel)
theorem dX6_kindOf_9 : decode cX6_kindOf 9 = .ok (.if_icmp .gt 5, 3) := dk_2163 (dk_g tcX6_kindOf_0 9 rfl) (dk_g tcX6_kindOf_0 10 rfl) (dk_g tcX6_kindOf_0 11 rfl) rfl rfl
theorem tcX6_kindOf_1 : (cX6_kindOf.data.toList.drop 12).take 12 = [4, 172, 26, 16, 48, 161, 0, 11, 26, 16, 57, 163] := by decide +kernel
theorem dX6_kindOf_12 : decode cX6_kindOf 12 = .ok (.iconst 1, 1) := dk_1004 (dk_g tcX6_kindOf_1 0 rfl)
theorem dX6_kindOf_13 : decode cX6_kindOf 13 = .ok (.ireturn, 1) := dk_1172 (dk_g tcX6_kindOf_1 1 rfl)
theorem dX6_kindOf_14 : decode cX6_kindOf 14 = .ok (.iload_n 0, 1) := dk_1026 (dk_g tcX6_kindOf_1 2 rfl)
theorem dX6_kindOf_15 : decode cX6_kindOf 15 = .ok (.bipush 48, 2) := dk_1016 (dk_g tcX6_kindOf_1 3 rfl) (dk_g tcX6_kindOf_1 4 rfl) (by decide +kernel)
theorem dX6_kindOf_17 : decode cX6_kindOf 17 = .ok (.if_icmp .lt 11, 3) := dk_2161 (dk_g tcX6_kindOf_1 5 rfl) (dk_g tcX6_kindOf_1 6 rfl) (dk_g tcX6_kindOf_1 7 rfl) rfl rfl
theorem dX6_kindOf_20 : decode cX6_kindOf 20 = .ok (.iload_n 0, 1) := dk_1026 (dk_g tcX6_kindOf_1 8 rfl)
theorem dX6_kindOf_21 : decode cX6_kindOf 21 = .ok (.bipush 57, 2) := dk_1016 (dk_g tcX6_kindOf_1 9 rfl) (dk_g tcX6_kindOf_1 10 rfl) (by decide +kernel)
theorem tcX6_kindOf_2 : (cX6_kindOf.data.toList.drop 24).take 12 = [0, 5, 5, 172, 26, 16, 59, 160, 0, 7, 6, 167] := by decide +kernel
theorem dX6_kindOf_23 : decode cX6_kindOf 23 = .ok (.if_icmp .gt 5, 3) := dk_2163 (dk_g tcX6_kindOf_1 11 rfl) (dk_g tcX6_kindOf_2 0 rfl) (dk_g tcX6_kindOf_2 1 rfl) rfl rfl
theorem dX6_kindOf_26 : decode cX6_kindOf 26 = .ok (.iconst 2, 1) := dk_1005 (dk_g tcX6_kindOf_2 2 rfl)
theorem dX6_kindOf_27 : decode cX6_kindOf 27 = .ok (.ireturn, 1) := dk_1172 (dk_g tcX6_kindOf_2 3 rfl)
theorem dX6_kindOf_28 : decode cX6_kindOf 28 = .ok (.iload_n 0, 1) := dk_1026 (dk_g tcX6_kindOf_2 4 rfl)
theorem dX6_kindOf_29 : decode cX6_kindOf 29 = .ok (.bipush 59, 2) := dk_1016 (dk_g tcX6_kindOf_2 5 rfl) (dk_g tcX6_kindOf_2 6 rfl) (by decide +kernel)
theorem dX6_kindOf_31 : decode cX6_kindOf 31 = .ok (.if_icmp .ne 7, 3) := dk_2160 (dk_g tcX6_kindOf_2 7 rfl) (dk_g tcX6_kindOf_2 8 rfl) (dk_g tcX6_kindOf_2 9 rfl) rfl rfl
theorem dX6_kindOf_34 : decode cX6_kindOf 34 = .ok (.iconst 3, 1) := dk_1006 (dk_g tcX6_kindOf_2 10 rfl)
theorem tcX6_kindOf_3 : (cX6_kindOf.data.toList.drop 36).take 12 = [0, 4, 7, 172] := by decide +kernel
theorem dX6_kindOf_35 : decode cX6_kindOf 35 = .ok (.goto 4, 3) := dk_2167 (dk_g tcX6_kindOf_2 11 rfl) (dk_g tcX6_kindOf_3 0 rfl) (dk_g tcX6_kindOf_3 1 rfl) rfl rfl
theorem dX6_kindOf_38 : decode cX6_kindOf 38 = .ok (.iconst 4, 1) := dk_1007 (dk_g tcX6_kindOf_3 2 rfl)
theorem dX6_kindOf_39 : decode cX6_kindOf 39 = .ok (.ireturn, 1) := dk_1172 (dk_g tcX6_kindOf_3 3 rfl)
theorem tcX7_init_0 : (cX7_init.data.toList.drop 0).take 12 = [42, 183, 0, 3, 42, 3, 181, 0, 9, 42, 3, 181] := by decide +kernel
theorem dX7_init_0 : decode cX7_init 0 = .ok (.aload_n 0, 1) := dk_1042 (dk_g tcX7_init_0 0 rfl)
theorem dX7_init_1 : decode cX7_init 1 = .ok (.invokespecial 3, 3) := dk_1183 (dk_g tcX7_init_0 1 rfl) (dk_g tcX7_init_0 2 rfl) (dk_g tcX7_init_0 3 rfl) rfl
theorem dX7_init_4 : decode cX7_init 4 = .ok (.aload_n 0, 1) := dk_1042 (dk_g tcX7_init_0 4 rfl)
theorem dX7_init_5 : decode cX7_init 5 = .ok (.iconst 0, 1) := dk_1003 (dk_g tcX7_init_0 5 rfl)
theorem dX7_init_6 : decode cX7_init 6 = .ok (.putfield 9, 3) := dk_1181 (dk_g tcX7_init_0 6 rfl) (dk_g tcX7_init_0 7 rfl) (dk_g tcX7_init_0 8 rfl) rfl
theorem dX7_init_9 : decode cX7_init 9 = .ok (.aload_n 0, 1) := dk_1042 (dk_g tcX7_init_0 9 rfl)
theorem dX7_init_10 : decode cX7_init 10 = .ok (.iconst 0, 1) := dk_1003 (dk_g tcX7_init_0 10 rfl)
theorem tcX7_init_1 : (cX7_init.data.toList.drop 12).take 12 = [0, 15, 42, 3, 181, 0, 18, 42, 3, 181, 0, 21] := by decide +kernel
theorem dX7_init_11 : decode cX7_init 11 = .ok (.putfield 15, 3) := dk_1181 (dk_g tcX7_init_0 11 rfl) (dk_g tcX7_init_1 0 rfl) (dk_g tcX7_init_1 1 rfl) rfl
theorem dX7_init_14 : decode cX7_init 14 = .ok (.aload_n 0, 1) := dk_1042 (dk_g tcX7_init_1 2 rfl)
theorem dX7_init_15 : decode cX7_init 15 = .ok (.iconst 0, 1) := dk_1003 (dk_g tcX7_init_1 3 rfl)
theorem dX7_init_16 : decode cX7_init 16 = .ok (.putfield 18, 3) := dk_1181 (dk_g tcX7_init_1 4 rfl) (dk_g tcX7_init_1 5 rfl) (dk_g tcX7_init_1 6 rfl) rfl
theorem dX7_init_19 : decode cX7_init 19 = .ok (.aload_n 0, 1) := dk_1042 (dk_g tcX7_init_1 7 rfl)
theorem dX7_init_20 : decode cX7_init 20 = .ok (.iconst 0, 1) := dk_1003 (dk_g tcX7_init_1 8 rfl)
theorem dX7_init_21 : decode cX7_init 21 = .ok (.putfield 21, 3) := dk_1181 (dk_g tcX7_init_1 9 rfl) (dk_g tcX7_init_1 10 rfl) (dk_g tcX7_init_1 11 rfl) rfl
theorem tcX7_init_2 : (cX7_init.data.toList.drop 24).take 12 = [177] := by decide +kernel
theorem dX7_init_24 : decode cX7_init 24 = .ok (.return_, 1) := dk_1177 (dk_g tcX7_init_2 0 rfl)
theorem tcX7_renew_0 : (cX7_renew.data.toList.drop 0).take 12 = [42, 3, 3, 182, 0, 25, 42, 3, 181, 0, 18, 42] := by decide +kernel
theorem dX7_renew_0 : decode cX7_renew 0 = .ok (.aload_n 0, 1) := dk_1042 (dk_g tcX7_renew_0 0 rfl)
theorem dX7_renew_1 : decode cX7_renew 1 = .ok (.iconst 0, 1) := dk_1003 (dk_g tcX7_renew_0 1 rfl)
theorem dX7_renew_2 : decode cX7_renew 2 = .ok (.iconst 0, 1) := dk_1003 (dk_g tcX7_renew_0 2 rfl)
theorem dX7_renew_3 : decode cX7_renew 3 = .ok (.invokevirtual 25, 3) := dk_1182 (dk_g tcX7_renew_0 3 rfl) (dk_g tcX7_renew_0 4 rfl) (dk_g tcX7_renew_0 5 rfl) rfl
theorem dX7_renew_6 : decode cX7_renew 6 = .ok (.aload_n 0, 1) := dk_1042 (dk_g tcX7_renew_0 6 rfl)
theorem dX7_renew_7 : decode cX7_renew 7 = .ok (.iconst 0, 1) := dk_1003 (dk_g tcX7_renew_0 7 rfl)
theorem dX7_renew_8 : decode cX7_renew 8 = .ok (.putfield 18, 3) := dk_1181 (dk_g tcX7_renew_0 8 rfl) (dk_g tcX7_renew_0 9 rfl) (dk_g tcX7_renew_0 10 rfl) rfl
theorem dX7_renew_11 : decode cX7_renew 11 = .ok (.aload_n 0, 1) := dk_1042 (dk_g tcX7_renew_0 11 rfl)
theorem tcX7_renew_1 : (cX7_renew.data.toList.drop 12).take 12 = [3, 181, 0, 21, 177] := by decide +kernel
theorem dX7_renew_12 : decode cX7_renew 12 = .ok (.iconst 0, 1) := dk_1003 (dk_g tcX7_renew_1 0 rfl)
theorem dX7_renew_13 : decode cX7_renew 13 = .ok (.putfield 21, 3) := dk_1181 (dk_g tcX7_renew_1 1 rfl) (dk_g tcX7_renew_1 2 rfl) (dk_g tcX7_renew_1 3 rfl) rfl
theorem dX7_renew_16 : decode cX7_renew 16 = .ok (.return_, 1) := dk_1177 (dk_g tcX7_renew_1 4 rfl)
theorem tcX7_trust_0 : (cX7_trust.data.toList.drop 0).take 12 = [42, 27, 181, 0, 9, 42, 28, 181, 0, 15, 177] := by decide +kernel
theorem dX7_trust_0 : decode cX7_trust 0 = .ok (.aload_n 0, 1) := dk_1042 (dk_g tcX7_trust_0 0 rfl)
theorem dX7_trust_1 : decode cX7_trust 1 = .ok (.iload_n 1, 1) := dk_1027 (dk_g tcX7_trust_0 1 rfl)
theorem dX7_trust_2 : decode cX7_trust 2 = .ok (.putfield 9, 3) := dk_1181 (dk_g tcX7_trust_0 2 rfl) (dk_g tcX7_trust_0 3 rfl) (dk_g tcX7_trust_0 4 rfl) rfl
theorem dX7_trust_5 : decode cX7_trust 5 = .ok (.aload_n 0, 1) := dk_1042 (dk_g tcX7_trust_0 5 rfl)
theorem dX7_trust_6 : decode cX7_trust 6 = .ok (.iload_n 2, 1) := dk_1028 (dk_g tcX7_trust_0 6 rfl)
theorem dX7_trust_7 : decode cX7_trust 7 = .ok (.putfield 15, 3) := dk_1181 (dk_g tcX7_trust_0 7 rfl) (dk_g tcX7_trust_0 8 rfl) (dk_g tcX7_trust_0 9 rfl) rfl
theorem dX7_trust_10 : decode cX7_trust 10 = .ok (.return_, 1) := dk_1177 (dk_g tcX7_trust_0 10 rfl)
theorem tcX7_hearWhy_0 : (cX7_hearWhy.data.toList.drop 0).take 12 = [42, 42, 180, 0, 21, 154, 0, 12, 27, 153, 0, 12] := by decide +kernel
theorem dX7_hearWhy_0 : decode cX7_hearWhy 0 = .ok (.aload_n 0, 1) := dk_1042 (dk_g tcX7_hearWhy_0 0 rfl)
theorem dX7_hearWhy_1 : decode cX7_hearWhy 1 = .ok (.aload_n 0, 1) := dk_1042 (dk_g tcX7_hearWhy_0 1 rfl)
theorem dX7_hearWhy_2 : decode cX7_hearWhy 2 = .ok (.getfield 21, 3) := dk_1180 (dk_g tcX7_hearWhy_0 2 rfl) (dk_g tcX7_hearWhy_0 3 rfl) (dk_g tcX7_hearWhy_0 4 rfl) rfl
theorem dX7_hearWhy_5 : decode cX7_hearWhy 5 = .ok (.ifCond .ne 12, 3) := dk_2154 (dk_g tcX7_hearWhy_0 5 rfl) (dk_g tcX7_hearWhy_0 6 rfl) (dk_g tcX7_hearWhy_0 7 rfl) rfl rfl
theorem dX7_hearWhy_8 : decode cX7_hearWhy 8 = .ok (.iload_n 1, 1) := dk_1027 (dk_g tcX7_hearWhy_0 8 rfl)
theorem dX7_hearWhy_9 : decode cX7_hearWhy 9 = .ok (.ifCond .eq 12, 3) := dk_2153 (dk_g tcX7_hearWhy_0 9 rfl) (dk_g tcX7_hearWhy_0 10 rfl) (dk_g tcX7_hearWhy_0 11 rfl) rfl rfl
theorem tcX7_hearWhy_1 : (cX7_hearWhy.data.toList.drop 12).take 12 = [27, 8, 159, 0, 7, 4, 167, 0, 4, 3, 181, 0] := by decide +kernel
theorem dX7_hearWhy_12 : decode cX7_hearWhy 12 = .ok (.iload_n 1, 1) := dk_1027 (dk_g tcX7_hearWhy_1 0 rfl)
theorem dX7_hearWhy_13 : decode cX7_hearWhy 13 = .ok (.iconst 5, 1) := dk_1008 (dk_g tcX7_hearWhy_1 1 rfl)
theorem dX7_hearWhy_14 : decode cX7_hearWhy 14 = .ok (.if_icmp .eq 7, 3) := dk_2159 (dk_g tcX7_hearWhy_1 2 rfl) (dk_g tcX7_hearWhy_1 3 rfl) (dk_g tcX7_hearWhy_1 4 rfl) rfl rfl
theorem dX7_hearWhy_17 : decode cX7_hearWhy 17 = .ok (.iconst 1, 1) := dk_1004 (dk_g tcX7_hearWhy_1 5 rfl)
theorem dX7_hearWhy_18 : decode cX7_hearWhy 18 = .ok (.goto 4, 3) := dk_2167 (dk_g tcX7_hearWhy_1 6 rfl) (dk_g tcX7_hearWhy_1 7 rfl) (dk_g tcX7_hearWhy_1 8 rfl) rfl rfl
theorem dX7_hearWhy_21 : decode cX7_hearWhy 21 = .ok (.iconst 0, 1) := dk_1003 (dk_g tcX7_hearWhy_1 9 rfl)
theorem tcX7_hearWhy_2 : (cX7_hearWhy.data.toList.drop 24).take 12 = [21, 177] := by decide +kernel
theorem dX7_hearWhy_22 : decode cX7_hearWhy 22 = .ok (.putfield 21, 3) := dk_1181 (dk_g tcX7_hearWhy_1 10 rfl) (dk_g tcX7_hearWhy_1 11 rfl) (dk_g tcX7_hearWhy_2 0 rfl) rfl
theorem dX7_hearWhy_25 : decode cX7_hearWhy 25 = .ok (.return_, 1) := dk_1177 (dk_g tcX7_hearWhy_2 1 rfl)
theorem tcX8_init_0 : (cX8_init.data.toList.drop 0).take 12 = [42, 183, 0, 3, 42, 16, 64, 188, 10, 181, 0, 9] := by decide +kernel
theorem dX8_init_0 : decode cX8_init 0 = .ok (.aload_n 0, 1) := dk_1042 (dk_g tcX8_init_0 0 rfl)
theorem dX8_init_1 : decode cX8_init 1 = .ok (.invokespecial 3, 3) := dk_1183 (dk_g tcX8_init_0 1 rfl) (dk_g tcX8_init_0 2 rfl) (dk_g tcX8_init_0 3 rfl) rfl
theorem dX8_init_4 : decode cX8_init 4 = .ok (.aload_n 0, 1) := dk_1042 (dk_g tcX8_init_0 4 rfl)
theorem dX8_init_5 : decode cX8_init 5 = .ok (.bipush 64, 2) := dk_1016 (dk_g tcX8_init_0 5 rfl) (dk_g tcX8_init_0 6 rfl) (by decide +kernel)
theorem dX8_init_7 : decode cX8_init 7 = .ok (.newarray .int, 2) := dk_1188_10 (dk_g tcX8_init_0 7 rfl) (dk_g tcX8_init_0 8 rfl)
theorem dX8_init_9 : decode cX8_init 9 = .ok (.putfield 9, 3) := dk_1181 (dk_g tcX8_init_0 9 rfl) (dk_g tcX8_init_0 10 rfl) (dk_g tcX8_init_0 11 rfl) rfl
theorem tcX8_init_1 : (cX8_init.data.toList.drop 12).take 12 = [42, 16, 64, 188, 10, 181, 0, 15, 42, 16, 64, 188] := by decide +kernel
theorem dX8_init_12 : decode cX8_init 12 = .ok (.aload_n 0, 1) := dk_1042 (dk_g tcX8_init_1 0 rfl)
theorem dX8_init_13 : decode cX8_init 13 = .ok (.bipush 64, 2) := dk_1016 (dk_g tcX8_init_1 1 rfl) (dk_g tcX8_init_1 2 rfl) (by decide +kernel)
theorem dX8_init_15 : decode cX8_init 15 = .ok (.newarray .int, 2) := dk_1188_10 (dk_g tcX8_init_1 3 rfl) (dk_g tcX8_init_1 4 rfl)
theorem dX8_init_17 : decode cX8_init 17 = .ok (.putfield 15, 3) := dk_1181 (dk_g tcX8_init_1 5 rfl) (dk_g tcX8_init_1 6 rfl) (dk_g tcX8_init_1 7 rfl) rfl
theorem dX8_init_20 : decode cX8_init 20 = .ok (.aload_n 0, 1) := dk_1042 (dk_g tcX8_init_1 8 rfl)
theorem dX8_init_21 : decode cX8_init 21 = .ok (.bipush 64, 2) := dk_1016 (dk_g tcX8_init_1 9 rfl) (dk_g tcX8_init_1 10 rfl) (by decide +kernel)
theorem tcX8_init_2 : (cX8_init.data.toList.drop 24).take 12 = [4, 181, 0, 18, 42, 3, 181, 0, 22, 42, 3, 181] := by decide +kernel
theorem dX8_init_23 : decode cX8_init 23 = .ok (.newarray .boolean, 2) := dk_1188_4 (dk_g tcX8_init_1 11 rfl) (dk_g tcX8_init_2 0 rfl)
theorem dX8_init_25 : decode cX8_init 25 = .ok (.putfield 18, 3) := dk_1181 (dk_g tcX8_init_2 1 rfl) (dk_g tcX8_init_2 2 rfl) (dk_g tcX8_init_2 3 rfl) rfl
theorem dX8_init_28 : decode cX8_init 28 = .ok (.aload_n 0, 1) := dk_1042 (dk_g tcX8_init_2 4 rfl)
theorem dX8_init_29 : decode cX8_init 29 = .ok (.iconst 0, 1) := dk_1003 (dk_g tcX8_init_2 5 rfl)
theorem dX8_init_30 : decode cX8_init 30 = .ok (.putfield 22, 3) := dk_1181 (dk_g tcX8_init_2 6 rfl) (dk_g tcX8_init_2 7 rfl) (dk_g tcX8_init_2 8 rfl) rfl
theorem dX8_init_33 : decode cX8_init 33 = .ok (.aload_n 0, 1) := dk_1042 (dk_g tcX8_init_2 9 rfl)
theorem dX8_init_34 : decode cX8_init 34 = .ok (.iconst 0, 1) := dk_1003 (dk_g tcX8_init_2 10 rfl)
theorem tcX8_init_3 : (cX8_init.data.toList.drop 36).take 12 = [0, 26, 177] := by decide +kernel
theorem dX8_init_35 : decode cX8_init 35 = .ok (.putfield 26, 3) := dk_1181 (dk_g tcX8_init_2 11 rfl) (dk_g tcX8_init_3 0 rfl) (dk_g tcX8_init_3 1 rfl) rfl
theorem dX8_init_38 : decode cX8_init 38 = .ok (.return_, 1) := dk_1177 (dk_g tcX8_init_3 2 rfl)
theorem tcX8_firstAt_0 : (cX8_firstAt.data.toList.drop 0).take 12 = [27, 155, 0, 29, 27, 42, 180, 0, 22, 162, 0, 21] := by decide +kernel
theorem dX8_firstAt_0 : decode cX8_firstAt 0 = .ok (.iload_n 1, 1) := dk_1027 (dk_g tcX8_firstAt_0 0 rfl)
theorem dX8_firstAt_1 : decode cX8_firstAt 1 = .ok (.ifCond .lt 29, 3) := dk_2155 (dk_g tcX8_firstAt_0 1 rfl) (dk_g tcX8_firstAt_0 2 rfl) (dk_g tcX8_firstAt_0 3 rfl) rfl rfl
theorem dX8_firstAt_4 : decode cX8_firstAt 4 = .ok (.iload_n 1, 1) := dk_1027 (dk_g tcX8_firstAt_0 4 rfl)
theorem dX8_firstAt_5 : decode cX8_firstAt 5 = .ok (.aload_n 0, 1) := dk_1042 (dk_g tcX8_firstAt_0 5 rfl)
theorem dX8_firstAt_6 : decode cX8_firstAt 6 = .ok (.getfield 22, 3) := dk_1180 (dk_g tcX8_firstAt_0 6 rfl) (dk_g tcX8_firstAt_0 7 rfl) (dk_g tcX8_firstAt_0 8 rfl) rfl
theorem dX8_firstAt_9 : decode cX8_firstAt 9 = .ok (.if_icmp .ge 21, 3) := dk_2162 (dk_g tcX8_firstAt_0 9 rfl) (dk_g tcX8_firstAt_0 10 rfl) (dk_g tcX8_firstAt_0 11 rfl) rfl rfl
theorem tcX8_firstAt_1 : (cX8_firstAt.data.toList.drop 12).take 12 = [27, 42, 180, 0, 9, 190, 162, 0, 12, 42, 180, 0] := by decide +kernel
theorem dX8_firstAt_12 : decode cX8_firstAt 12 = .ok (.iload_n 1, 1) := dk_1027 (dk_g tcX8_firstAt_1 0 rfl)
theorem dX8_firstAt_13 : decode cX8_firstAt 13 = .ok (.aload_n 0, 1) := dk_1042 (dk_g tcX8_firstAt_1 1 rfl)
theorem dX8_firstAt_14 : decode cX8_firstAt 14 = .ok (.getfield 9, 3) := dk_1180 (dk_g tcX8_firstAt_1 2 rfl) (dk_g tcX8_firstAt_1 3 rfl) (dk_g tcX8_firstAt_1 4 rfl) rfl
theorem dX8_firstAt_17 : decode cX8_firstAt 17 = .ok (.arraylength, 1) := dk_1190 (dk_g tcX8_firstAt_1 5 rfl)
theorem dX8_firstAt_18 : decode cX8_firstAt 18 = .ok (.if_icmp .ge 12, 3) := dk_2162 (dk_g tcX8_firstAt_1 6 rfl) (dk_g tcX8_firstAt_1 7 rfl) (dk_g tcX8_firstAt_1 8 rfl) rfl rfl
theorem dX8_firstAt_21 : decode cX8_firstAt 21 = .ok (.aload_n 0, 1) := dk_1042 (dk_g tcX8_firstAt_1 9 rfl)
theorem tcX8_firstAt_2 : (cX8_firstAt.data.toList.drop 24).take 12 = [9, 27, 46, 167, 0, 4, 3, 172] := by decide +kernel
theorem dX8_firstAt_22 : decode cX8_firstAt 22 = .ok (.getfield 9, 3) := dk_1180 (dk_g tcX8_firstAt_1 10 rfl) (dk_g tcX8_firstAt_1 11 rfl) (dk_g tcX8_firstAt_2 0 rfl) rfl
theorem dX8_firstAt_25 : decode cX8_firstAt 25 = .ok (.iload_n 1, 1) := dk_1027 (dk_g tcX8_firstAt_2 1 rfl)
theorem dX8_firstAt_26 : decode cX8_firstAt 26 = .ok (.iaload, 1) := dk_1046 (dk_g tcX8_firstAt_2 2 rfl)
theorem dX8_firstAt_27 : decode cX8_firstAt 27 = .ok (.goto 4, 3) := dk_2167 (dk_g tcX8_firstAt_2 3 rfl) (dk_g tcX8_firstAt_2 4 rfl) (dk_g tcX8_firstAt_2 5 rfl) rfl rfl
theorem dX8_firstAt_30 : decode cX8_firstAt 30 = .ok (.iconst 0, 1) := dk_1003 (dk_g tcX8_firstAt_2 6 rfl)
theorem dX8_firstAt_31 : decode cX8_firstAt 31 = .ok (.ireturn, 1) := dk_1172 (dk_g tcX8_firstAt_2 7 rfl)
theorem tcX8_manyAt_0 : (cX8_manyAt.data.toList.drop 0).take 12 = [27, 155, 0, 29, 27, 42, 180, 0, 22, 162, 0, 21] := by decide +kernel
theorem dX8_manyAt_0 : decode cX8_manyAt 0 = .ok (.iload_n 1, 1) := dk_1027 (dk_g tcX8_manyAt_0 0 rfl)
theorem dX8_manyAt_1 : decode cX8_manyAt 1 = .ok (.ifCond .lt 29, 3) := dk_2155 (dk_g tcX8_manyAt_0 1 rfl) (dk_g tcX8_manyAt_0 2 rfl) (dk_g tcX8_manyAt_0 3 rfl) rfl rfl
theorem dX8_manyAt_4 : decode cX8_manyAt 4 = .ok (.iload_n 1, 1) := dk_1027 (dk_g tcX8_manyAt_0 4 rfl)
theorem dX8_manyAt_5 : decode cX8_manyAt 5 = .ok (.aload_n 0, 1) := dk_1042 (dk_g tcX8_manyAt_0 5 rfl)
theorem dX8_manyAt_6 : decode cX8_manyAt 6 = .ok (.getfield 22, 3) := dk_1180 (dk_g tcX8_manyAt_0 6 rfl) (dk_g tcX8_manyAt_0 7 rfl) (dk_g tcX8_manyAt_0 8 rfl) rfl
theorem dX8_manyAt_9 : decode cX8_manyAt 9 = .ok (.if_icmp .ge 21, 3) := dk_2162 (dk_g tcX8_manyAt_0 9 rfl) (dk_g tcX8_manyAt_0 10 rfl) (dk_g tcX8_manyAt_0 11 rfl) rfl rfl
theorem tcX8_manyAt_1 : (cX8_manyAt.data.toList.drop 12).take 12 = [27, 42, 180, 0, 15, 190, 162, 0, 12, 42, 180, 0] := by decide +kernel
theorem dX8_manyAt_12 : decode cX8_manyAt 12 = .ok (.iload_n 1, 1) := dk_1027 (dk_g tcX8_manyAt_1 0 rfl)
theorem dX8_manyAt_13 : decode cX8_manyAt 13 = .ok (.aload_n 0, 1) := dk_1042 (dk_g tcX8_manyAt_1 1 rfl)
theorem dX8_manyAt_14 : decode cX8_manyAt 14 = .ok (.getfield 15, 3) := dk_1180 (dk_g tcX8_manyAt_1 2 rfl) (dk_g tcX8_manyAt_1 3 rfl) (dk_g tcX8_manyAt_1 4 rfl) rfl
theorem dX8_manyAt_17 : decode cX8_manyAt 17 = .ok (.arraylength, 1) := dk_1190 (dk_g tcX8_manyAt_1 5 rfl)
theorem dX8_manyAt_18 : decode cX8_manyAt 18 = .ok (.if_icmp .ge 12, 3) := dk_2162 (dk_g tcX8_manyAt_1 6 rfl) (dk_g tcX8_manyAt_1 7 rfl) (dk_g tcX8_manyAt_1 8 rfl) rfl rfl
theorem dX8_manyAt_21 : decode cX8_manyAt 21 = .ok (.aload_n 0, 1) := dk_1042 (dk_g tcX8_manyAt_1 9 rfl)
theorem tcX8_manyAt_2 : (cX8_manyAt.data.toList.drop 24).take 12 = [15, 27, 46, 167, 0, 4, 3, 172] := by decide +kernel
theorem dX8_manyAt_22 : decode cX8_manyAt 22 = .ok (.getfield 15, 3) := dk_1180 (dk_g tcX8_manyAt_1 10 rfl) (dk_g tcX8_manyAt_1 11 rfl) (dk_g tcX8_manyAt_2 0 rfl) rfl
theorem dX8_manyAt_25 : decode cX8_manyAt 25 = .ok (.iload_n 1, 1) := dk_1027 (dk_g tcX8_manyAt_2 1 rfl)
theorem dX8_manyAt_26 : decode cX8_manyAt 26 = .ok (.iaload, 1) := dk_1046 (dk_g tcX8_manyAt_2 2 rfl)
theorem dX8_manyAt_27 : decode cX8_manyAt 27 = .ok (.goto 4, 3) := dk_2167 (dk_g tcX8_manyAt_2 3 rfl) (dk_g tcX8_manyAt_2 4 rfl) (dk_g tcX8_manyAt_2 5 rfl) rfl rfl
theorem dX8_manyAt_30 : decode cX8_manyAt 30 = .ok (.iconst 0, 1) := dk_1003 (dk_g tcX8_manyAt_2 6 rfl)
theorem dX8_manyAt_31 : decode cX8_manyAt 31 = .ok (.ireturn, 1) := dk_1172 (dk_g tcX8_manyAt_2 7 rfl)
theorem tcX8_isAhead_0 : (cX8_isAhead.data.toList.drop 0).take 12 = [27, 155, 0, 33, 27, 42, 180, 0, 22, 162, 0, 25] := by decide +kernel
theorem dX8_isAhead_0 : decode cX8_isAhead 0 = .ok (.iload_n 1, 1) := dk_1027 (dk_g tcX8_isAhead_0 0 rfl)
theorem dX8_isAhead_1 : decode cX8_isAhead 1 = .ok (.ifCond .lt 33, 3) := dk_2155 (dk_g tcX8_isAhead_0 1 rfl) (dk_g tcX8_isAhead_0 2 rfl) (dk_g tcX8_isAhead_0 3 rfl) rfl rfl
theorem dX8_isAhead_4 : decode cX8_isAhead 4 = .ok (.iload_n 1, 1) := dk_1027 (dk_g tcX8_isAhead_0 4 rfl)
theorem dX8_isAhead_5 : decode cX8_isAhead 5 = .ok (.aload_n 0, 1) := dk_1042 (dk_g tcX8_isAhead_0 5 rfl)
theorem dX8_isAhead_6 : decode cX8_isAhead 6 = .ok (.getfield 22, 3) := dk_1180 (dk_g tcX8_isAhead_0 6 rfl) (dk_g tcX8_isAhead_0 7 rfl) (dk_g tcX8_isAhead_0 8 rfl) rfl
theorem dX8_isAhead_9 : decode cX8_isAhead 9 = .ok (.if_icmp .ge 25, 3) := dk_2162 (dk_g tcX8_isAhead_0 9 rfl) (dk_g tcX8_isAhead_0 10 rfl) (dk_g tcX8_isAhead_0 11 rfl) rfl rfl
theorem tcX8_isAhead_1 : (cX8_isAhead.data.toList.drop 12).take 12 = [27, 42, 180, 0, 18, 190, 162, 0, 16, 42, 180, 0] := by decide +kernel
theorem dX8_isAhead_12 : decode cX8_isAhead 12 = .ok (.iload_n 1, 1) := dk_1027 (dk_g tcX8_isAhead_1 0 rfl)
theorem dX8_isAhead_13 : decode cX8_isAhead 13 = .ok (.aload_n 0, 1) := dk_1042 (dk_g tcX8_isAhead_1 1 rfl)
theorem dX8_isAhead_14 : decode cX8_isAhead 14 = .ok (.getfield 18, 3) := dk_1180 (dk_g tcX8_isAhead_1 2 rfl) (dk_g tcX8_isAhead_1 3 rfl) (dk_g tcX8_isAhead_1 4 rfl) rfl
theorem dX8_isAhead_17 : decode cX8_isAhead 17 = .ok (.arraylength, 1) := dk_1190 (dk_g tcX8_isAhead_1 5 rfl)
theorem dX8_isAhead_18 : decode cX8_isAhead 18 = .ok (.if_icmp .ge 16, 3) := dk_2162 (dk_g tcX8_isAhead_1 6 rfl) (dk_g tcX8_isAhead_1 7 rfl) (dk_g tcX8_isAhead_1 8 rfl) rfl rfl
theorem dX8_isAhead_21 : decode cX8_isAhead 21 = .ok (.aload_n 0, 1) := dk_1042 (dk_g tcX8_isAhead_1 9 rfl)
theorem tcX8_isAhead_2 : (cX8_isAhead.data.toList.drop 24).take 12 = [18, 27, 51, 153, 0, 7, 4, 167, 0, 4, 3, 172] := by decide +kernel
theorem dX8_isAhead_22 : decode cX8_isAhead 22 = .ok (.getfield 18, 3) := dk_1180 (dk_g tcX8_isAhead_1 10 rfl) (dk_g tcX8_isAhead_1 11 rfl) (dk_g tcX8_isAhead_2 0 rfl) rfl
theorem dX8_isAhead_25 : decode cX8_isAhead 25 = .ok (.iload_n 1, 1) := dk_1027 (dk_g tcX8_isAhead_2 1 rfl)
theorem dX8_isAhead_26 : decode cX8_isAhead 26 = .ok (.baload, 1) := dk_1051 (dk_g tcX8_isAhead_2 2 rfl)
theorem dX8_isAhead_27 : decode cX8_isAhead 27 = .ok (.ifCond .eq 7, 3) := dk_2153 (dk_g tcX8_isAhead_2 3 rfl) (dk_g tcX8_isAhead_2 4 rfl) (dk_g tcX8_isAhead_2 5 rfl) rfl rfl
theorem dX8_isAhead_30 : decode cX8_isAhead 30 = .ok (.iconst 1, 1) := dk_1004 (dk_g tcX8_isAhead_2 6 rfl)
theorem dX8_isAhead_31 : decode cX8_isAhead 31 = .ok (.goto 4, 3) := dk_2167 (dk_g tcX8_isAhead_2 7 rfl) (dk_g tcX8_isAhead_2 8 rfl) (dk_g tcX8_isAhead_2 9 rfl) rfl rfl
theorem dX8_isAhead_34 : decode cX8_isAhead 34 = .ok (.iconst 0, 1) := dk_1003 (dk_g tcX8_isAhead_2 10 rfl)
theorem dX8_isAhead_35 : decode cX8_isAhead 35 = .ok (.ireturn, 1) := dk_1172 (dk_g tcX8_isAhead_2 11 rfl)
theorem tcX8_toThing_0 : (cX8_toThing.data.toList.drop 0).take 12 = [42, 182, 0, 30, 3, 62, 28, 54, 4, 3, 54, 5] := by decide +kernel
theorem dX8_toThing_0 : decode cX8_toThing 0 = .ok (.aload_n 0, 1) := dk_1042 (dk_g tcX8_toThing_0 0 rfl)
theorem dX8_toThing_1 : decode cX8_toThing 1 = .ok (.invokevirtual 30, 3) := dk_1182 (dk_g tcX8_toThing_0 1 rfl) (dk_g tcX8_toThing_0 2 rfl) (dk_g tcX8_toThing_0 3 rfl) rfl
theorem dX8_toThing_4 : decode cX8_toThing 4 = .ok (.iconst 0, 1) := dk_1003 (dk_g tcX8_toThing_0 4 rfl)
theorem dX8_toThing_5 : decode cX8_toThing 5 = .ok (.istore_n 3, 1) := dk_1062 (dk_g tcX8_toThing_0 5 rfl)
theorem dX8_toThing_6 : decode cX8_toThing 6 = .ok (.iload_n 2, 1) := dk_1028 (dk_g tcX8_toThing_0 6 rfl)
theorem dX8_toThing_7 : decode cX8_toThing 7 = .ok (.istore 4, 2) := dk_1054 (dk_g tcX8_toThing_0 7 rfl) (dk_g tcX8_toThing_0 8 rfl) rfl
theorem dX8_toThing_9 : decode cX8_toThing 9 = .ok (.iconst 0, 1) := dk_1003 (dk_g tcX8_toThing_0 9 rfl)
theorem dX8_toThing_10 : decode cX8_toThing 10 = .ok (.istore 5, 2) := dk_1054 (dk_g tcX8_toThing_0 10 rfl) (dk_g tcX8_toThing_0 11 rfl) rfl
theorem tcX8_toThing_1 : (cX8_toThing.data.toList.drop 12).take 12 = [21, 5, 16, 40, 162, 0, 71, 21, 4, 4, 164, 0] := by decide +kernel
theorem dX8_toThing_12 : decode cX8_toThing 12 = .ok (.iload 5, 2) := dk_1021 (dk_g tcX8_toThing_1 0 rfl) (dk_g tcX8_toThing_1 1 rfl) rfl
theorem dX8_toThing_14 : decode cX8_toThing 14 = .ok (.bipush 40, 2) := dk_1016 (dk_g tcX8_toThing_1 2 rfl) (dk_g tcX8_toThing_1 3 rfl) (by decide +kernel)
theorem dX8_toThing_16 : decode cX8_toThing 16 = .ok (.if_icmp .ge 71, 3) := dk_2162 (dk_g tcX8_toThing_1 4 rfl) (dk_g tcX8_toThing_1 5 rfl) (dk_g tcX8_toThing_1 6 rfl) rfl rfl
theorem dX8_toThing_19 : decode cX8_toThing 19 = .ok (.iload 4, 2) := dk_1021 (dk_g tcX8_toThing_1 7 rfl) (dk_g tcX8_toThing_1 8 rfl) rfl
theorem dX8_toThing_21 : decode cX8_toThing 21 = .ok (.iconst 1, 1) := dk_1004 (dk_g tcX8_toThing_1 9 rfl)
theorem tcX8_toThing_2 : (cX8_toThing.data.toList.drop 24).take 12 = [65, 21, 4, 184, 0, 33, 54, 6, 27, 29, 100, 21] := by decide +kernel
theorem dX8_toThing_22 : decode cX8_toThing 22 = .ok (.if_icmp .le 65, 3) := dk_2164 (dk_g tcX8_toThing_1 10 rfl) (dk_g tcX8_toThing_1 11 rfl) (dk_g tcX8_toThing_2 0 rfl) rfl rfl
theorem dX8_toThing_25 : decode cX8_toThing 25 = .ok (.iload 4, 2) := dk_1021 (dk_g tcX8_toThing_2 1 rfl) (dk_g tcX8_toThing_2 2 rfl) rfl
theorem dX8_toThing_27 : decode cX8_toThing 27 = .ok (.invokestatic 33, 3) := dk_1184 (dk_g tcX8_toThing_2 3 rfl) (dk_g tcX8_toThing_2 4 rfl) (dk_g tcX8_toThing_2 5 rfl) rfl
theorem dX8_toThing_30 : decode cX8_toThing 30 = .ok (.istore 6, 2) := dk_1054 (dk_g tcX8_toThing_2 6 rfl) (dk_g tcX8_toThing_2 7 rfl) rfl
theorem dX8_toThing_32 : decode cX8_toThing 32 = .ok (.iload_n 1, 1) := dk_1027 (dk_g tcX8_toThing_2 8 rfl)
theorem dX8_toThing_33 : decode cX8_toThing 33 = .ok (.iload_n 3, 1) := dk_1029 (dk_g tcX8_toThing_2 9 rfl)
theorem dX8_toThing_34 : decode cX8_toThing 34 = .ok (.isub, 1) := dk_1100 (dk_g tcX8_toThing_2 10 rfl)
theorem tcX8_toThing_3 : (cX8_toThing.data.toList.drop 36).take 12 = [6, 162, 0, 24, 42, 29, 21, 6, 96, 21, 4, 21] := by decide +kernel
theorem dX8_toThing_35 : decode cX8_toThing 35 = .ok (.iload 6, 2) := dk_1021 (dk_g tcX8_toThing_2 11 rfl) (dk_g tcX8_toThing_3 0 rfl) rfl
theorem dX8_toThing_37 : decode cX8_toThing 37 = .ok (.if_icmp .ge 24, 3) := dk_2162 (dk_g tcX8_toThing_3 1 rfl) (dk_g tcX8_toThing_3 2 rfl) (dk_g tcX8_toThing_3 3 rfl) rfl rfl
theorem dX8_toThing_40 : decode cX8_toThing 40 = .ok (.aload_n 0, 1) := dk_1042 (dk_g tcX8_toThing_3 4 rfl)
theorem dX8_toThing_41 : decode cX8_toThing 41 = .ok (.iload_n 3, 1) := dk_1029 (dk_g tcX8_toThing_3 5 rfl)
theorem dX8_toThing_42 : decode cX8_toThing 42 = .ok (.iload 6, 2) := dk_1021 (dk_g tcX8_toThing_3 6 rfl) (dk_g tcX8_toThing_3 7 rfl) rfl
theorem dX8_toThing_44 : decode cX8_toThing 44 = .ok (.iadd, 1) := dk_1096 (dk_g tcX8_toThing_3 8 rfl)
theorem dX8_toThing_45 : decode cX8_toThing 45 = .ok (.iload 4, 2) := dk_1021 (dk_g tcX8_toThing_3 9 rfl) (dk_g tcX8_toThing_3 10 rfl) rfl
theorem tcX8_toThing_4 : (cX8_toThing.data.toList.drop 48).take 12 = [6, 100, 3, 182, 0, 37, 21, 6, 54, 4, 167, 0] := by decide +kernel
theorem dX8_toThing_47 : decode cX8_toThing 47 = .ok (.iload 6, 2) := dk_1021 (dk_g tcX8_toThing_3 11 rfl) (dk_g tcX8_toThing_4 0 rfl) rfl
theorem dX8_toThing_49 : decode cX8_toThing 49 = .ok (.isub, 1) := dk_1100 (dk_g tcX8_toThing_4 1 rfl)
theorem dX8_toThing_50 : decode cX8_toThing 50 = .ok (.iconst 0, 1) := dk_1003 (dk_g tcX8_toThing_4 2 rfl)
theorem dX8_toThing_51 : decode cX8_toThing 51 = .ok (.invokevirtual 37, 3) := dk_1182 (dk_g tcX8_toThing_4 3 rfl) (dk_g tcX8_toThing_4 4 rfl) (dk_g tcX8_toThing_4 5 rfl) rfl
theorem dX8_toThing_54 : decode cX8_toThing 54 = .ok (.iload 6, 2) := dk_1021 (dk_g tcX8_toThing_4 6 rfl) (dk_g tcX8_toThing_4 7 rfl) rfl
theorem dX8_toThing_56 : decode cX8_toThing 56 = .ok (.istore 4, 2) := dk_1054 (dk_g tcX8_toThing_4 8 rfl) (dk_g tcX8_toThing_4 9 rfl) rfl
theorem tcX8_toThing_5 : (cX8_toThing.data.toList.drop 60).take 12 = [23, 42, 29, 21, 6, 4, 182, 0, 37, 29, 21, 6] := by decide +kernel
theorem dX8_toThing_58 : decode cX8_toThing 58 = .ok (.goto 23, 3) := dk_2167 (dk_g tcX8_toThing_4 10 rfl) (dk_g tcX8_toThing_4 11 rfl) (dk_g tcX8_toThing_5 0 rfl) rfl rfl
theorem dX8_toThing_61 : decode cX8_toThing 61 = .ok (.aload_n 0, 1) := dk_1042 (dk_g tcX8_toThing_5 1 rfl)
theorem dX8_toThing_62 : decode cX8_toThing 62 = .ok (.iload_n 3, 1) := dk_1029 (dk_g tcX8_toThing_5 2 rfl)
theorem dX8_toThing_63 : decode cX8_toThing 63 = .ok (.iload 6, 2) := dk_1021 (dk_g tcX8_toThing_5 3 rfl) (dk_g tcX8_toThing_5 4 rfl) rfl
theorem dX8_toThing_65 : decode cX8_toThing 65 = .ok (.iconst 1, 1) := dk_1004 (dk_g tcX8_toThing_5 5 rfl)
theorem dX8_toThing_66 : decode cX8_toThing 66 = .ok (.invokevirtual 37, 3) := dk_1182 (dk_g tcX8_toThing_5 6 rfl) (dk_g tcX8_toThing_5 7 rfl) (dk_g tcX8_toThing_5 8 rfl) rfl
theorem dX8_toThing_69 : decode cX8_toThing 69 = .ok (.iload_n 3, 1) := dk_1029 (dk_g tcX8_toThing_5 9 rfl)
theorem dX8_toThing_70 : decode cX8_toThing 70 = .ok (.iload 6, 2) := dk_1021 (dk_g tcX8_toThing_5 10 rfl) (dk_g tcX8_toThing_5 11 rfl) rfl
theorem tcX8_toThing_6 : (cX8_toThing.data.toList.drop 72).take 12 = [96, 62, 21, 4, 21, 6, 100, 54, 4, 132, 5, 1] := by decide +kernel
theorem dX8_toThing_72 : decode cX8_toThing 72 = .ok (.iadd, 1) := dk_1096 (dk_g tcX8_toThing_6 0 rfl)
theorem dX8_toThing_73 : decode cX8_toThing 73 = .ok (.istore_n 3, 1) := dk_1062 (dk_g tcX8_toThing_6 1 rfl)
theorem dX8_toThing_74 : decode cX8_toThing 74 = .ok (.iload 4, 2) := dk_1021 (dk_g tcX8_toThing_6 2 rfl) (dk_g tcX8_toThing_6 3 rfl) rfl
theorem dX8_toThing_76 : decode cX8_toThing 76 = .ok (.iload 6, 2) := dk_1021 (dk_g tcX8_toThing_6 4 rfl) (dk_g tcX8_toThing_6 5 rfl) rfl
theorem dX8_toThing_78 : decode cX8_toThing 78 = .ok (.isub, 1) := dk_1100 (dk_g tcX8_toThing_6 6 rfl)
theorem dX8_toThing_79 : decode cX8_toThing 79 = .ok (.istore 4, 2) := dk_1054 (dk_g tcX8_toThing_6 7 rfl) (dk_g tcX8_toThing_6 8 rfl) rfl
theorem dX8_toThing_81 : decode cX8_toThing 81 = .ok (.iinc 5 1, 3) := dk_1132 (dk_g tcX8_toThing_6 9 rfl) (dk_g tcX8_toThing_6 10 rfl) (dk_g tcX8_toThing_6 11 rfl) rfl (by decide +kernel)
theorem tcX8_toThing_7 : (cX8_toThing.data.toList.drop 84).take 12 = [167, 255, 184, 42, 182, 0, 41, 177] := by decide +kernel
theorem dX8_toThing_84 : decode cX8_toThing 84 = .ok (.goto (-72), 3) := dk_1167 (dk_g tcX8_toThing_7 0 rfl) (dk_g tcX8_toThing_7 1 rfl) (dk_g tcX8_toThing_7 2 rfl) (by decide +kernel)
theorem dX8_toThing_87 : decode cX8_toThing 87 = .ok (.aload_n 0, 1) := dk_1042 (dk_g tcX8_toThing_7 3 rfl)
theorem dX8_toThing_88 : decode cX8_toThing 88 = .ok (.invokevirtual 41, 3) := dk_1182 (dk_g tcX8_toThing_7 4 rfl) (dk_g tcX8_toThing_7 5 rfl) (dk_g tcX8_toThing_7 6 rfl) rfl
theorem dX8_toThing_91 : decode cX8_toThing 91 = .ok (.return_, 1) := dk_1177 (dk_g tcX8_toThing_7 7 rfl)
theorem tcX8_toGrowth_0 : (cX8_toGrowth.data.toList.drop 0).take 12 = [42, 182, 0, 30, 27, 154, 0, 4, 177, 3, 62, 28] := by decide +kernel
theorem dX8_toGrowth_0 : decode cX8_toGrowth 0 = .ok (.aload_n 0, 1) := dk_1042 (dk_g tcX8_toGrowth_0 0 rfl)
theorem dX8_toGrowth_1 : decode cX8_toGrowth 1 = .ok (.invokevirtual 30, 3) := dk_1182 (dk_g tcX8_toGrowth_0 1 rfl) (dk_g tcX8_toGrowth_0 2 rfl) (dk_g tcX8_toGrowth_0 3 rfl) rfl
theorem dX8_toGrowth_4 : decode cX8_toGrowth 4 = .ok (.iload_n 1, 1) := dk_1027 (dk_g tcX8_toGrowth_0 4 rfl)
theorem dX8_toGrowth_5 : decode cX8_toGrowth 5 = .ok (.ifCond .ne 4, 3) := dk_2154 (dk_g tcX8_toGrowth_0 5 rfl) (dk_g tcX8_toGrowth_0 6 rfl) (dk_g tcX8_toGrowth_0 7 rfl) rfl rfl
theorem dX8_toGrowth_8 : decode cX8_toGrowth 8 = .ok (.return_, 1) := dk_1177 (dk_g tcX8_toGrowth_0 8 rfl)
theorem dX8_toGrowth_9 : decode cX8_toGrowth 9 = .ok (.iconst 0, 1) := dk_1003 (dk_g tcX8_toGrowth_0 9 rfl)
theorem dX8_toGrowth_10 : decode cX8_toGrowth 10 = .ok (.istore_n 3, 1) := dk_1062 (dk_g tcX8_toGrowth_0 10 rfl)
theorem dX8_toGrowth_11 : decode cX8_toGrowth 11 = .ok (.iload_n 2, 1) := dk_1028 (dk_g tcX8_toGrowth_0 11 rfl)
theorem tcX8_toGrowth_1 : (cX8_toGrowth.data.toList.drop 12).take 12 = [54, 4, 4, 54, 5, 3, 54, 6, 21, 6, 16, 40] := by decide +kernel
theorem dX8_toGrowth_12 : decode cX8_toGrowth 12 = .ok (.istore 4, 2) := dk_1054 (dk_g tcX8_toGrowth_1 0 rfl) (dk_g tcX8_toGrowth_1 1 rfl) rfl
theorem dX8_toGrowth_14 : decode cX8_toGrowth 14 = .ok (.iconst 1, 1) := dk_1004 (dk_g tcX8_toGrowth_1 2 rfl)
theorem dX8_toGrowth_15 : decode cX8_toGrowth 15 = .ok (.istore 5, 2) := dk_1054 (dk_g tcX8_toGrowth_1 3 rfl) (dk_g tcX8_toGrowth_1 4 rfl) rfl
theorem dX8_toGrowth_17 : decode cX8_toGrowth 17 = .ok (.iconst 0, 1) := dk_1003 (dk_g tcX8_toGrowth_1 5 rfl)
theorem dX8_toGrowth_18 : decode cX8_toGrowth 18 = .ok (.istore 6, 2) := dk_1054 (dk_g tcX8_toGrowth_1 6 rfl) (dk_g tcX8_toGrowth_1 7 rfl) rfl
theorem dX8_toGrowth_20 : decode cX8_toGrowth 20 = .ok (.iload 6, 2) := dk_1021 (dk_g tcX8_toGrowth_1 8 rfl) (dk_g tcX8_toGrowth_1 9 rfl) rfl
theorem dX8_toGrowth_22 : decode cX8_toGrowth 22 = .ok (.bipush 40, 2) := dk_1016 (dk_g tcX8_toGrowth_1 10 rfl) (dk_g tcX8_toGrowth_1 11 rfl) (by decide +kernel)
theorem tcX8_toGrowth_2 : (cX8_toGrowth.data.toList.drop 24).take 12 = [162, 0, 76, 27, 29, 100, 21, 4, 159, 0, 68, 21] := by decide +kernel
theorem dX8_toGrowth_24 : decode cX8_toGrowth 24 = .ok (.if_icmp .ge 76, 3) := dk_2162 (dk_g tcX8_toGrowth_2 0 rfl) (dk_g tcX8_toGrowth_2 1 rfl) (dk_g tcX8_toGrowth_2 2 rfl) rfl rfl
theorem dX8_toGrowth_27 : decode cX8_toGrowth 27 = .ok (.iload_n 1, 1) := dk_1027 (dk_g tcX8_toGrowth_2 3 rfl)
theorem dX8_toGrowth_28 : decode cX8_toGrowth 28 = .ok (.iload_n 3, 1) := dk_1029 (dk_g tcX8_toGrowth_2 4 rfl)
theorem dX8_toGrowth_29 : decode cX8_toGrowth 29 = .ok (.isub, 1) := dk_1100 (dk_g tcX8_toGrowth_2 5 rfl)
theorem dX8_toGrowth_30 : decode cX8_toGrowth 30 = .ok (.iload 4, 2) := dk_1021 (dk_g tcX8_toGrowth_2 6 rfl) (dk_g tcX8_toGrowth_2 7 rfl) rfl
theorem dX8_toGrowth_32 : decode cX8_toGrowth 32 = .ok (.if_icmp .eq 68, 3) := dk_2159 (dk_g tcX8_toGrowth_2 8 rfl) (dk_g tcX8_toGrowth_2 9 rfl) (dk_g tcX8_toGrowth_2 10 rfl) rfl rfl
theorem tcX8_toGrowth_3 : (cX8_toGrowth.data.toList.drop 36).take 12 = [4, 184, 0, 33, 54, 7, 27, 29, 100, 21, 7, 163] := by decide +kernel
theorem dX8_toGrowth_35 : decode cX8_toGrowth 35 = .ok (.iload 4, 2) := dk_1021 (dk_g tcX8_toGrowth_2 11 rfl) (dk_g tcX8_toGrowth_3 0 rfl) rfl
theorem dX8_toGrowth_37 : decode cX8_toGrowth 37 = .ok (.invokestatic 33, 3) := dk_1184 (dk_g tcX8_toGrowth_3 1 rfl) (dk_g tcX8_toGrowth_3 2 rfl) (dk_g tcX8_toGrowth_3 3 rfl) rfl
theorem dX8_toGrowth_40 : decode cX8_toGrowth 40 = .ok (.istore 7, 2) := dk_1054 (dk_g tcX8_toGrowth_3 4 rfl) (dk_g tcX8_toGrowth_3 5 rfl) rfl
theorem dX8_toGrowth_42 : decode cX8_toGrowth 42 = .ok (.iload_n 1, 1) := dk_1027 (dk_g tcX8_toGrowth_3 6 rfl)
theorem dX8_toGrowth_43 : decode cX8_toGrowth 43 = .ok (.iload_n 3, 1) := dk_1029 (dk_g tcX8_toGrowth_3 7 rfl)
theorem dX8_toGrowth_44 : decode cX8_toGrowth 44 = .ok (.isub, 1) := dk_1100 (dk_g tcX8_toGrowth_3 8 rfl)
theorem dX8_toGrowth_45 : decode cX8_toGrowth 45 = .ok (.iload 7, 2) := dk_1021 (dk_g tcX8_toGrowth_3 9 rfl) (dk_g tcX8_toGrowth_3 10 rfl) rfl
theorem tcX8_toGrowth_4 : (cX8_toGrowth.data.toList.drop 48).take 12 = [0, 24, 42, 29, 21, 7, 96, 21, 4, 21, 7, 100] := by decide +kernel
theorem dX8_toGrowth_47 : decode cX8_toGrowth 47 = .ok (.if_icmp .gt 24, 3) := dk_2163 (dk_g tcX8_toGrowth_3 11 rfl) (dk_g tcX8_toGrowth_4 0 rfl) (dk_g tcX8_toGrowth_4 1 rfl) rfl rfl
theorem dX8_toGrowth_50 : decode cX8_toGrowth 50 = .ok (.aload_n 0, 1) := dk_1042 (dk_g tcX8_toGrowth_4 2 rfl)
theorem dX8_toGrowth_51 : decode cX8_toGrowth 51 = .ok (.iload_n 3, 1) := dk_1029 (dk_g tcX8_toGrowth_4 3 rfl)
theorem dX8_toGrowth_52 : decode cX8_toGrowth 52 = .ok (.iload 7, 2) := dk_1021 (dk_g tcX8_toGrowth_4 4 rfl) (dk_g tcX8_toGrowth_4 5 rfl) rfl
theorem dX8_toGrowth_54 : decode cX8_toGrowth 54 = .ok (.iadd, 1) := dk_1096 (dk_g tcX8_toGrowth_4 6 rfl)
theorem dX8_toGrowth_55 : decode cX8_toGrowth 55 = .ok (.iload 4, 2) := dk_1021 (dk_g tcX8_toGrowth_4 7 rfl) (dk_g tcX8_toGrowth_4 8 rfl) rfl
theorem dX8_toGrowth_57 : decode cX8_toGrowth 57 = .ok (.iload 7, 2) := dk_1021 (dk_g tcX8_toGrowth_4 9 rfl) (dk_g tcX8_toGrowth_4 10 rfl) rfl
theorem dX8_toGrowth_59 : decode cX8_toGrowth 59 = .ok (.isub, 1) := dk_1100 (dk_g tcX8_toGrowth_4 11 rfl)
theorem tcX8_toGrowth_5 : (cX8_toGrowth.data.toList.drop 60).take 12 = [3, 182, 0, 37, 21, 7, 54, 4, 167, 0, 26, 42] := by decide +kernel
theorem dX8_toGrowth_60 : decode cX8_toGrowth 60 = .ok (.iconst 0, 1) := dk_1003 (dk_g tcX8_toGrowth_5 0 rfl)
theorem dX8_toGrowth_61 : decode cX8_toGrowth 61 = .ok (.invokevirtual 37, 3) := dk_1182 (dk_g tcX8_toGrowth_5 1 rfl) (dk_g tcX8_toGrowth_5 2 rfl) (dk_g tcX8_toGrowth_5 3 rfl) rfl
theorem dX8_toGrowth_64 : decode cX8_toGrowth 64 = .ok (.iload 7, 2) := dk_1021 (dk_g tcX8_toGrowth_5 4 rfl) (dk_g tcX8_toGrowth_5 5 rfl) rfl
theorem dX8_toGrowth_66 : decode cX8_toGrowth 66 = .ok (.istore 4, 2) := dk_1054 (dk_g tcX8_toGrowth_5 6 rfl) (dk_g tcX8_toGrowth_5 7 rfl) rfl
theorem dX8_toGrowth_68 : decode cX8_toGrowth 68 = .ok (.goto 26, 3) := dk_2167 (dk_g tcX8_toGrowth_5 8 rfl) (dk_g tcX8_toGrowth_5 9 rfl) (dk_g tcX8_toGrowth_5 10 rfl) rfl rfl
theorem dX8_toGrowth_71 : decode cX8_toGrowth 71 = .ok (.aload_n 0, 1) := dk_1042 (dk_g tcX8_toGrowth_5 11 rfl)
theorem tcX8_toGrowth_6 : (cX8_toGrowth.data.toList.drop 72).take 12 = [29, 21, 7, 4, 182, 0, 37, 29, 21, 7, 96, 62] := by decide +kernel
theorem dX8_toGrowth_72 : decode cX8_toGrowth 72 = .ok (.iload_n 3, 1) := dk_1029 (dk_g tcX8_toGrowth_6 0 rfl)
theorem dX8_toGrowth_73 : decode cX8_toGrowth 73 = .ok (.iload 7, 2) := dk_1021 (dk_g tcX8_toGrowth_6 1 rfl) (dk_g tcX8_toGrowth_6 2 rfl) rfl
theorem dX8_toGrowth_75 : decode cX8_toGrowth 75 = .ok (.iconst 1, 1) := dk_1004 (dk_g tcX8_toGrowth_6 3 rfl)
theorem dX8_toGrowth_76 : decode cX8_toGrowth 76 = .ok (.invokevirtual 37, 3) := dk_1182 (dk_g tcX8_toGrowth_6 4 rfl) (dk_g tcX8_toGrowth_6 5 rfl) (dk_g tcX8_toGrowth_6 6 rfl) rfl
theorem dX8_toGrowth_79 : decode cX8_toGrowth 79 = .ok (.iload_n 3, 1) := dk_1029 (dk_g tcX8_toGrowth_6 7 rfl)
theorem dX8_toGrowth_80 : decode cX8_toGrowth 80 = .ok (.iload 7, 2) := dk_1021 (dk_g tcX8_toGrowth_6 8 rfl) (dk_g tcX8_toGrowth_6 9 rfl) rfl
theorem dX8_toGrowth_82 : decode cX8_toGrowth 82 = .ok (.iadd, 1) := dk_1096 (dk_g tcX8_toGrowth_6 10 rfl)
theorem dX8_toGrowth_83 : decode cX8_toGrowth 83 = .ok (.istore_n 3, 1) := dk_1062 (dk_g tcX8_toGrowth_6 11 rfl)
theorem tcX8_toGrowth_7 : (cX8_toGrowth.data.toList.drop 84).take 12 = [21, 4, 21, 7, 100, 54, 4, 3, 54, 5, 132, 6] := by decide +kernel
theorem dX8_toGrowth_84 : decode cX8_toGrowth 84 = .ok (.iload 4, 2) := dk_1021 (dk_g tcX8_toGrowth_7 0 rfl) (dk_g tcX8_toGrowth_7 1 rfl) rfl
theorem dX8_toGrowth_86 : decode cX8_toGrowth 86 = .ok (.iload 7, 2) := dk_1021 (dk_g tcX8_toGrowth_7 2 rfl) (dk_g tcX8_toGrowth_7 3 rfl) rfl
theorem dX8_toGrowth_88 : decode cX8_toGrowth 88 = .ok (.isub, 1) := dk_1100 (dk_g tcX8_toGrowth_7 4 rfl)
theorem dX8_toGrowth_89 : decode cX8_toGrowth 89 = .ok (.istore 4, 2) := dk_1054 (dk_g tcX8_toGrowth_7 5 rfl) (dk_g tcX8_toGrowth_7 6 rfl) rfl
theorem dX8_toGrowth_91 : decode cX8_toGrowth 91 = .ok (.iconst 0, 1) := dk_1003 (dk_g tcX8_toGrowth_7 7 rfl)
theorem dX8_toGrowth_92 : decode cX8_toGrowth 92 = .ok (.istore 5, 2) := dk_1054 (dk_g tcX8_toGrowth_7 8 rfl) (dk_g tcX8_toGrowth_7 9 rfl) rfl
theorem tcX8_toGrowth_8 : (cX8_toGrowth.data.toList.drop 96).take 12 = [1, 167, 255, 179, 21, 5, 154, 0, 16, 42, 29, 21] := by decide +kernel
theorem dX8_toGrowth_94 : decode cX8_toGrowth 94 = .ok (.iinc 6 1, 3) := dk_1132 (dk_g tcX8_toGrowth_7 10 rfl) (dk_g tcX8_toGrowth_7 11 rfl) (dk_g tcX8_toGrowth_8 0 rfl) rfl (by decide +kernel)
theorem dX8_toGrowth_97 : decode cX8_toGrowth 97 = .ok (.goto (-77), 3) := dk_1167 (dk_g tcX8_toGrowth_8 1 rfl) (dk_g tcX8_toGrowth_8 2 rfl) (dk_g tcX8_toGrowth_8 3 rfl) (by decide +kernel)
theorem dX8_toGrowth_100 : decode cX8_toGrowth 100 = .ok (.iload 5, 2) := dk_1021 (dk_g tcX8_toGrowth_8 4 rfl) (dk_g tcX8_toGrowth_8 5 rfl) rfl
theorem dX8_toGrowth_102 : decode cX8_toGrowth 102 = .ok (.ifCond .ne 16, 3) := dk_2154 (dk_g tcX8_toGrowth_8 6 rfl) (dk_g tcX8_toGrowth_8 7 rfl) (dk_g tcX8_toGrowth_8 8 rfl) rfl rfl
theorem dX8_toGrowth_105 : decode cX8_toGrowth 105 = .ok (.aload_n 0, 1) := dk_1042 (dk_g tcX8_toGrowth_8 9 rfl)
theorem dX8_toGrowth_106 : decode cX8_toGrowth 106 = .ok (.iload_n 3, 1) := dk_1029 (dk_g tcX8_toGrowth_8 10 rfl)
theorem tcX8_toGrowth_9 : (cX8_toGrowth.data.toList.drop 108).take 12 = [4, 3, 182, 0, 37, 42, 4, 181, 0, 26, 42, 182] := by decide +kernel
theorem dX8_toGrowth_107 : decode cX8_toGrowth 107 = .ok (.iload 4, 2) := dk_1021 (dk_g tcX8_toGrowth_8 11 rfl) (dk_g tcX8_toGrowth_9 0 rfl) rfl
theorem dX8_toGrowth_109 : decode cX8_toGrowth 109 = .ok (.iconst 0, 1) := dk_1003 (dk_g tcX8_toGrowth_9 1 rfl)
theorem dX8_toGrowth_110 : decode cX8_toGrowth 110 = .ok (.invokevirtual 37, 3) := dk_1182 (dk_g tcX8_toGrowth_9 2 rfl) (dk_g tcX8_toGrowth_9 3 rfl) (dk_g tcX8_toGrowth_9 4 rfl) rfl
theorem dX8_toGrowth_113 : decode cX8_toGrowth 113 = .ok (.aload_n 0, 1) := dk_1042 (dk_g tcX8_toGrowth_9 5 rfl)
theorem dX8_toGrowth_114 : decode cX8_toGrowth 114 = .ok (.iconst 1, 1) := dk_1004 (dk_g tcX8_toGrowth_9 6 rfl)
theorem dX8_toGrowth_115 : decode cX8_toGrowth 115 = .ok (.putfield 26, 3) := dk_1181 (dk_g tcX8_toGrowth_9 7 rfl) (dk_g tcX8_toGrowth_9 8 rfl) (dk_g tcX8_toGrowth_9 9 rfl) rfl
theorem dX8_toGrowth_118 : decode cX8_toGrowth 118 = .ok (.aload_n 0, 1) := dk_1042 (dk_g tcX8_toGrowth_9 10 rfl)
theorem tcX8_toGrowth_10 : (cX8_toGrowth.data.toList.drop 120).take 12 = [0, 41, 177] := by decide +kernel
theorem dX8_toGrowth_119 : decode cX8_toGrowth 119 = .ok (.invokevirtual 41, 3) := dk_1182 (dk_g tcX8_toGrowth_9 11 rfl) (dk_g tcX8_toGrowth_10 0 rfl) (dk_g tcX8_toGrowth_10 1 rfl) rfl
theorem dX8_toGrowth_122 : decode cX8_toGrowth 122 = .ok (.return_, 1) := dk_1177 (dk_g tcX8_toGrowth_10 2 rfl)
theorem tcX8_toBundle_0 : (cX8_toBundle.data.toList.drop 0).take 12 = [42, 182, 0, 30, 3, 62, 3, 54, 4, 21, 4, 17] := by decide +kernel
theorem dX8_toBundle_0 : decode cX8_toBundle 0 = .ok (.aload_n 0, 1) := dk_1042 (dk_g tcX8_toBundle_0 0 rfl)
theorem dX8_toBundle_1 : decode cX8_toBundle 1 = .ok (.invokevirtual 30, 3) := dk_1182 (dk_g tcX8_toBundle_0 1 rfl) (dk_g tcX8_toBundle_0 2 rfl) (dk_g tcX8_toBundle_0 3 rfl) rfl
theorem dX8_toBundle_4 : decode cX8_toBundle 4 = .ok (.iconst 0, 1) := dk_1003 (dk_g tcX8_toBundle_0 4 rfl)
theorem dX8_toBundle_5 : decode cX8_toBundle 5 = .ok (.istore_n 3, 1) := dk_1062 (dk_g tcX8_toBundle_0 5 rfl)
theorem dX8_toBundle_6 : decode cX8_toBundle 6 = .ok (.iconst 0, 1) := dk_1003 (dk_g tcX8_toBundle_0 6 rfl)
theorem dX8_toBundle_7 : decode cX8_toBundle 7 = .ok (.istore 4, 2) := dk_1054 (dk_g tcX8_toBundle_0 7 rfl) (dk_g tcX8_toBundle_0 8 rfl) rfl
theorem dX8_toBundle_9 : decode cX8_toBundle 9 = .ok (.iload 4, 2) := dk_1021 (dk_g tcX8_toBundle_0 9 rfl) (dk_g tcX8_toBundle_0 10 rfl) rfl
theorem tcX8_toBundle_1 : (cX8_toBundle.data.toList.drop 12).take 12 = [0, 128, 162, 0, 39, 29, 28, 162, 0, 34, 27, 29] := by decide +kernel
theorem dX8_toBundle_11 : decode cX8_toBundle 11 = .ok (.sipush 128, 3) := dk_2017 (dk_g tcX8_toBundle_0 11 rfl) (dk_g tcX8_toBundle_1 0 rfl) (dk_g tcX8_toBundle_1 1 rfl) rfl rfl
theorem dX8_toBundle_14 : decode cX8_toBundle 14 = .ok (.if_icmp .ge 39, 3) := dk_2162 (dk_g tcX8_toBundle_1 2 rfl) (dk_g tcX8_toBundle_1 3 rfl) (dk_g tcX8_toBundle_1 4 rfl) rfl rfl
theorem dX8_toBundle_17 : decode cX8_toBundle 17 = .ok (.iload_n 3, 1) := dk_1029 (dk_g tcX8_toBundle_1 5 rfl)
theorem dX8_toBundle_18 : decode cX8_toBundle 18 = .ok (.iload_n 2, 1) := dk_1028 (dk_g tcX8_toBundle_1 6 rfl)
theorem dX8_toBundle_19 : decode cX8_toBundle 19 = .ok (.if_icmp .ge 34, 3) := dk_2162 (dk_g tcX8_toBundle_1 7 rfl) (dk_g tcX8_toBundle_1 8 rfl) (dk_g tcX8_toBundle_1 9 rfl) rfl rfl
theorem dX8_toBundle_22 : decode cX8_toBundle 22 = .ok (.iload_n 1, 1) := dk_1027 (dk_g tcX8_toBundle_1 10 rfl)
theorem dX8_toBundle_23 : decode cX8_toBundle 23 = .ok (.iload_n 3, 1) := dk_1029 (dk_g tcX8_toBundle_1 11 rfl)
theorem tcX8_toBundle_2 : (cX8_toBundle.data.toList.drop 24).take 12 = [4, 184, 0, 44, 153, 0, 9, 132, 3, 1, 167, 0] := by decide +kernel
theorem dX8_toBundle_24 : decode cX8_toBundle 24 = .ok (.iconst 1, 1) := dk_1004 (dk_g tcX8_toBundle_2 0 rfl)
theorem dX8_toBundle_25 : decode cX8_toBundle 25 = .ok (.invokestatic 44, 3) := dk_1184 (dk_g tcX8_toBundle_2 1 rfl) (dk_g tcX8_toBundle_2 2 rfl) (dk_g tcX8_toBundle_2 3 rfl) rfl
theorem dX8_toBundle_28 : decode cX8_toBundle 28 = .ok (.ifCond .eq 9, 3) := dk_2153 (dk_g tcX8_toBundle_2 4 rfl) (dk_g tcX8_toBundle_2 5 rfl) (dk_g tcX8_toBundle_2 6 rfl) rfl rfl
theorem dX8_toBundle_31 : decode cX8_toBundle 31 = .ok (.iinc 3 1, 3) := dk_1132 (dk_g tcX8_toBundle_2 7 rfl) (dk_g tcX8_toBundle_2 8 rfl) (dk_g tcX8_toBundle_2 9 rfl) rfl (by decide +kernel)
theorem tcX8_toBundle_3 : (cX8_toBundle.data.toList.drop 36).take 12 = [13, 29, 42, 27, 29, 28, 182, 0, 48, 96, 62, 132] := by decide +kernel
theorem dX8_toBundle_34 : decode cX8_toBundle 34 = .ok (.goto 13, 3) := dk_2167 (dk_g tcX8_toBundle_2 10 rfl) (dk_g tcX8_toBundle_2 11 rfl) (dk_g tcX8_toBundle_3 0 rfl) rfl rfl
theorem dX8_toBundle_37 : decode cX8_toBundle 37 = .ok (.iload_n 3, 1) := dk_1029 (dk_g tcX8_toBundle_3 1 rfl)
theorem dX8_toBundle_38 : decode cX8_toBundle 38 = .ok (.aload_n 0, 1) := dk_1042 (dk_g tcX8_toBundle_3 2 rfl)
theorem dX8_toBundle_39 : decode cX8_toBundle 39 = .ok (.iload_n 1, 1) := dk_1027 (dk_g tcX8_toBundle_3 3 rfl)
theorem dX8_toBundle_40 : decode cX8_toBundle 40 = .ok (.iload_n 3, 1) := dk_1029 (dk_g tcX8_toBundle_3 4 rfl)
theorem dX8_toBundle_41 : decode cX8_toBundle 41 = .ok (.iload_n 2, 1) := dk_1028 (dk_g tcX8_toBundle_3 5 rfl)
theorem dX8_toBundle_42 : decode cX8_toBundle 42 = .ok (.invokevirtual 48, 3) := dk_1182 (dk_g tcX8_toBundle_3 6 rfl) (dk_g tcX8_toBundle_3 7 rfl) (dk_g tcX8_toBundle_3 8 rfl) rfl
theorem dX8_toBundle_45 : decode cX8_toBundle 45 = .ok (.iadd, 1) := dk_1096 (dk_g tcX8_toBundle_3 9 rfl)
theorem dX8_toBundle_46 : decode cX8_toBundle 46 = .ok (.istore_n 3, 1) := dk_1062 (dk_g tcX8_toBundle_3 10 rfl)
theorem tcX8_toBundle_4 : (cX8_toBundle.data.toList.drop 48).take 12 = [4, 1, 167, 255, 215, 177] := by decide +kernel
theorem dX8_toBundle_47 : decode cX8_toBundle 47 = .ok (.iinc 4 1, 3) := dk_1132 (dk_g tcX8_toBundle_3 11 rfl) (dk_g tcX8_toBundle_4 0 rfl) (dk_g tcX8_toBundle_4 1 rfl) rfl (by decide +kernel)
theorem dX8_toBundle_50 : decode cX8_toBundle 50 = .ok (.goto (-41), 3) := dk_1167 (dk_g tcX8_toBundle_4 2 rfl) (dk_g tcX8_toBundle_4 3 rfl) (dk_g tcX8_toBundle_4 4 rfl) (by decide +kernel)
theorem dX8_toBundle_53 : decode cX8_toBundle 53 = .ok (.return_, 1) := dk_1177 (dk_g tcX8_toBundle_4 5 rfl)
theorem tcX8_putGreatestWithout_0 : (cX8_putGreatestWithout.data.toList.drop 0).take 12 = [3, 54, 4, 29, 54, 5, 3, 54, 6, 21, 6, 16] := by decide +kernel
theorem dX8_putGreatestWithout_0 : decode cX8_putGreatestWithout 0 = .ok (.iconst 0, 1) := dk_1003 (dk_g tcX8_putGreatestWithout_0 0 rfl)
theorem dX8_putGreatestWithout_1 : decode cX8_putGreatestWithout 1 = .ok (.istore 4, 2) := dk_1054 (dk_g tcX8_putGreatestWithout_0 1 rfl) (dk_g tcX8_putGreatestWithout_0 2 rfl) rfl
theorem dX8_putGreatestWithout_3 : decode cX8_putGreatestWithout 3 = .ok (.iload_n 3, 1) := dk_1029 (dk_g tcX8_putGreatestWithout_0 3 rfl)
theorem dX8_putGreatestWithout_4 : decode cX8_putGreatestWithout 4 = .ok (.istore 5, 2) := dk_1054 (dk_g tcX8_putGreatestWithout_0 4 rfl) (dk_g tcX8_putGreatestWithout_0 5 rfl) rfl
theorem dX8_putGreatestWithout_6 : decode cX8_putGreatestWithout 6 = .ok (.iconst 0, 1) := dk_1003 (dk_g tcX8_putGreatestWithout_0 6 rfl)
theorem dX8_putGreatestWithout_7 : decode cX8_putGreatestWithout 7 = .ok (.istore 6, 2) := dk_1054 (dk_g tcX8_putGreatestWithout_0 7 rfl) (dk_g tcX8_putGreatestWithout_0 8 rfl) rfl
theorem dX8_putGreatestWithout_9 : decode cX8_putGreatestWithout 9 = .ok (.iload 6, 2) := dk_1021 (dk_g tcX8_putGreatestWithout_0 9 rfl) (dk_g tcX8_putGreatestWithout_0 10 rfl) rfl
theorem tcX8_putGreatestWithout_1 : (cX8_putGreatestWithout.data.toList.drop 12).take 12 = [40, 162, 0, 63, 21, 4, 28, 160, 0, 14, 27, 21] := by decide +kernel
theorem dX8_putGreatestWithout_11 : decode cX8_putGreatestWithout 11 = .ok (.bipush 40, 2) := dk_1016 (dk_g tcX8_putGreatestWithout_0 11 rfl) (dk_g tcX8_putGreatestWithout_1 0 rfl) (by decide +kernel)
theorem dX8_putGreatestWithout_13 : decode cX8_putGreatestWithout 13 = .ok (.if_icmp .ge 63, 3) := dk_2162 (dk_g tcX8_putGreatestWithout_1 1 rfl) (dk_g tcX8_putGreatestWithout_1 2 rfl) (dk_g tcX8_putGreatestWithout_1 3 rfl) rfl rfl
theorem dX8_putGreatestWithout_16 : decode cX8_putGreatestWithout 16 = .ok (.iload 4, 2) := dk_1021 (dk_g tcX8_putGreatestWithout_1 4 rfl) (dk_g tcX8_putGreatestWithout_1 5 rfl) rfl
theorem dX8_putGreatestWithout_18 : decode cX8_putGreatestWithout 18 = .ok (.iload_n 2, 1) := dk_1028 (dk_g tcX8_putGreatestWithout_1 6 rfl)
theorem dX8_putGreatestWithout_19 : decode cX8_putGreatestWithout 19 = .ok (.if_icmp .ne 14, 3) := dk_2160 (dk_g tcX8_putGreatestWithout_1 7 rfl) (dk_g tcX8_putGreatestWithout_1 8 rfl) (dk_g tcX8_putGreatestWithout_1 9 rfl) rfl rfl
theorem dX8_putGreatestWithout_22 : decode cX8_putGreatestWithout 22 = .ok (.iload_n 1, 1) := dk_1027 (dk_g tcX8_putGreatestWithout_1 10 rfl)
theorem tcX8_putGreatestWithout_2 : (cX8_putGreatestWithout.data.toList.drop 24).take 12 = [4, 21, 5, 184, 0, 44, 153, 0, 46, 21, 5, 184] := by decide +kernel
theorem dX8_putGreatestWithout_23 : decode cX8_putGreatestWithout 23 = .ok (.iload 4, 2) := dk_1021 (dk_g tcX8_putGreatestWithout_1 11 rfl) (dk_g tcX8_putGreatestWithout_2 0 rfl) rfl
theorem dX8_putGreatestWithout_25 : decode cX8_putGreatestWithout 25 = .ok (.iload 5, 2) := dk_1021 (dk_g tcX8_putGreatestWithout_2 1 rfl) (dk_g tcX8_putGreatestWithout_2 2 rfl) rfl
theorem dX8_putGreatestWithout_27 : decode cX8_putGreatestWithout 27 = .ok (.invokestatic 44, 3) := dk_1184 (dk_g tcX8_putGreatestWithout_2 3 rfl) (dk_g tcX8_putGreatestWithout_2 4 rfl) (dk_g tcX8_putGreatestWithout_2 5 rfl) rfl
theorem dX8_putGreatestWithout_30 : decode cX8_putGreatestWithout 30 = .ok (.ifCond .eq 46, 3) := dk_2153 (dk_g tcX8_putGreatestWithout_2 6 rfl) (dk_g tcX8_putGreatestWithout_2 7 rfl) (dk_g tcX8_putGreatestWithout_2 8 rfl) rfl rfl
theorem dX8_putGreatestWithout_33 : decode cX8_putGreatestWithout 33 = .ok (.iload 5, 2) := dk_1021 (dk_g tcX8_putGreatestWithout_2 9 rfl) (dk_g tcX8_putGreatestWithout_2 10 rfl) rfl
theorem tcX8_putGreatestWithout_3 : (cX8_putGreatestWithout.data.toList.drop 36).take 12 = [0, 33, 54, 7, 28, 21, 4, 100, 21, 7, 162, 0] := by decide +kernel
theorem dX8_putGreatestWithout_35 : decode cX8_putGreatestWithout 35 = .ok (.invokestatic 33, 3) := dk_1184 (dk_g tcX8_putGreatestWithout_2 11 rfl) (dk_g tcX8_putGreatestWithout_3 0 rfl) (dk_g tcX8_putGreatestWithout_3 1 rfl) rfl
theorem dX8_putGreatestWithout_38 : decode cX8_putGreatestWithout 38 = .ok (.istore 7, 2) := dk_1054 (dk_g tcX8_putGreatestWithout_3 2 rfl) (dk_g tcX8_putGreatestWithout_3 3 rfl) rfl
theorem dX8_putGreatestWithout_40 : decode cX8_putGreatestWithout 40 = .ok (.iload_n 2, 1) := dk_1028 (dk_g tcX8_putGreatestWithout_3 4 rfl)
theorem dX8_putGreatestWithout_41 : decode cX8_putGreatestWithout 41 = .ok (.iload 4, 2) := dk_1021 (dk_g tcX8_putGreatestWithout_3 5 rfl) (dk_g tcX8_putGreatestWithout_3 6 rfl) rfl
theorem dX8_putGreatestWithout_43 : decode cX8_putGreatestWithout 43 = .ok (.isub, 1) := dk_1100 (dk_g tcX8_putGreatestWithout_3 7 rfl)
theorem dX8_putGreatestWithout_44 : decode cX8_putGreatestWithout 44 = .ok (.iload 7, 2) := dk_1021 (dk_g tcX8_putGreatestWithout_3 8 rfl) (dk_g tcX8_putGreatestWithout_3 9 rfl) rfl
theorem tcX8_putGreatestWithout_4 : (cX8_putGreatestWithout.data.toList.drop 48).take 12 = [10, 21, 7, 54, 5, 167, 0, 17, 21, 4, 21, 7] := by decide +kernel
theorem dX8_putGreatestWithout_46 : decode cX8_putGreatestWithout 46 = .ok (.if_icmp .ge 10, 3) := dk_2162 (dk_g tcX8_putGreatestWithout_3 10 rfl) (dk_g tcX8_putGreatestWithout_3 11 rfl) (dk_g tcX8_putGreatestWithout_4 0 rfl) rfl rfl
theorem dX8_putGreatestWithout_49 : decode cX8_putGreatestWithout 49 = .ok (.iload 7, 2) := dk_1021 (dk_g tcX8_putGreatestWithout_4 1 rfl) (dk_g tcX8_putGreatestWithout_4 2 rfl) rfl
theorem dX8_putGreatestWithout_51 : decode cX8_putGreatestWithout 51 = .ok (.istore 5, 2) := dk_1054 (dk_g tcX8_putGreatestWithout_4 3 rfl) (dk_g tcX8_putGreatestWithout_4 4 rfl) rfl
theorem dX8_putGreatestWithout_53 : decode cX8_putGreatestWithout 53 = .ok (.goto 17, 3) := dk_2167 (dk_g tcX8_putGreatestWithout_4 5 rfl) (dk_g tcX8_putGreatestWithout_4 6 rfl) (dk_g tcX8_putGreatestWithout_4 7 rfl) rfl rfl
theorem dX8_putGreatestWithout_56 : decode cX8_putGreatestWithout 56 = .ok (.iload 4, 2) := dk_1021 (dk_g tcX8_putGreatestWithout_4 8 rfl) (dk_g tcX8_putGreatestWithout_4 9 rfl) rfl
theorem dX8_putGreatestWithout_58 : decode cX8_putGreatestWithout 58 = .ok (.iload 7, 2) := dk_1021 (dk_g tcX8_putGreatestWithout_4 10 rfl) (dk_g tcX8_putGreatestWithout_4 11 rfl) rfl
theorem tcX8_putGreatestWithout_5 : (cX8_putGreatestWithout.data.toList.drop 60).take 12 = [96, 54, 4, 21, 5, 21, 7, 100, 54, 5, 132, 6] := by decide +kernel
theorem dX8_putGreatestWithout_60 : decode cX8_putGreatestWithout 60 = .ok (.iadd, 1) := dk_1096 (dk_g tcX8_putGreatestWithout_5 0 rfl)
theorem dX8_putGreatestWithout_61 : decode cX8_putGreatestWithout 61 = .ok (.istore 4, 2) := dk_1054 (dk_g tcX8_putGreatestWithout_5 1 rfl) (dk_g tcX8_putGreatestWithout_5 2 rfl) rfl
theorem dX8_putGreatestWithout_63 : decode cX8_putGreatestWithout 63 = .ok (.iload 5, 2) := dk_1021 (dk_g tcX8_putGreatestWithout_5 3 rfl) (dk_g tcX8_putGreatestWithout_5 4 rfl) rfl
theorem dX8_putGreatestWithout_65 : decode cX8_putGreatestWithout 65 = .ok (.iload 7, 2) := dk_1021 (dk_g tcX8_putGreatestWithout_5 5 rfl) (dk_g tcX8_putGreatestWithout_5 6 rfl) rfl
theorem dX8_putGreatestWithout_67 : decode cX8_putGreatestWithout 67 = .ok (.isub, 1) := dk_1100 (dk_g tcX8_putGreatestWithout_5 7 rfl)
theorem dX8_putGreatestWithout_68 : decode cX8_putGreatestWithout 68 = .ok (.istore 5, 2) := dk_1054 (dk_g tcX8_putGreatestWithout_5 8 rfl) (dk_g tcX8_putGreatestWithout_5 9 rfl) rfl
theorem tcX8_putGreatestWithout_6 : (cX8_putGreatestWithout.data.toList.drop 72).take 12 = [1, 167, 255, 192, 42, 21, 4, 21, 5, 3, 182, 0] := by decide +kernel
theorem dX8_putGreatestWithout_70 : decode cX8_putGreatestWithout 70 = .ok (.iinc 6 1, 3) := dk_1132 (dk_g tcX8_putGreatestWithout_5 10 rfl) (dk_g tcX8_putGreatestWithout_5 11 rfl) (dk_g tcX8_putGreatestWithout_6 0 rfl) rfl (by decide +kernel)
theorem dX8_putGreatestWithout_73 : decode cX8_putGreatestWithout 73 = .ok (.goto (-64), 3) := dk_1167 (dk_g tcX8_putGreatestWithout_6 1 rfl) (dk_g tcX8_putGreatestWithout_6 2 rfl) (dk_g tcX8_putGreatestWithout_6 3 rfl) (by decide +kernel)
theorem dX8_putGreatestWithout_76 : decode cX8_putGreatestWithout 76 = .ok (.aload_n 0, 1) := dk_1042 (dk_g tcX8_putGreatestWithout_6 4 rfl)
theorem dX8_putGreatestWithout_77 : decode cX8_putGreatestWithout 77 = .ok (.iload 4, 2) := dk_1021 (dk_g tcX8_putGreatestWithout_6 5 rfl) (dk_g tcX8_putGreatestWithout_6 6 rfl) rfl
theorem dX8_putGreatestWithout_79 : decode cX8_putGreatestWithout 79 = .ok (.iload 5, 2) := dk_1021 (dk_g tcX8_putGreatestWithout_6 7 rfl) (dk_g tcX8_putGreatestWithout_6 8 rfl) rfl
theorem dX8_putGreatestWithout_81 : decode cX8_putGreatestWithout 81 = .ok (.iconst 0, 1) := dk_1003 (dk_g tcX8_putGreatestWithout_6 9 rfl)
theorem tcX8_putGreatestWithout_7 : (cX8_putGreatestWithout.data.toList.drop 84).take 12 = [37, 21, 5, 172] := by decide +kernel
theorem dX8_putGreatestWithout_82 : decode cX8_putGreatestWithout 82 = .ok (.invokevirtual 37, 3) := dk_1182 (dk_g tcX8_putGreatestWithout_6 10 rfl) (dk_g tcX8_putGreatestWithout_6 11 rfl) (dk_g tcX8_putGreatestWithout_7 0 rfl) rfl
theorem dX8_putGreatestWithout_85 : decode cX8_putGreatestWithout 85 = .ok (.iload 5, 2) := dk_1021 (dk_g tcX8_putGreatestWithout_7 1 rfl) (dk_g tcX8_putGreatestWithout_7 2 rfl) rfl
theorem dX8_putGreatestWithout_87 : decode cX8_putGreatestWithout 87 = .ok (.ireturn, 1) := dk_1172 (dk_g tcX8_putGreatestWithout_7 3 rfl)
theorem tcX8_toTree_0 : (cX8_toTree.data.toList.drop 0).take 12 = [42, 182, 0, 30, 3, 62, 28, 54, 4, 27, 54, 5] := by decide +kernel
theorem dX8_toTree_0 : decode cX8_toTree 0 = .ok (.aload_n 0, 1) := dk_1042 (dk_g tcX8_toTree_0 0 rfl)
theorem dX8_toTree_1 : decode cX8_toTree 1 = .ok (.invokevirtual 30, 3) := dk_1182 (dk_g tcX8_toTree_0 1 rfl) (dk_g tcX8_toTree_0 2 rfl) (dk_g tcX8_toTree_0 3 rfl) rfl
theorem dX8_toTree_4 : decode cX8_toTree 4 = .ok (.iconst 0, 1) := dk_1003 (dk_g tcX8_toTree_0 4 rfl)
theorem dX8_toTree_5 : decode cX8_toTree 5 = .ok (.istore_n 3, 1) := dk_1062 (dk_g tcX8_toTree_0 5 rfl)
theorem dX8_toTree_6 : decode cX8_toTree 6 = .ok (.iload_n 2, 1) := dk_1028 (dk_g tcX8_toTree_0 6 rfl)
theorem dX8_toTree_7 : decode cX8_toTree 7 = .ok (.istore 4, 2) := dk_1054 (dk_g tcX8_toTree_0 7 rfl) (dk_g tcX8_toTree_0 8 rfl) rfl
theorem dX8_toTree_9 : decode cX8_toTree 9 = .ok (.iload_n 1, 1) := dk_1027 (dk_g tcX8_toTree_0 9 rfl)
theorem dX8_toTree_10 : decode cX8_toTree 10 = .ok (.istore 5, 2) := dk_1054 (dk_g tcX8_toTree_0 10 rfl) (dk_g tcX8_toTree_0 11 rfl) rfl
theorem tcX8_toTree_1 : (cX8_toTree.data.toList.drop 12).take 12 = [3, 54, 6, 21, 6, 16, 40, 162, 0, 63, 21, 5] := by decide +kernel
theorem dX8_toTree_12 : decode cX8_toTree 12 = .ok (.iconst 0, 1) := dk_1003 (dk_g tcX8_toTree_1 0 rfl)
theorem dX8_toTree_13 : decode cX8_toTree 13 = .ok (.istore 6, 2) := dk_1054 (dk_g tcX8_toTree_1 1 rfl) (dk_g tcX8_toTree_1 2 rfl) rfl
theorem dX8_toTree_15 : decode cX8_toTree 15 = .ok (.iload 6, 2) := dk_1021 (dk_g tcX8_toTree_1 3 rfl) (dk_g tcX8_toTree_1 4 rfl) rfl
theorem dX8_toTree_17 : decode cX8_toTree 17 = .ok (.bipush 40, 2) := dk_1016 (dk_g tcX8_toTree_1 5 rfl) (dk_g tcX8_toTree_1 6 rfl) (by decide +kernel)
theorem dX8_toTree_19 : decode cX8_toTree 19 = .ok (.if_icmp .ge 63, 3) := dk_2162 (dk_g tcX8_toTree_1 7 rfl) (dk_g tcX8_toTree_1 8 rfl) (dk_g tcX8_toTree_1 9 rfl) rfl rfl
theorem dX8_toTree_22 : decode cX8_toTree 22 = .ok (.iload 5, 2) := dk_1021 (dk_g tcX8_toTree_1 10 rfl) (dk_g tcX8_toTree_1 11 rfl) rfl
theorem tcX8_toTree_2 : (cX8_toTree.data.toList.drop 24).take 12 = [158, 0, 58, 21, 4, 184, 0, 33, 54, 7, 21, 5] := by decide +kernel
theorem dX8_toTree_24 : decode cX8_toTree 24 = .ok (.ifCond .le 58, 3) := dk_2158 (dk_g tcX8_toTree_2 0 rfl) (dk_g tcX8_toTree_2 1 rfl) (dk_g tcX8_toTree_2 2 rfl) rfl rfl
theorem dX8_toTree_27 : decode cX8_toTree 27 = .ok (.iload 4, 2) := dk_1021 (dk_g tcX8_toTree_2 3 rfl) (dk_g tcX8_toTree_2 4 rfl) rfl
theorem dX8_toTree_29 : decode cX8_toTree 29 = .ok (.invokestatic 33, 3) := dk_1184 (dk_g tcX8_toTree_2 5 rfl) (dk_g tcX8_toTree_2 6 rfl) (dk_g tcX8_toTree_2 7 rfl) rfl
theorem dX8_toTree_32 : decode cX8_toTree 32 = .ok (.istore 7, 2) := dk_1054 (dk_g tcX8_toTree_2 8 rfl) (dk_g tcX8_toTree_2 9 rfl) rfl
theorem dX8_toTree_34 : decode cX8_toTree 34 = .ok (.iload 5, 2) := dk_1021 (dk_g tcX8_toTree_2 10 rfl) (dk_g tcX8_toTree_2 11 rfl) rfl
theorem tcX8_toTree_3 : (cX8_toTree.data.toList.drop 36).take 12 = [5, 21, 7, 104, 4, 100, 163, 0, 13, 132, 5, 255] := by decide +kernel
theorem dX8_toTree_36 : decode cX8_toTree 36 = .ok (.iconst 2, 1) := dk_1005 (dk_g tcX8_toTree_3 0 rfl)
theorem dX8_toTree_37 : decode cX8_toTree 37 = .ok (.iload 7, 2) := dk_1021 (dk_g tcX8_toTree_3 1 rfl) (dk_g tcX8_toTree_3 2 rfl) rfl
theorem dX8_toTree_39 : decode cX8_toTree 39 = .ok (.imul, 1) := dk_1104 (dk_g tcX8_toTree_3 3 rfl)
theorem dX8_toTree_40 : decode cX8_toTree 40 = .ok (.iconst 1, 1) := dk_1004 (dk_g tcX8_toTree_3 4 rfl)
theorem dX8_toTree_41 : decode cX8_toTree 41 = .ok (.isub, 1) := dk_1100 (dk_g tcX8_toTree_3 5 rfl)
theorem dX8_toTree_42 : decode cX8_toTree 42 = .ok (.if_icmp .gt 13, 3) := dk_2163 (dk_g tcX8_toTree_3 6 rfl) (dk_g tcX8_toTree_3 7 rfl) (dk_g tcX8_toTree_3 8 rfl) rfl rfl
theorem dX8_toTree_45 : decode cX8_toTree 45 = .ok (.iinc 5 (-1), 3) := dk_1132 (dk_g tcX8_toTree_3 9 rfl) (dk_g tcX8_toTree_3 10 rfl) (dk_g tcX8_toTree_3 11 rfl) rfl (by decide +kernel)
theorem tcX8_toTree_4 : (cX8_toTree.data.toList.drop 48).take 12 = [21, 7, 54, 4, 167, 0, 24, 21, 5, 5, 21, 7] := by decide +kernel
theorem dX8_toTree_48 : decode cX8_toTree 48 = .ok (.iload 7, 2) := dk_1021 (dk_g tcX8_toTree_4 0 rfl) (dk_g tcX8_toTree_4 1 rfl) rfl
theorem dX8_toTree_50 : decode cX8_toTree 50 = .ok (.istore 4, 2) := dk_1054 (dk_g tcX8_toTree_4 2 rfl) (dk_g tcX8_toTree_4 3 rfl) rfl
theorem dX8_toTree_52 : decode cX8_toTree 52 = .ok (.goto 24, 3) := dk_2167 (dk_g tcX8_toTree_4 4 rfl) (dk_g tcX8_toTree_4 5 rfl) (dk_g tcX8_toTree_4 6 rfl) rfl rfl
theorem dX8_toTree_55 : decode cX8_toTree 55 = .ok (.iload 5, 2) := dk_1021 (dk_g tcX8_toTree_4 7 rfl) (dk_g tcX8_toTree_4 8 rfl) rfl
theorem dX8_toTree_57 : decode cX8_toTree 57 = .ok (.iconst 2, 1) := dk_1005 (dk_g tcX8_toTree_4 9 rfl)
theorem dX8_toTree_58 : decode cX8_toTree 58 = .ok (.iload 7, 2) := dk_1021 (dk_g tcX8_toTree_4 10 rfl) (dk_g tcX8_toTree_4 11 rfl) rfl
theorem tcX8_toTree_5 : (cX8_toTree.data.toList.drop 60).take 12 = [104, 100, 54, 5, 29, 21, 7, 96, 62, 21, 4, 21] := by decide +kernel
theorem dX8_toTree_60 : decode cX8_toTree 60 = .ok (.imul, 1) := dk_1104 (dk_g tcX8_toTree_5 0 rfl)
theorem dX8_toTree_61 : decode cX8_toTree 61 = .ok (.isub, 1) := dk_1100 (dk_g tcX8_toTree_5 1 rfl)
theorem dX8_toTree_62 : decode cX8_toTree 62 = .ok (.istore 5, 2) := dk_1054 (dk_g tcX8_toTree_5 2 rfl) (dk_g tcX8_toTree_5 3 rfl) rfl
theorem dX8_toTree_64 : decode cX8_toTree 64 = .ok (.iload_n 3, 1) := dk_1029 (dk_g tcX8_toTree_5 4 rfl)
theorem dX8_toTree_65 : decode cX8_toTree 65 = .ok (.iload 7, 2) := dk_1021 (dk_g tcX8_toTree_5 5 rfl) (dk_g tcX8_toTree_5 6 rfl) rfl
theorem dX8_toTree_67 : decode cX8_toTree 67 = .ok (.iadd, 1) := dk_1096 (dk_g tcX8_toTree_5 7 rfl)
theorem dX8_toTree_68 : decode cX8_toTree 68 = .ok (.istore_n 3, 1) := dk_1062 (dk_g tcX8_toTree_5 8 rfl)
theorem dX8_toTree_69 : decode cX8_toTree 69 = .ok (.iload 4, 2) := dk_1021 (dk_g tcX8_toTree_5 9 rfl) (dk_g tcX8_toTree_5 10 rfl) rfl
theorem tcX8_toTree_6 : (cX8_toTree.data.toList.drop 72).take 12 = [7, 100, 54, 4, 132, 6, 1, 167, 255, 192, 42, 29] := by decide +kernel
theorem dX8_toTree_71 : decode cX8_toTree 71 = .ok (.iload 7, 2) := dk_1021 (dk_g tcX8_toTree_5 11 rfl) (dk_g tcX8_toTree_6 0 rfl) rfl
theorem dX8_toTree_73 : decode cX8_toTree 73 = .ok (.isub, 1) := dk_1100 (dk_g tcX8_toTree_6 1 rfl)
theorem dX8_toTree_74 : decode cX8_toTree 74 = .ok (.istore 4, 2) := dk_1054 (dk_g tcX8_toTree_6 2 rfl) (dk_g tcX8_toTree_6 3 rfl) rfl
theorem dX8_toTree_76 : decode cX8_toTree 76 = .ok (.iinc 6 1, 3) := dk_1132 (dk_g tcX8_toTree_6 4 rfl) (dk_g tcX8_toTree_6 5 rfl) (dk_g tcX8_toTree_6 6 rfl) rfl (by decide +kernel)
theorem dX8_toTree_79 : decode cX8_toTree 79 = .ok (.goto (-64), 3) := dk_1167 (dk_g tcX8_toTree_6 7 rfl) (dk_g tcX8_toTree_6 8 rfl) (dk_g tcX8_toTree_6 9 rfl) (by decide +kernel)
theorem dX8_toTree_82 : decode cX8_toTree 82 = .ok (.aload_n 0, 1) := dk_1042 (dk_g tcX8_toTree_6 10 rfl)
theorem dX8_toTree_83 : decode cX8_toTree 83 = .ok (.iload_n 3, 1) := dk_1029 (dk_g tcX8_toTree_6 11 rfl)
theorem tcX8_toTree_7 : (cX8_toTree.data.toList.drop 84).take 12 = [21, 4, 3, 182, 0, 37, 177] := by decide +kernel
theorem dX8_toTree_84 : decode cX8_toTree 84 = .ok (.iload 4, 2) := dk_1021 (dk_g tcX8_toTree_7 0 rfl) (dk_g tcX8_toTree_7 1 rfl) rfl
theorem dX8_toTree_86 : decode cX8_toTree 86 = .ok (.iconst 0, 1) := dk_1003 (dk_g tcX8_toTree_7 2 rfl)
theorem dX8_toTree_87 : decode cX8_toTree 87 = .ok (.invokevirtual 37, 3) := dk_1182 (dk_g tcX8_toTree_7 3 rfl) (dk_g tcX8_toTree_7 4 rfl) (dk_g tcX8_toTree_7 5 rfl) rfl
theorem dX8_toTree_90 : decode cX8_toTree 90 = .ok (.return_, 1) := dk_1177 (dk_g tcX8_toTree_7 6 rfl)
theorem tcX8_countShared_0 : (cX8_countShared.data.toList.drop 0).take 12 = [3, 61, 3, 62, 29, 42, 180, 0, 22, 162, 0, 58] := by decide +kernel
theorem dX8_countShared_0 : decode cX8_countShared 0 = .ok (.iconst 0, 1) := dk_1003 (dk_g tcX8_countShared_0 0 rfl)
theorem dX8_countShared_1 : decode cX8_countShared 1 = .ok (.istore_n 2, 1) := dk_1061 (dk_g tcX8_countShared_0 1 rfl)
theorem dX8_countShared_2 : decode cX8_countShared 2 = .ok (.iconst 0, 1) := dk_1003 (dk_g tcX8_countShared_0 2 rfl)
theorem dX8_countShared_3 : decode cX8_countShared 3 = .ok (.istore_n 3, 1) := dk_1062 (dk_g tcX8_countShared_0 3 rfl)
theorem dX8_countShared_4 : decode cX8_countShared 4 = .ok (.iload_n 3, 1) := dk_1029 (dk_g tcX8_countShared_0 4 rfl)
theorem dX8_countShared_5 : decode cX8_countShared 5 = .ok (.aload_n 0, 1) := dk_1042 (dk_g tcX8_countShared_0 5 rfl)
theorem dX8_countShared_6 : decode cX8_countShared 6 = .ok (.getfield 22, 3) := dk_1180 (dk_g tcX8_countShared_0 6 rfl) (dk_g tcX8_countShared_0 7 rfl) (dk_g tcX8_countShared_0 8 rfl) rfl
theorem dX8_countShared_9 : decode cX8_countShared 9 = .ok (.if_icmp .ge 58, 3) := dk_2162 (dk_g tcX8_countShared_0 9 rfl) (dk_g tcX8_countShared_0 10 rfl) (dk_g tcX8_countShared_0 11 rfl) rfl rfl
theorem tcX8_countShared_1 : (cX8_countShared.data.toList.drop 12).take 12 = [3, 54, 4, 21, 4, 43, 180, 0, 22, 162, 0, 40] := by decide +kernel
theorem dX8_countShared_12 : decode cX8_countShared 12 = .ok (.iconst 0, 1) := dk_1003 (dk_g tcX8_countShared_1 0 rfl)
theorem dX8_countShared_13 : decode cX8_countShared 13 = .ok (.istore 4, 2) := dk_1054 (dk_g tcX8_countShared_1 1 rfl) (dk_g tcX8_countShared_1 2 rfl) rfl
theorem dX8_countShared_15 : decode cX8_countShared 15 = .ok (.iload 4, 2) := dk_1021 (dk_g tcX8_countShared_1 3 rfl) (dk_g tcX8_countShared_1 4 rfl) rfl
theorem dX8_countShared_17 : decode cX8_countShared 17 = .ok (.aload_n 1, 1) := dk_1043 (dk_g tcX8_countShared_1 5 rfl)
theorem dX8_countShared_18 : decode cX8_countShared 18 = .ok (.getfield 22, 3) := dk_1180 (dk_g tcX8_countShared_1 6 rfl) (dk_g tcX8_countShared_1 7 rfl) (dk_g tcX8_countShared_1 8 rfl) rfl
theorem dX8_countShared_21 : decode cX8_countShared 21 = .ok (.if_icmp .ge 40, 3) := dk_2162 (dk_g tcX8_countShared_1 9 rfl) (dk_g tcX8_countShared_1 10 rfl) (dk_g tcX8_countShared_1 11 rfl) rfl rfl
theorem tcX8_countShared_2 : (cX8_countShared.data.toList.drop 24).take 12 = [42, 29, 182, 0, 52, 43, 21, 4, 182, 0, 52, 160] := by decide +kernel
theorem dX8_countShared_24 : decode cX8_countShared 24 = .ok (.aload_n 0, 1) := dk_1042 (dk_g tcX8_countShared_2 0 rfl)
theorem dX8_countShared_25 : decode cX8_countShared 25 = .ok (.iload_n 3, 1) := dk_1029 (dk_g tcX8_countShared_2 1 rfl)
theorem dX8_countShared_26 : decode cX8_countShared 26 = .ok (.invokevirtual 52, 3) := dk_1182 (dk_g tcX8_countShared_2 2 rfl) (dk_g tcX8_countShared_2 3 rfl) (dk_g tcX8_countShared_2 4 rfl) rfl
theorem dX8_countShared_29 : decode cX8_countShared 29 = .ok (.aload_n 1, 1) := dk_1043 (dk_g tcX8_countShared_2 5 rfl)
theorem dX8_countShared_30 : decode cX8_countShared 30 = .ok (.iload 4, 2) := dk_1021 (dk_g tcX8_countShared_2 6 rfl) (dk_g tcX8_countShared_2 7 rfl) rfl
theorem dX8_countShared_32 : decode cX8_countShared 32 = .ok (.invokevirtual 52, 3) := dk_1182 (dk_g tcX8_countShared_2 8 rfl) (dk_g tcX8_countShared_2 9 rfl) (dk_g tcX8_countShared_2 10 rfl) rfl
theorem tcX8_countShared_3 : (cX8_countShared.data.toList.drop 36).take 12 = [0, 20, 42, 29, 182, 0, 55, 43, 21, 4, 182, 0] := by decide +kernel
theorem dX8_countShared_35 : decode cX8_countShared 35 = .ok (.if_icmp .ne 20, 3) := dk_2160 (dk_g tcX8_countShared_2 11 rfl) (dk_g tcX8_countShared_3 0 rfl) (dk_g tcX8_countShared_3 1 rfl) rfl rfl
theorem dX8_countShared_38 : decode cX8_countShared 38 = .ok (.aload_n 0, 1) := dk_1042 (dk_g tcX8_countShared_3 2 rfl)
theorem dX8_countShared_39 : decode cX8_countShared 39 = .ok (.iload_n 3, 1) := dk_1029 (dk_g tcX8_countShared_3 3 rfl)
theorem dX8_countShared_40 : decode cX8_countShared 40 = .ok (.invokevirtual 55, 3) := dk_1182 (dk_g tcX8_countShared_3 4 rfl) (dk_g tcX8_countShared_3 5 rfl) (dk_g tcX8_countShared_3 6 rfl) rfl
theorem dX8_countShared_43 : decode cX8_countShared 43 = .ok (.aload_n 1, 1) := dk_1043 (dk_g tcX8_countShared_3 7 rfl)
theorem dX8_countShared_44 : decode cX8_countShared 44 = .ok (.iload 4, 2) := dk_1021 (dk_g tcX8_countShared_3 8 rfl) (dk_g tcX8_countShared_3 9 rfl) rfl
theorem tcX8_countShared_4 : (cX8_countShared.data.toList.drop 48).take 12 = [55, 160, 0, 6, 132, 2, 1, 132, 4, 1, 167, 255] := by decide +kernel
theorem dX8_countShared_46 : decode cX8_countShared 46 = .ok (.invokevirtual 55, 3) := dk_1182 (dk_g tcX8_countShared_3 10 rfl) (dk_g tcX8_countShared_3 11 rfl) (dk_g tcX8_countShared_4 0 rfl) rfl
theorem dX8_countShared_49 : decode cX8_countShared 49 = .ok (.if_icmp .ne 6, 3) := dk_2160 (dk_g tcX8_countShared_4 1 rfl) (dk_g tcX8_countShared_4 2 rfl) (dk_g tcX8_countShared_4 3 rfl) rfl rfl
theorem dX8_countShared_52 : decode cX8_countShared 52 = .ok (.iinc 2 1, 3) := dk_1132 (dk_g tcX8_countShared_4 4 rfl) (dk_g tcX8_countShared_4 5 rfl) (dk_g tcX8_countShared_4 6 rfl) rfl (by decide +kernel)
theorem dX8_countShared_55 : decode cX8_countShared 55 = .ok (.iinc 4 1, 3) := dk_1132 (dk_g tcX8_countShared_4 7 rfl) (dk_g tcX8_countShared_4 8 rfl) (dk_g tcX8_countShared_4 9 rfl) rfl (by decide +kernel)
theorem tcX8_countShared_5 : (cX8_countShared.data.toList.drop 60).take 12 = [213, 132, 3, 1, 167, 255, 196, 28, 172] := by decide +kernel
theorem dX8_countShared_58 : decode cX8_countShared 58 = .ok (.goto (-43), 3) := dk_1167 (dk_g tcX8_countShared_4 10 rfl) (dk_g tcX8_countShared_4 11 rfl) (dk_g tcX8_countShared_5 0 rfl) (by decide +kernel)
theorem dX8_countShared_61 : decode cX8_countShared 61 = .ok (.iinc 3 1, 3) := dk_1132 (dk_g tcX8_countShared_5 1 rfl) (dk_g tcX8_countShared_5 2 rfl) (dk_g tcX8_countShared_5 3 rfl) rfl (by decide +kernel)
theorem dX8_countShared_64 : decode cX8_countShared 64 = .ok (.goto (-60), 3) := dk_1167 (dk_g tcX8_countShared_5 4 rfl) (dk_g tcX8_countShared_5 5 rfl) (dk_g tcX8_countShared_5 6 rfl) (by decide +kernel)
theorem dX8_countShared_67 : decode cX8_countShared 67 = .ok (.iload_n 2, 1) := dk_1028 (dk_g tcX8_countShared_5 7 rfl)
theorem dX8_countShared_68 : decode cX8_countShared 68 = .ok (.ireturn, 1) := dk_1172 (dk_g tcX8_countShared_5 8 rfl)
theorem tcX8_joined_0 : (cX8_joined.data.toList.drop 0).take 12 = [42, 28, 182, 0, 58, 153, 0, 13, 27, 21, 4, 29] := by decide +kernel
theorem dX8_joined_0 : decode cX8_joined 0 = .ok (.aload_n 0, 1) := dk_1042 (dk_g tcX8_joined_0 0 rfl)
theorem dX8_joined_1 : decode cX8_joined 1 = .ok (.iload_n 2, 1) := dk_1028 (dk_g tcX8_joined_0 1 rfl)
theorem dX8_joined_2 : decode cX8_joined 2 = .ok (.invokevirtual 58, 3) := dk_1182 (dk_g tcX8_joined_0 2 rfl) (dk_g tcX8_joined_0 3 rfl) (dk_g tcX8_joined_0 4 rfl) rfl
theorem dX8_joined_5 : decode cX8_joined 5 = .ok (.ifCond .eq 13, 3) := dk_2153 (dk_g tcX8_joined_0 5 rfl) (dk_g tcX8_joined_0 6 rfl) (dk_g tcX8_joined_0 7 rfl) rfl rfl
theorem dX8_joined_8 : decode cX8_joined 8 = .ok (.iload_n 1, 1) := dk_1027 (dk_g tcX8_joined_0 8 rfl)
theorem dX8_joined_9 : decode cX8_joined 9 = .ok (.iload 4, 2) := dk_1021 (dk_g tcX8_joined_0 9 rfl) (dk_g tcX8_joined_0 10 rfl) rfl
theorem dX8_joined_11 : decode cX8_joined 11 = .ok (.iload_n 3, 1) := dk_1029 (dk_g tcX8_joined_0 11 rfl)
theorem tcX8_joined_1 : (cX8_joined.data.toList.drop 12).take 12 = [184, 0, 62, 167, 0, 10, 27, 29, 21, 4, 184, 0] := by decide +kernel
theorem dX8_joined_12 : decode cX8_joined 12 = .ok (.invokestatic 62, 3) := dk_1184 (dk_g tcX8_joined_1 0 rfl) (dk_g tcX8_joined_1 1 rfl) (dk_g tcX8_joined_1 2 rfl) rfl
theorem dX8_joined_15 : decode cX8_joined 15 = .ok (.goto 10, 3) := dk_2167 (dk_g tcX8_joined_1 3 rfl) (dk_g tcX8_joined_1 4 rfl) (dk_g tcX8_joined_1 5 rfl) rfl rfl
theorem dX8_joined_18 : decode cX8_joined 18 = .ok (.iload_n 1, 1) := dk_1027 (dk_g tcX8_joined_1 6 rfl)
theorem dX8_joined_19 : decode cX8_joined 19 = .ok (.iload_n 3, 1) := dk_1029 (dk_g tcX8_joined_1 7 rfl)
theorem dX8_joined_20 : decode cX8_joined 20 = .ok (.iload 4, 2) := dk_1021 (dk_g tcX8_joined_1 8 rfl) (dk_g tcX8_joined_1 9 rfl) rfl
theorem tcX8_joined_2 : (cX8_joined.data.toList.drop 24).take 12 = [62, 172] := by decide +kernel
theorem dX8_joined_22 : decode cX8_joined 22 = .ok (.invokestatic 62, 3) := dk_1184 (dk_g tcX8_joined_1 10 rfl) (dk_g tcX8_joined_1 11 rfl) (dk_g tcX8_joined_2 0 rfl) rfl
theorem dX8_joined_25 : decode cX8_joined 25 = .ok (.ireturn, 1) := dk_1172 (dk_g tcX8_joined_2 1 rfl)
theorem tcX8_folded_0 : (cX8_folded.data.toList.drop 0).take 12 = [29, 54, 5, 3, 54, 6, 21, 6, 21, 4, 162, 0] := by decide +kernel
theorem dX8_folded_0 : decode cX8_folded 0 = .ok (.iload_n 3, 1) := dk_1029 (dk_g tcX8_folded_0 0 rfl)
theorem dX8_folded_1 : decode cX8_folded 1 = .ok (.istore 5, 2) := dk_1054 (dk_g tcX8_folded_0 1 rfl) (dk_g tcX8_folded_0 2 rfl) rfl
theorem dX8_folded_3 : decode cX8_folded 3 = .ok (.iconst 0, 1) := dk_1003 (dk_g tcX8_folded_0 3 rfl)
theorem dX8_folded_4 : decode cX8_folded 4 = .ok (.istore 6, 2) := dk_1054 (dk_g tcX8_folded_0 4 rfl) (dk_g tcX8_folded_0 5 rfl) rfl
theorem dX8_folded_6 : decode cX8_folded 6 = .ok (.iload 6, 2) := dk_1021 (dk_g tcX8_folded_0 6 rfl) (dk_g tcX8_folded_0 7 rfl) rfl
theorem dX8_folded_8 : decode cX8_folded 8 = .ok (.iload 4, 2) := dk_1021 (dk_g tcX8_folded_0 8 rfl) (dk_g tcX8_folded_0 9 rfl) rfl
theorem tcX8_folded_1 : (cX8_folded.data.toList.drop 12).take 12 = [35, 21, 6, 42, 180, 0, 22, 162, 0, 26, 42, 27] := by decide +kernel
theorem dX8_folded_10 : decode cX8_folded 10 = .ok (.if_icmp .ge 35, 3) := dk_2162 (dk_g tcX8_folded_0 10 rfl) (dk_g tcX8_folded_0 11 rfl) (dk_g tcX8_folded_1 0 rfl) rfl rfl
theorem dX8_folded_13 : decode cX8_folded 13 = .ok (.iload 6, 2) := dk_1021 (dk_g tcX8_folded_1 1 rfl) (dk_g tcX8_folded_1 2 rfl) rfl
theorem dX8_folded_15 : decode cX8_folded 15 = .ok (.aload_n 0, 1) := dk_1042 (dk_g tcX8_folded_1 3 rfl)
theorem dX8_folded_16 : decode cX8_folded 16 = .ok (.getfield 22, 3) := dk_1180 (dk_g tcX8_folded_1 4 rfl) (dk_g tcX8_folded_1 5 rfl) (dk_g tcX8_folded_1 6 rfl) rfl
theorem dX8_folded_19 : decode cX8_folded 19 = .ok (.if_icmp .ge 26, 3) := dk_2162 (dk_g tcX8_folded_1 7 rfl) (dk_g tcX8_folded_1 8 rfl) (dk_g tcX8_folded_1 9 rfl) rfl rfl
theorem dX8_folded_22 : decode cX8_folded 22 = .ok (.aload_n 0, 1) := dk_1042 (dk_g tcX8_folded_1 10 rfl)
theorem dX8_folded_23 : decode cX8_folded 23 = .ok (.iload_n 1, 1) := dk_1027 (dk_g tcX8_folded_1 11 rfl)
theorem tcX8_folded_2 : (cX8_folded.data.toList.drop 24).take 12 = [21, 6, 21, 5, 44, 21, 6, 182, 0, 65, 182, 0] := by decide +kernel
theorem dX8_folded_24 : decode cX8_folded 24 = .ok (.iload 6, 2) := dk_1021 (dk_g tcX8_folded_2 0 rfl) (dk_g tcX8_folded_2 1 rfl) rfl
theorem dX8_folded_26 : decode cX8_folded 26 = .ok (.iload 5, 2) := dk_1021 (dk_g tcX8_folded_2 2 rfl) (dk_g tcX8_folded_2 3 rfl) rfl
theorem dX8_folded_28 : decode cX8_folded 28 = .ok (.aload_n 2, 1) := dk_1044 (dk_g tcX8_folded_2 4 rfl)
theorem dX8_folded_29 : decode cX8_folded 29 = .ok (.iload 6, 2) := dk_1021 (dk_g tcX8_folded_2 5 rfl) (dk_g tcX8_folded_2 6 rfl) rfl
theorem dX8_folded_31 : decode cX8_folded 31 = .ok (.invokevirtual 65, 3) := dk_1182 (dk_g tcX8_folded_2 7 rfl) (dk_g tcX8_folded_2 8 rfl) (dk_g tcX8_folded_2 9 rfl) rfl
theorem tcX8_folded_3 : (cX8_folded.data.toList.drop 36).take 12 = [70, 54, 5, 132, 6, 1, 167, 255, 220, 21, 5, 172] := by decide +kernel
theorem dX8_folded_34 : decode cX8_folded 34 = .ok (.invokevirtual 70, 3) := dk_1182 (dk_g tcX8_folded_2 10 rfl) (dk_g tcX8_folded_2 11 rfl) (dk_g tcX8_folded_3 0 rfl) rfl
theorem dX8_folded_37 : decode cX8_folded 37 = .ok (.istore 5, 2) := dk_1054 (dk_g tcX8_folded_3 1 rfl) (dk_g tcX8_folded_3 2 rfl) rfl
theorem dX8_folded_39 : decode cX8_folded 39 = .ok (.iinc 6 1, 3) := dk_1132 (dk_g tcX8_folded_3 3 rfl) (dk_g tcX8_folded_3 4 rfl) (dk_g tcX8_folded_3 5 rfl) rfl (by decide +kernel)
theorem dX8_folded_42 : decode cX8_folded 42 = .ok (.goto (-36), 3) := dk_1167 (dk_g tcX8_folded_3 6 rfl) (dk_g tcX8_folded_3 7 rfl) (dk_g tcX8_folded_3 8 rfl) (by decide +kernel)
theorem dX8_folded_45 : decode cX8_folded 45 = .ok (.iload 5, 2) := dk_1021 (dk_g tcX8_folded_3 9 rfl) (dk_g tcX8_folded_3 10 rfl) rfl
theorem dX8_folded_47 : decode cX8_folded 47 = .ok (.ireturn, 1) := dk_1172 (dk_g tcX8_folded_3 11 rfl)
theorem tcX8_whyInclusion_0 : (cX8_whyInclusion.data.toList.drop 0).take 12 = [44, 180, 0, 74, 42, 180, 0, 22, 159, 0, 20, 44] := by decide +kernel
theorem dX8_whyInclusion_0 : decode cX8_whyInclusion 0 = .ok (.aload_n 2, 1) := dk_1044 (dk_g tcX8_whyInclusion_0 0 rfl)
theorem dX8_whyInclusion_1 : decode cX8_whyInclusion 1 = .ok (.getfield 74, 3) := dk_1180 (dk_g tcX8_whyInclusion_0 1 rfl) (dk_g tcX8_whyInclusion_0 2 rfl) (dk_g tcX8_whyInclusion_0 3 rfl) rfl
theorem dX8_whyInclusion_4 : decode cX8_whyInclusion 4 = .ok (.aload_n 0, 1) := dk_1042 (dk_g tcX8_whyInclusion_0 4 rfl)
theorem dX8_whyInclusion_5 : decode cX8_whyInclusion 5 = .ok (.getfield 22, 3) := dk_1180 (dk_g tcX8_whyInclusion_0 5 rfl) (dk_g tcX8_whyInclusion_0 6 rfl) (dk_g tcX8_whyInclusion_0 7 rfl) rfl
theorem dX8_whyInclusion_8 : decode cX8_whyInclusion 8 = .ok (.if_icmp .eq 20, 3) := dk_2159 (dk_g tcX8_whyInclusion_0 8 rfl) (dk_g tcX8_whyInclusion_0 9 rfl) (dk_g tcX8_whyInclusion_0 10 rfl) rfl rfl
theorem dX8_whyInclusion_11 : decode cX8_whyInclusion 11 = .ok (.aload_n 2, 1) := dk_1044 (dk_g tcX8_whyInclusion_0 11 rfl)
theorem tcX8_whyInclusion_1 : (cX8_whyInclusion.data.toList.drop 12).take 12 = [180, 0, 74, 42, 180, 0, 22, 162, 0, 7, 4, 167] := by decide +kernel
theorem dX8_whyInclusion_12 : decode cX8_whyInclusion 12 = .ok (.getfield 74, 3) := dk_1180 (dk_g tcX8_whyInclusion_1 0 rfl) (dk_g tcX8_whyInclusion_1 1 rfl) (dk_g tcX8_whyInclusion_1 2 rfl) rfl
theorem dX8_whyInclusion_15 : decode cX8_whyInclusion 15 = .ok (.aload_n 0, 1) := dk_1042 (dk_g tcX8_whyInclusion_1 3 rfl)
theorem dX8_whyInclusion_16 : decode cX8_whyInclusion 16 = .ok (.getfield 22, 3) := dk_1180 (dk_g tcX8_whyInclusion_1 4 rfl) (dk_g tcX8_whyInclusion_1 5 rfl) (dk_g tcX8_whyInclusion_1 6 rfl) rfl
theorem dX8_whyInclusion_19 : decode cX8_whyInclusion 19 = .ok (.if_icmp .ge 7, 3) := dk_2162 (dk_g tcX8_whyInclusion_1 7 rfl) (dk_g tcX8_whyInclusion_1 8 rfl) (dk_g tcX8_whyInclusion_1 9 rfl) rfl rfl
theorem dX8_whyInclusion_22 : decode cX8_whyInclusion 22 = .ok (.iconst 1, 1) := dk_1004 (dk_g tcX8_whyInclusion_1 10 rfl)
theorem tcX8_whyInclusion_2 : (cX8_whyInclusion.data.toList.drop 24).take 12 = [0, 4, 5, 172, 42, 27, 44, 29, 42, 180, 0, 22] := by decide +kernel
theorem dX8_whyInclusion_23 : decode cX8_whyInclusion 23 = .ok (.goto 4, 3) := dk_2167 (dk_g tcX8_whyInclusion_1 11 rfl) (dk_g tcX8_whyInclusion_2 0 rfl) (dk_g tcX8_whyInclusion_2 1 rfl) rfl rfl
theorem dX8_whyInclusion_26 : decode cX8_whyInclusion 26 = .ok (.iconst 2, 1) := dk_1005 (dk_g tcX8_whyInclusion_2 2 rfl)
theorem dX8_whyInclusion_27 : decode cX8_whyInclusion 27 = .ok (.ireturn, 1) := dk_1172 (dk_g tcX8_whyInclusion_2 3 rfl)
theorem dX8_whyInclusion_28 : decode cX8_whyInclusion 28 = .ok (.aload_n 0, 1) := dk_1042 (dk_g tcX8_whyInclusion_2 4 rfl)
theorem dX8_whyInclusion_29 : decode cX8_whyInclusion 29 = .ok (.iload_n 1, 1) := dk_1027 (dk_g tcX8_whyInclusion_2 5 rfl)
theorem dX8_whyInclusion_30 : decode cX8_whyInclusion 30 = .ok (.aload_n 2, 1) := dk_1044 (dk_g tcX8_whyInclusion_2 6 rfl)
theorem dX8_whyInclusion_31 : decode cX8_whyInclusion 31 = .ok (.iload_n 3, 1) := dk_1029 (dk_g tcX8_whyInclusion_2 7 rfl)
theorem dX8_whyInclusion_32 : decode cX8_whyInclusion 32 = .ok (.aload_n 0, 1) := dk_1042 (dk_g tcX8_whyInclusion_2 8 rfl)
theorem dX8_whyInclusion_33 : decode cX8_whyInclusion 33 = .ok (.getfield 22, 3) := dk_1180 (dk_g tcX8_whyInclusion_2 9 rfl) (dk_g tcX8_whyInclusion_2 10 rfl) (dk_g tcX8_whyInclusion_2 11 rfl) rfl
theorem tcX8_whyInclusion_3 : (cX8_whyInclusion.data.toList.drop 36).take 12 = [182, 0, 75, 21, 4, 160, 0, 7, 3, 167, 0, 4] := by decide +kernel
theorem dX8_whyInclusion_36 : decode cX8_whyInclusion 36 = .ok (.invokevirtual 75, 3) := dk_1182 (dk_g tcX8_whyInclusion_3 0 rfl) (dk_g tcX8_whyInclusion_3 1 rfl) (dk_g tcX8_whyInclusion_3 2 rfl) rfl
theorem dX8_whyInclusion_39 : decode cX8_whyInclusion 39 = .ok (.iload 4, 2) := dk_1021 (dk_g tcX8_whyInclusion_3 3 rfl) (dk_g tcX8_whyInclusion_3 4 rfl) rfl
theorem dX8_whyInclusion_41 : decode cX8_whyInclusion 41 = .ok (.if_icmp .ne 7, 3) := dk_2160 (dk_g tcX8_whyInclusion_3 5 rfl) (dk_g tcX8_whyInclusion_3 6 rfl) (dk_g tcX8_whyInclusion_3 7 rfl) rfl rfl
theorem dX8_whyInclusion_44 : decode cX8_whyInclusion 44 = .ok (.iconst 0, 1) := dk_1003 (dk_g tcX8_whyInclusion_3 8 rfl)
theorem dX8_whyInclusion_45 : decode cX8_whyInclusion 45 = .ok (.goto 4, 3) := dk_2167 (dk_g tcX8_whyInclusion_3 9 rfl) (dk_g tcX8_whyInclusion_3 10 rfl) (dk_g tcX8_whyInclusion_3 11 rfl) rfl rfl
theorem tcX8_whyInclusion_4 : (cX8_whyInclusion.data.toList.drop 48).take 12 = [6, 172] := by decide +kernel
theorem dX8_whyInclusion_48 : decode cX8_whyInclusion 48 = .ok (.iconst 3, 1) := dk_1006 (dk_g tcX8_whyInclusion_4 0 rfl)
theorem dX8_whyInclusion_49 : decode cX8_whyInclusion 49 = .ok (.ireturn, 1) := dk_1172 (dk_g tcX8_whyInclusion_4 1 rfl)
theorem tcX8_whyGrowth_0 : (cX8_whyGrowth.data.toList.drop 0).take 12 = [42, 29, 21, 5, 182, 0, 79, 44, 180, 0, 74, 42] := by decide +kernel
theorem dX8_whyGrowth_0 : decode cX8_whyGrowth 0 = .ok (.aload_n 0, 1) := dk_1042 (dk_g tcX8_whyGrowth_0 0 rfl)
theorem dX8_whyGrowth_1 : decode cX8_whyGrowth 1 = .ok (.iload_n 3, 1) := dk_1029 (dk_g tcX8_whyGrowth_0 1 rfl)
theorem dX8_whyGrowth_2 : decode cX8_whyGrowth 2 = .ok (.iload 5, 2) := dk_1021 (dk_g tcX8_whyGrowth_0 2 rfl) (dk_g tcX8_whyGrowth_0 3 rfl) rfl
theorem dX8_whyGrowth_4 : decode cX8_whyGrowth 4 = .ok (.invokevirtual 79, 3) := dk_1182 (dk_g tcX8_whyGrowth_0 4 rfl) (dk_g tcX8_whyGrowth_0 5 rfl) (dk_g tcX8_whyGrowth_0 6 rfl) rfl
theorem dX8_whyGrowth_7 : decode cX8_whyGrowth 7 = .ok (.aload_n 2, 1) := dk_1044 (dk_g tcX8_whyGrowth_0 7 rfl)
theorem dX8_whyGrowth_8 : decode cX8_whyGrowth 8 = .ok (.getfield 74, 3) := dk_1180 (dk_g tcX8_whyGrowth_0 8 rfl) (dk_g tcX8_whyGrowth_0 9 rfl) (dk_g tcX8_whyGrowth_0 10 rfl) rfl
theorem dX8_whyGrowth_11 : decode cX8_whyGrowth 11 = .ok (.aload_n 0, 1) := dk_1042 (dk_g tcX8_whyGrowth_0 11 rfl)
theorem tcX8_whyGrowth_1 : (cX8_whyGrowth.data.toList.drop 12).take 12 = [180, 0, 22, 159, 0, 20, 44, 180, 0, 74, 42, 180] := by decide +kernel
theorem dX8_whyGrowth_12 : decode cX8_whyGrowth 12 = .ok (.getfield 22, 3) := dk_1180 (dk_g tcX8_whyGrowth_1 0 rfl) (dk_g tcX8_whyGrowth_1 1 rfl) (dk_g tcX8_whyGrowth_1 2 rfl) rfl
theorem dX8_whyGrowth_15 : decode cX8_whyGrowth 15 = .ok (.if_icmp .eq 20, 3) := dk_2159 (dk_g tcX8_whyGrowth_1 3 rfl) (dk_g tcX8_whyGrowth_1 4 rfl) (dk_g tcX8_whyGrowth_1 5 rfl) rfl rfl
theorem dX8_whyGrowth_18 : decode cX8_whyGrowth 18 = .ok (.aload_n 2, 1) := dk_1044 (dk_g tcX8_whyGrowth_1 6 rfl)
theorem dX8_whyGrowth_19 : decode cX8_whyGrowth 19 = .ok (.getfield 74, 3) := dk_1180 (dk_g tcX8_whyGrowth_1 7 rfl) (dk_g tcX8_whyGrowth_1 8 rfl) (dk_g tcX8_whyGrowth_1 9 rfl) rfl
theorem dX8_whyGrowth_22 : decode cX8_whyGrowth 22 = .ok (.aload_n 0, 1) := dk_1042 (dk_g tcX8_whyGrowth_1 10 rfl)
theorem tcX8_whyGrowth_2 : (cX8_whyGrowth.data.toList.drop 24).take 12 = [0, 22, 162, 0, 7, 4, 167, 0, 4, 5, 172, 29] := by decide +kernel
theorem dX8_whyGrowth_23 : decode cX8_whyGrowth 23 = .ok (.getfield 22, 3) := dk_1180 (dk_g tcX8_whyGrowth_1 11 rfl) (dk_g tcX8_whyGrowth_2 0 rfl) (dk_g tcX8_whyGrowth_2 1 rfl) rfl
theorem dX8_whyGrowth_26 : decode cX8_whyGrowth 26 = .ok (.if_icmp .ge 7, 3) := dk_2162 (dk_g tcX8_whyGrowth_2 2 rfl) (dk_g tcX8_whyGrowth_2 3 rfl) (dk_g tcX8_whyGrowth_2 4 rfl) rfl rfl
theorem dX8_whyGrowth_29 : decode cX8_whyGrowth 29 = .ok (.iconst 1, 1) := dk_1004 (dk_g tcX8_whyGrowth_2 5 rfl)
theorem dX8_whyGrowth_30 : decode cX8_whyGrowth 30 = .ok (.goto 4, 3) := dk_2167 (dk_g tcX8_whyGrowth_2 6 rfl) (dk_g tcX8_whyGrowth_2 7 rfl) (dk_g tcX8_whyGrowth_2 8 rfl) rfl rfl
theorem dX8_whyGrowth_33 : decode cX8_whyGrowth 33 = .ok (.iconst 2, 1) := dk_1005 (dk_g tcX8_whyGrowth_2 9 rfl)
theorem dX8_whyGrowth_34 : decode cX8_whyGrowth 34 = .ok (.ireturn, 1) := dk_1172 (dk_g tcX8_whyGrowth_2 10 rfl)
theorem dX8_whyGrowth_35 : decode cX8_whyGrowth 35 = .ok (.iload_n 3, 1) := dk_1029 (dk_g tcX8_whyGrowth_2 11 rfl)
theorem tcX8_whyGrowth_3 : (cX8_whyGrowth.data.toList.drop 36).take 12 = [21, 5, 160, 0, 25, 21, 4, 21, 6, 160, 0, 16] := by decide +kernel
theorem dX8_whyGrowth_36 : decode cX8_whyGrowth 36 = .ok (.iload 5, 2) := dk_1021 (dk_g tcX8_whyGrowth_3 0 rfl) (dk_g tcX8_whyGrowth_3 1 rfl) rfl
theorem dX8_whyGrowth_38 : decode cX8_whyGrowth 38 = .ok (.if_icmp .ne 25, 3) := dk_2160 (dk_g tcX8_whyGrowth_3 2 rfl) (dk_g tcX8_whyGrowth_3 3 rfl) (dk_g tcX8_whyGrowth_3 4 rfl) rfl rfl
theorem dX8_whyGrowth_41 : decode cX8_whyGrowth 41 = .ok (.iload 4, 2) := dk_1021 (dk_g tcX8_whyGrowth_3 5 rfl) (dk_g tcX8_whyGrowth_3 6 rfl) rfl
theorem dX8_whyGrowth_43 : decode cX8_whyGrowth 43 = .ok (.iload 6, 2) := dk_1021 (dk_g tcX8_whyGrowth_3 7 rfl) (dk_g tcX8_whyGrowth_3 8 rfl) rfl
theorem dX8_whyGrowth_45 : decode cX8_whyGrowth 45 = .ok (.if_icmp .ne 16, 3) := dk_2160 (dk_g tcX8_whyGrowth_3 9 rfl) (dk_g tcX8_whyGrowth_3 10 rfl) (dk_g tcX8_whyGrowth_3 11 rfl) rfl rfl
theorem tcX8_whyGrowth_4 : (cX8_whyGrowth.data.toList.drop 48).take 12 = [29, 154, 0, 8, 21, 4, 154, 0, 7, 3, 167, 0] := by decide +kernel
theorem dX8_whyGrowth_48 : decode cX8_whyGrowth 48 = .ok (.iload_n 3, 1) := dk_1029 (dk_g tcX8_whyGrowth_4 0 rfl)
theorem dX8_whyGrowth_49 : decode cX8_whyGrowth 49 = .ok (.ifCond .ne 8, 3) := dk_2154 (dk_g tcX8_whyGrowth_4 1 rfl) (dk_g tcX8_whyGrowth_4 2 rfl) (dk_g tcX8_whyGrowth_4 3 rfl) rfl rfl
theorem dX8_whyGrowth_52 : decode cX8_whyGrowth 52 = .ok (.iload 4, 2) := dk_1021 (dk_g tcX8_whyGrowth_4 4 rfl) (dk_g tcX8_whyGrowth_4 5 rfl) rfl
theorem dX8_whyGrowth_54 : decode cX8_whyGrowth 54 = .ok (.ifCond .ne 7, 3) := dk_2154 (dk_g tcX8_whyGrowth_4 6 rfl) (dk_g tcX8_whyGrowth_4 7 rfl) (dk_g tcX8_whyGrowth_4 8 rfl) rfl rfl
theorem dX8_whyGrowth_57 : decode cX8_whyGrowth 57 = .ok (.iconst 0, 1) := dk_1003 (dk_g tcX8_whyGrowth_4 9 rfl)
theorem tcX8_whyGrowth_5 : (cX8_whyGrowth.data.toList.drop 60).take 12 = [4, 6, 172, 29, 154, 0, 14, 21, 4, 154, 0, 7] := by decide +kernel
theorem dX8_whyGrowth_58 : decode cX8_whyGrowth 58 = .ok (.goto 4, 3) := dk_2167 (dk_g tcX8_whyGrowth_4 10 rfl) (dk_g tcX8_whyGrowth_4 11 rfl) (dk_g tcX8_whyGrowth_5 0 rfl) rfl rfl
theorem dX8_whyGrowth_61 : decode cX8_whyGrowth 61 = .ok (.iconst 3, 1) := dk_1006 (dk_g tcX8_whyGrowth_5 1 rfl)
theorem dX8_whyGrowth_62 : decode cX8_whyGrowth 62 = .ok (.ireturn, 1) := dk_1172 (dk_g tcX8_whyGrowth_5 2 rfl)
theorem dX8_whyGrowth_63 : decode cX8_whyGrowth 63 = .ok (.iload_n 3, 1) := dk_1029 (dk_g tcX8_whyGrowth_5 3 rfl)
theorem dX8_whyGrowth_64 : decode cX8_whyGrowth 64 = .ok (.ifCond .ne 14, 3) := dk_2154 (dk_g tcX8_whyGrowth_5 4 rfl) (dk_g tcX8_whyGrowth_5 5 rfl) (dk_g tcX8_whyGrowth_5 6 rfl) rfl rfl
theorem dX8_whyGrowth_67 : decode cX8_whyGrowth 67 = .ok (.iload 4, 2) := dk_1021 (dk_g tcX8_whyGrowth_5 7 rfl) (dk_g tcX8_whyGrowth_5 8 rfl) rfl
theorem dX8_whyGrowth_69 : decode cX8_whyGrowth 69 = .ok (.ifCond .ne 7, 3) := dk_2154 (dk_g tcX8_whyGrowth_5 9 rfl) (dk_g tcX8_whyGrowth_5 10 rfl) (dk_g tcX8_whyGrowth_5 11 rfl) rfl rfl
theorem tcX8_whyGrowth_6 : (cX8_whyGrowth.data.toList.drop 72).take 12 = [3, 167, 0, 4, 6, 172, 42, 180, 0, 26, 153, 0] := by decide +kernel
theorem dX8_whyGrowth_72 : decode cX8_whyGrowth 72 = .ok (.iconst 0, 1) := dk_1003 (dk_g tcX8_whyGrowth_6 0 rfl)
theorem dX8_whyGrowth_73 : decode cX8_whyGrowth 73 = .ok (.goto 4, 3) := dk_2167 (dk_g tcX8_whyGrowth_6 1 rfl) (dk_g tcX8_whyGrowth_6 2 rfl) (dk_g tcX8_whyGrowth_6 3 rfl) rfl rfl
theorem dX8_whyGrowth_76 : decode cX8_whyGrowth 76 = .ok (.iconst 3, 1) := dk_1006 (dk_g tcX8_whyGrowth_6 4 rfl)
theorem dX8_whyGrowth_77 : decode cX8_whyGrowth 77 = .ok (.ireturn, 1) := dk_1172 (dk_g tcX8_whyGrowth_6 5 rfl)
theorem dX8_whyGrowth_78 : decode cX8_whyGrowth 78 = .ok (.aload_n 0, 1) := dk_1042 (dk_g tcX8_whyGrowth_6 6 rfl)
theorem dX8_whyGrowth_79 : decode cX8_whyGrowth 79 = .ok (.getfield 26, 3) := dk_1180 (dk_g tcX8_whyGrowth_6 7 rfl) (dk_g tcX8_whyGrowth_6 8 rfl) (dk_g tcX8_whyGrowth_6 9 rfl) rfl
theorem tcX8_whyGrowth_7 : (cX8_whyGrowth.data.toList.drop 84).take 12 = [11, 44, 3, 182, 0, 65, 167, 0, 5, 21, 4, 54] := by decide +kernel
theorem dX8_whyGrowth_82 : decode cX8_whyGrowth 82 = .ok (.ifCond .eq 11, 3) := dk_2153 (dk_g tcX8_whyGrowth_6 10 rfl) (dk_g tcX8_whyGrowth_6 11 rfl) (dk_g tcX8_whyGrowth_7 0 rfl) rfl rfl
theorem dX8_whyGrowth_85 : decode cX8_whyGrowth 85 = .ok (.aload_n 2, 1) := dk_1044 (dk_g tcX8_whyGrowth_7 1 rfl)
theorem dX8_whyGrowth_86 : decode cX8_whyGrowth 86 = .ok (.iconst 0, 1) := dk_1003 (dk_g tcX8_whyGrowth_7 2 rfl)
theorem dX8_whyGrowth_87 : decode cX8_whyGrowth 87 = .ok (.invokevirtual 65, 3) := dk_1182 (dk_g tcX8_whyGrowth_7 3 rfl) (dk_g tcX8_whyGrowth_7 4 rfl) (dk_g tcX8_whyGrowth_7 5 rfl) rfl
theorem dX8_whyGrowth_90 : decode cX8_whyGrowth 90 = .ok (.goto 5, 3) := dk_2167 (dk_g tcX8_whyGrowth_7 6 rfl) (dk_g tcX8_whyGrowth_7 7 rfl) (dk_g tcX8_whyGrowth_7 8 rfl) rfl rfl
theorem dX8_whyGrowth_93 : decode cX8_whyGrowth 93 = .ok (.iload 4, 2) := dk_1021 (dk_g tcX8_whyGrowth_7 9 rfl) (dk_g tcX8_whyGrowth_7 10 rfl) rfl
theorem tcX8_whyGrowth_8 : (cX8_whyGrowth.data.toList.drop 96).take 12 = [7, 21, 7, 54, 8, 42, 180, 0, 26, 153, 0, 7] := by decide +kernel
theorem dX8_whyGrowth_95 : decode cX8_whyGrowth 95 = .ok (.istore 7, 2) := dk_1054 (dk_g tcX8_whyGrowth_7 11 rfl) (dk_g tcX8_whyGrowth_8 0 rfl) rfl
theorem dX8_whyGrowth_97 : decode cX8_whyGrowth 97 = .ok (.iload 7, 2) := dk_1021 (dk_g tcX8_whyGrowth_8 1 rfl) (dk_g tcX8_whyGrowth_8 2 rfl) rfl
theorem dX8_whyGrowth_99 : decode cX8_whyGrowth 99 = .ok (.istore 8, 2) := dk_1054 (dk_g tcX8_whyGrowth_8 3 rfl) (dk_g tcX8_whyGrowth_8 4 rfl) rfl
theorem dX8_whyGrowth_101 : decode cX8_whyGrowth 101 = .ok (.aload_n 0, 1) := dk_1042 (dk_g tcX8_whyGrowth_8 5 rfl)
theorem dX8_whyGrowth_102 : decode cX8_whyGrowth 102 = .ok (.getfield 26, 3) := dk_1180 (dk_g tcX8_whyGrowth_8 6 rfl) (dk_g tcX8_whyGrowth_8 7 rfl) (dk_g tcX8_whyGrowth_8 8 rfl) rfl
theorem dX8_whyGrowth_105 : decode cX8_whyGrowth 105 = .ok (.ifCond .eq 7, 3) := dk_2153 (dk_g tcX8_whyGrowth_8 9 rfl) (dk_g tcX8_whyGrowth_8 10 rfl) (dk_g tcX8_whyGrowth_8 11 rfl) rfl rfl
theorem tcX8_whyGrowth_9 : (cX8_whyGrowth.data.toList.drop 108).take 12 = [4, 167, 0, 4, 3, 54, 9, 21, 9, 42, 180, 0] := by decide +kernel
theorem dX8_whyGrowth_108 : decode cX8_whyGrowth 108 = .ok (.iconst 1, 1) := dk_1004 (dk_g tcX8_whyGrowth_9 0 rfl)
theorem dX8_whyGrowth_109 : decode cX8_whyGrowth 109 = .ok (.goto 4, 3) := dk_2167 (dk_g tcX8_whyGrowth_9 1 rfl) (dk_g tcX8_whyGrowth_9 2 rfl) (dk_g tcX8_whyGrowth_9 3 rfl) rfl rfl
theorem dX8_whyGrowth_112 : decode cX8_whyGrowth 112 = .ok (.iconst 0, 1) := dk_1003 (dk_g tcX8_whyGrowth_9 4 rfl)
theorem dX8_whyGrowth_113 : decode cX8_whyGrowth 113 = .ok (.istore 9, 2) := dk_1054 (dk_g tcX8_whyGrowth_9 5 rfl) (dk_g tcX8_whyGrowth_9 6 rfl) rfl
theorem dX8_whyGrowth_115 : decode cX8_whyGrowth 115 = .ok (.iload 9, 2) := dk_1021 (dk_g tcX8_whyGrowth_9 7 rfl) (dk_g tcX8_whyGrowth_9 8 rfl) rfl
theorem dX8_whyGrowth_117 : decode cX8_whyGrowth 117 = .ok (.aload_n 0, 1) := dk_1042 (dk_g tcX8_whyGrowth_9 9 rfl)
theorem tcX8_whyGrowth_10 : (cX8_whyGrowth.data.toList.drop 120).take 12 = [22, 162, 0, 57, 42, 27, 21, 9, 21, 8, 44, 21] := by decide +kernel
theorem dX8_whyGrowth_118 : decode cX8_whyGrowth 118 = .ok (.getfield 22, 3) := dk_1180 (dk_g tcX8_whyGrowth_9 10 rfl) (dk_g tcX8_whyGrowth_9 11 rfl) (dk_g tcX8_whyGrowth_10 0 rfl) rfl
theorem dX8_whyGrowth_121 : decode cX8_whyGrowth 121 = .ok (.if_icmp .ge 57, 3) := dk_2162 (dk_g tcX8_whyGrowth_10 1 rfl) (dk_g tcX8_whyGrowth_10 2 rfl) (dk_g tcX8_whyGrowth_10 3 rfl) rfl rfl
theorem dX8_whyGrowth_124 : decode cX8_whyGrowth 124 = .ok (.aload_n 0, 1) := dk_1042 (dk_g tcX8_whyGrowth_10 4 rfl)
theorem dX8_whyGrowth_125 : decode cX8_whyGrowth 125 = .ok (.iload_n 1, 1) := dk_1027 (dk_g tcX8_whyGrowth_10 5 rfl)
theorem dX8_whyGrowth_126 : decode cX8_whyGrowth 126 = .ok (.iload 9, 2) := dk_1021 (dk_g tcX8_whyGrowth_10 6 rfl) (dk_g tcX8_whyGrowth_10 7 rfl) rfl
theorem dX8_whyGrowth_128 : decode cX8_whyGrowth 128 = .ok (.iload 8, 2) := dk_1021 (dk_g tcX8_whyGrowth_10 8 rfl) (dk_g tcX8_whyGrowth_10 9 rfl) rfl
theorem dX8_whyGrowth_130 : decode cX8_whyGrowth 130 = .ok (.aload_n 2, 1) := dk_1044 (dk_g tcX8_whyGrowth_10 10 rfl)
theorem tcX8_whyGrowth_11 : (cX8_whyGrowth.data.toList.drop 132).take 12 = [9, 182, 0, 65, 182, 0, 70, 54, 8, 42, 21, 9] := by decide +kernel
theorem dX8_whyGrowth_131 : decode cX8_whyGrowth 131 = .ok (.iload 9, 2) := dk_1021 (dk_g tcX8_whyGrowth_10 11 rfl) (dk_g tcX8_whyGrowth_11 0 rfl) rfl
theorem dX8_whyGrowth_133 : decode cX8_whyGrowth 133 = .ok (.invokevirtual 65, 3) := dk_1182 (dk_g tcX8_whyGrowth_11 1 rfl) (dk_g tcX8_whyGrowth_11 2 rfl) (dk_g tcX8_whyGrowth_11 3 rfl) rfl
theorem dX8_whyGrowth_136 : decode cX8_whyGrowth 136 = .ok (.invokevirtual 70, 3) := dk_1182 (dk_g tcX8_whyGrowth_11 4 rfl) (dk_g tcX8_whyGrowth_11 5 rfl) (dk_g tcX8_whyGrowth_11 6 rfl) rfl
theorem dX8_whyGrowth_139 : decode cX8_whyGrowth 139 = .ok (.istore 8, 2) := dk_1054 (dk_g tcX8_whyGrowth_11 7 rfl) (dk_g tcX8_whyGrowth_11 8 rfl) rfl
theorem dX8_whyGrowth_141 : decode cX8_whyGrowth 141 = .ok (.aload_n 0, 1) := dk_1042 (dk_g tcX8_whyGrowth_11 9 rfl)
theorem dX8_whyGrowth_142 : decode cX8_whyGrowth 142 = .ok (.iload 9, 2) := dk_1021 (dk_g tcX8_whyGrowth_11 10 rfl) (dk_g tcX8_whyGrowth_11 11 rfl) rfl
theorem tcX8_whyGrowth_12 : (cX8_whyGrowth.data.toList.drop 144).take 12 = [182, 0, 58, 153, 0, 21, 42, 27, 21, 9, 21, 7] := by decide +kernel
theorem dX8_whyGrowth_144 : decode cX8_whyGrowth 144 = .ok (.invokevirtual 58, 3) := dk_1182 (dk_g tcX8_whyGrowth_12 0 rfl) (dk_g tcX8_whyGrowth_12 1 rfl) (dk_g tcX8_whyGrowth_12 2 rfl) rfl
theorem dX8_whyGrowth_147 : decode cX8_whyGrowth 147 = .ok (.ifCond .eq 21, 3) := dk_2153 (dk_g tcX8_whyGrowth_12 3 rfl) (dk_g tcX8_whyGrowth_12 4 rfl) (dk_g tcX8_whyGrowth_12 5 rfl) rfl rfl
theorem dX8_whyGrowth_150 : decode cX8_whyGrowth 150 = .ok (.aload_n 0, 1) := dk_1042 (dk_g tcX8_whyGrowth_12 6 rfl)
theorem dX8_whyGrowth_151 : decode cX8_whyGrowth 151 = .ok (.iload_n 1, 1) := dk_1027 (dk_g tcX8_whyGrowth_12 7 rfl)
theorem dX8_whyGrowth_152 : decode cX8_whyGrowth 152 = .ok (.iload 9, 2) := dk_1021 (dk_g tcX8_whyGrowth_12 8 rfl) (dk_g tcX8_whyGrowth_12 9 rfl) rfl
theorem dX8_whyGrowth_154 : decode cX8_whyGrowth 154 = .ok (.iload 7, 2) := dk_1021 (dk_g tcX8_whyGrowth_12 10 rfl) (dk_g tcX8_whyGrowth_12 11 rfl) rfl
theorem tcX8_whyGrowth_13 : (cX8_whyGrowth.data.toList.drop 156).take 12 = [44, 21, 9, 182, 0, 65, 182, 0, 70, 167, 0, 5] := by decide +kernel
theorem dX8_whyGrowth_156 : decode cX8_whyGrowth 156 = .ok (.aload_n 2, 1) := dk_1044 (dk_g tcX8_whyGrowth_13 0 rfl)
theorem dX8_whyGrowth_157 : decode cX8_whyGrowth 157 = .ok (.iload 9, 2) := dk_1021 (dk_g tcX8_whyGrowth_13 1 rfl) (dk_g tcX8_whyGrowth_13 2 rfl) rfl
theorem dX8_whyGrowth_159 : decode cX8_whyGrowth 159 = .ok (.invokevirtual 65, 3) := dk_1182 (dk_g tcX8_whyGrowth_13 3 rfl) (dk_g tcX8_whyGrowth_13 4 rfl) (dk_g tcX8_whyGrowth_13 5 rfl) rfl
theorem dX8_whyGrowth_162 : decode cX8_whyGrowth 162 = .ok (.invokevirtual 70, 3) := dk_1182 (dk_g tcX8_whyGrowth_13 6 rfl) (dk_g tcX8_whyGrowth_13 7 rfl) (dk_g tcX8_whyGrowth_13 8 rfl) rfl
theorem dX8_whyGrowth_165 : decode cX8_whyGrowth 165 = .ok (.goto 5, 3) := dk_2167 (dk_g tcX8_whyGrowth_13 9 rfl) (dk_g tcX8_whyGrowth_13 10 rfl) (dk_g tcX8_whyGrowth_13 11 rfl) rfl rfl
theorem tcX8_whyGrowth_14 : (cX8_whyGrowth.data.toList.drop 168).take 12 = [21, 7, 54, 7, 132, 9, 1, 167, 255, 196, 21, 7] := by decide +kernel
theorem dX8_whyGrowth_168 : decode cX8_whyGrowth 168 = .ok (.iload 7, 2) := dk_1021 (dk_g tcX8_whyGrowth_14 0 rfl) (dk_g tcX8_whyGrowth_14 1 rfl) rfl
theorem dX8_whyGrowth_170 : decode cX8_whyGrowth 170 = .ok (.istore 7, 2) := dk_1054 (dk_g tcX8_whyGrowth_14 2 rfl) (dk_g tcX8_whyGrowth_14 3 rfl) rfl
theorem dX8_whyGrowth_172 : decode cX8_whyGrowth 172 = .ok (.iinc 9 1, 3) := dk_1132 (dk_g tcX8_whyGrowth_14 4 rfl) (dk_g tcX8_whyGrowth_14 5 rfl) (dk_g tcX8_whyGrowth_14 6 rfl) rfl (by decide +kernel)
theorem dX8_whyGrowth_175 : decode cX8_whyGrowth 175 = .ok (.goto (-60), 3) := dk_1167 (dk_g tcX8_whyGrowth_14 7 rfl) (dk_g tcX8_whyGrowth_14 8 rfl) (dk_g tcX8_whyGrowth_14 9 rfl) (by decide +kernel)
theorem dX8_whyGrowth_178 : decode cX8_whyGrowth 178 = .ok (.iload 7, 2) := dk_1021 (dk_g tcX8_whyGrowth_14 10 rfl) (dk_g tcX8_whyGrowth_14 11 rfl) rfl
theorem tcX8_whyGrowth_15 : (cX8_whyGrowth.data.toList.drop 180).take 12 = [21, 4, 159, 0, 5, 6, 172, 21, 8, 21, 6, 160] := by decide +kernel
theorem dX8_whyGrowth_180 : decode cX8_whyGrowth 180 = .ok (.iload 4, 2) := dk_1021 (dk_g tcX8_whyGrowth_15 0 rfl) (dk_g tcX8_whyGrowth_15 1 rfl) rfl
theorem dX8_whyGrowth_182 : decode cX8_whyGrowth 182 = .ok (.if_icmp .eq 5, 3) := dk_2159 (dk_g tcX8_whyGrowth_15 2 rfl) (dk_g tcX8_whyGrowth_15 3 rfl) (dk_g tcX8_whyGrowth_15 4 rfl) rfl rfl
theorem dX8_whyGrowth_185 : decode cX8_whyGrowth 185 = .ok (.iconst 3, 1) := dk_1006 (dk_g tcX8_whyGrowth_15 5 rfl)
theorem dX8_whyGrowth_186 : decode cX8_whyGrowth 186 = .ok (.ireturn, 1) := dk_1172 (dk_g tcX8_whyGrowth_15 6 rfl)
theorem dX8_whyGrowth_187 : decode cX8_whyGrowth 187 = .ok (.iload 8, 2) := dk_1021 (dk_g tcX8_whyGrowth_15 7 rfl) (dk_g tcX8_whyGrowth_15 8 rfl) rfl
theorem dX8_whyGrowth_189 : decode cX8_whyGrowth 189 = .ok (.iload 6, 2) := dk_1021 (dk_g tcX8_whyGrowth_15 9 rfl) (dk_g tcX8_whyGrowth_15 10 rfl) rfl
theorem tcX8_whyGrowth_16 : (cX8_whyGrowth.data.toList.drop 192).take 12 = [0, 7, 3, 167, 0, 4, 7, 172] := by decide +kernel
theorem dX8_whyGrowth_191 : decode cX8_whyGrowth 191 = .ok (.if_icmp .ne 7, 3) := dk_2160 (dk_g tcX8_whyGrowth_15 11 rfl) (dk_g tcX8_whyGrowth_16 0 rfl) (dk_g tcX8_whyGrowth_16 1 rfl) rfl rfl
theorem dX8_whyGrowth_194 : decode cX8_whyGrowth 194 = .ok (.iconst 0, 1) := dk_1003 (dk_g tcX8_whyGrowth_16 2 rfl)
theorem dX8_whyGrowth_195 : decode cX8_whyGrowth 195 = .ok (.goto 4, 3) := dk_2167 (dk_g tcX8_whyGrowth_16 3 rfl) (dk_g tcX8_whyGrowth_16 4 rfl) (dk_g tcX8_whyGrowth_16 5 rfl) rfl rfl
theorem dX8_whyGrowth_198 : decode cX8_whyGrowth 198 = .ok (.iconst 4, 1) := dk_1007 (dk_g tcX8_whyGrowth_16 6 rfl)
theorem dX8_whyGrowth_199 : decode cX8_whyGrowth 199 = .ok (.ireturn, 1) := dk_1172 (dk_g tcX8_whyGrowth_16 7 rfl)
theorem tcX8_clear_0 : (cX8_clear.data.toList.drop 0).take 12 = [42, 3, 181, 0, 22, 42, 3, 181, 0, 26, 177] := by decide +kernel
theorem dX8_clear_0 : decode cX8_clear 0 = .ok (.aload_n 0, 1) := dk_1042 (dk_g tcX8_clear_0 0 rfl)
theorem dX8_clear_1 : decode cX8_clear 1 = .ok (.iconst 0, 1) := dk_1003 (dk_g tcX8_clear_0 1 rfl)
theorem dX8_clear_2 : decode cX8_clear 2 = .ok (.putfield 22, 3) := dk_1181 (dk_g tcX8_clear_0 2 rfl) (dk_g tcX8_clear_0 3 rfl) (dk_g tcX8_clear_0 4 rfl) rfl
theorem dX8_clear_5 : decode cX8_clear 5 = .ok (.aload_n 0, 1) := dk_1042 (dk_g tcX8_clear_0 5 rfl)
theorem dX8_clear_6 : decode cX8_clear 6 = .ok (.iconst 0, 1) := dk_1003 (dk_g tcX8_clear_0 6 rfl)
theorem dX8_clear_7 : decode cX8_clear 7 = .ok (.putfield 26, 3) := dk_1181 (dk_g tcX8_clear_0 7 rfl) (dk_g tcX8_clear_0 8 rfl) (dk_g tcX8_clear_0 9 rfl) rfl
theorem dX8_clear_10 : decode cX8_clear 10 = .ok (.return_, 1) := dk_1177 (dk_g tcX8_clear_0 10 rfl)
theorem tcX8_put_0 : (cX8_put.data.toList.drop 0).take 12 = [42, 180, 0, 22, 155, 0, 52, 42, 180, 0, 22, 16] := by decide +kernel
theorem dX8_put_0 : decode cX8_put 0 = .ok (.aload_n 0, 1) := dk_1042 (dk_g tcX8_put_0 0 rfl)
theorem dX8_put_1 : decode cX8_put 1 = .ok (.getfield 22, 3) := dk_1180 (dk_g tcX8_put_0 1 rfl) (dk_g tcX8_put_0 2 rfl) (dk_g tcX8_put_0 3 rfl) rfl
theorem dX8_put_4 : decode cX8_put 4 = .ok (.ifCond .lt 52, 3) := dk_2155 (dk_g tcX8_put_0 4 rfl) (dk_g tcX8_put_0 5 rfl) (dk_g tcX8_put_0 6 rfl) rfl rfl
theorem dX8_put_7 : decode cX8_put 7 = .ok (.aload_n 0, 1) := dk_1042 (dk_g tcX8_put_0 7 rfl)
theorem dX8_put_8 : decode cX8_put 8 = .ok (.getfield 22, 3) := dk_1180 (dk_g tcX8_put_0 8 rfl) (dk_g tcX8_put_0 9 rfl) (dk_g tcX8_put_0 10 rfl) rfl
theorem tcX8_put_1 : (cX8_put.data.toList.drop 12).take 12 = [64, 162, 0, 43, 42, 180, 0, 9, 42, 180, 0, 22] := by decide +kernel
theorem dX8_put_11 : decode cX8_put 11 = .ok (.bipush 64, 2) := dk_1016 (dk_g tcX8_put_0 11 rfl) (dk_g tcX8_put_1 0 rfl) (by decide +kernel)
theorem dX8_put_13 : decode cX8_put 13 = .ok (.if_icmp .ge 43, 3) := dk_2162 (dk_g tcX8_put_1 1 rfl) (dk_g tcX8_put_1 2 rfl) (dk_g tcX8_put_1 3 rfl) rfl rfl
theorem dX8_put_16 : decode cX8_put 16 = .ok (.aload_n 0, 1) := dk_1042 (dk_g tcX8_put_1 4 rfl)
theorem dX8_put_17 : decode cX8_put 17 = .ok (.getfield 9, 3) := dk_1180 (dk_g tcX8_put_1 5 rfl) (dk_g tcX8_put_1 6 rfl) (dk_g tcX8_put_1 7 rfl) rfl
theorem dX8_put_20 : decode cX8_put 20 = .ok (.aload_n 0, 1) := dk_1042 (dk_g tcX8_put_1 8 rfl)
theorem dX8_put_21 : decode cX8_put 21 = .ok (.getfield 22, 3) := dk_1180 (dk_g tcX8_put_1 9 rfl) (dk_g tcX8_put_1 10 rfl) (dk_g tcX8_put_1 11 rfl) rfl
theorem tcX8_put_2 : (cX8_put.data.toList.drop 24).take 12 = [27, 79, 42, 180, 0, 15, 42, 180, 0, 22, 28, 79] := by decide +kernel
theorem dX8_put_24 : decode cX8_put 24 = .ok (.iload_n 1, 1) := dk_1027 (dk_g tcX8_put_2 0 rfl)
theorem dX8_put_25 : decode cX8_put 25 = .ok (.iastore, 1) := dk_1079 (dk_g tcX8_put_2 1 rfl)
theorem dX8_put_26 : decode cX8_put 26 = .ok (.aload_n 0, 1) := dk_1042 (dk_g tcX8_put_2 2 rfl)
theorem dX8_put_27 : decode cX8_put 27 = .ok (.getfield 15, 3) := dk_1180 (dk_g tcX8_put_2 3 rfl) (dk_g tcX8_put_2 4 rfl) (dk_g tcX8_put_2 5 rfl) rfl
theorem dX8_put_30 : decode cX8_put 30 = .ok (.aload_n 0, 1) := dk_1042 (dk_g tcX8_put_2 6 rfl)
theorem dX8_put_31 : decode cX8_put 31 = .ok (.getfield 22, 3) := dk_1180 (dk_g tcX8_put_2 7 rfl) (dk_g tcX8_put_2 8 rfl) (dk_g tcX8_put_2 9 rfl) rfl
theorem dX8_put_34 : decode cX8_put 34 = .ok (.iload_n 2, 1) := dk_1028 (dk_g tcX8_put_2 10 rfl)
theorem dX8_put_35 : decode cX8_put 35 = .ok (.iastore, 1) := dk_1079 (dk_g tcX8_put_2 11 rfl)
theorem tcX8_put_3 : (cX8_put.data.toList.drop 36).take 12 = [42, 180, 0, 18, 42, 180, 0, 22, 29, 84, 42, 89] := by decide +kernel
theorem dX8_put_36 : decode cX8_put 36 = .ok (.aload_n 0, 1) := dk_1042 (dk_g tcX8_put_3 0 rfl)
theorem dX8_put_37 : decode cX8_put 37 = .ok (.getfield 18, 3) := dk_1180 (dk_g tcX8_put_3 1 rfl) (dk_g tcX8_put_3 2 rfl) (dk_g tcX8_put_3 3 rfl) rfl
theorem dX8_put_40 : decode cX8_put 40 = .ok (.aload_n 0, 1) := dk_1042 (dk_g tcX8_put_3 4 rfl)
theorem dX8_put_41 : decode cX8_put 41 = .ok (.getfield 22, 3) := dk_1180 (dk_g tcX8_put_3 5 rfl) (dk_g tcX8_put_3 6 rfl) (dk_g tcX8_put_3 7 rfl) rfl
theorem dX8_put_44 : decode cX8_put 44 = .ok (.iload_n 3, 1) := dk_1029 (dk_g tcX8_put_3 8 rfl)
theorem dX8_put_45 : decode cX8_put 45 = .ok (.bastore, 1) := dk_1084 (dk_g tcX8_put_3 9 rfl)
theorem dX8_put_46 : decode cX8_put 46 = .ok (.aload_n 0, 1) := dk_1042 (dk_g tcX8_put_3 10 rfl)
theorem dX8_put_47 : decode cX8_put 47 = .ok (.dup, 1) := dk_1089 (dk_g tcX8_put_3 11 rfl)
theorem tcX8_put_4 : (cX8_put.data.toList.drop 48).take 12 = [180, 0, 22, 4, 96, 181, 0, 22, 177] := by decide +kernel
theorem dX8_put_48 : decode cX8_put 48 = .ok (.getfield 22, 3) := dk_1180 (dk_g tcX8_put_4 0 rfl) (dk_g tcX8_put_4 1 rfl) (dk_g tcX8_put_4 2 rfl) rfl
theorem dX8_put_51 : decode cX8_put 51 = .ok (.iconst 1, 1) := dk_1004 (dk_g tcX8_put_4 3 rfl)
theorem dX8_put_52 : decode cX8_put 52 = .ok (.iadd, 1) := dk_1096 (dk_g tcX8_put_4 4 rfl)
theorem dX8_put_53 : decode cX8_put 53 = .ok (.putfield 22, 3) := dk_1181 (dk_g tcX8_put_4 5 rfl) (dk_g tcX8_put_4 6 rfl) (dk_g tcX8_put_4 7 rfl) rfl
theorem dX8_put_56 : decode cX8_put 56 = .ok (.return_, 1) := dk_1177 (dk_g tcX8_put_4 8 rfl)
theorem tcX8_turnRound_0 : (cX8_turnRound.data.toList.drop 0).take 12 = [3, 60, 27, 42, 180, 0, 22, 5, 108, 162, 0, 117] := by decide +kernel
theorem dX8_turnRound_0 : decode cX8_turnRound 0 = .ok (.iconst 0, 1) := dk_1003 (dk_g tcX8_turnRound_0 0 rfl)
theorem dX8_turnRound_1 : decode cX8_turnRound 1 = .ok (.istore_n 1, 1) := dk_1060 (dk_g tcX8_turnRound_0 1 rfl)
theorem dX8_turnRound_2 : decode cX8_turnRound 2 = .ok (.iload_n 1, 1) := dk_1027 (dk_g tcX8_turnRound_0 2 rfl)
theorem dX8_turnRound_3 : decode cX8_turnRound 3 = .ok (.aload_n 0, 1) := dk_1042 (dk_g tcX8_turnRound_0 3 rfl)
theorem dX8_turnRound_4 : decode cX8_turnRound 4 = .ok (.getfield 22, 3) := dk_1180 (dk_g tcX8_turnRound_0 4 rfl) (dk_g tcX8_turnRound_0 5 rfl) (dk_g tcX8_turnRound_0 6 rfl) rfl
theorem dX8_turnRound_7 : decode cX8_turnRound 7 = .ok (.iconst 2, 1) := dk_1005 (dk_g tcX8_turnRound_0 7 rfl)
theorem dX8_turnRound_8 : decode cX8_turnRound 8 = .ok (.idiv, 1) := dk_1108 (dk_g tcX8_turnRound_0 8 rfl)
theorem dX8_turnRound_9 : decode cX8_turnRound 9 = .ok (.if_icmp .ge 117, 3) := dk_2162 (dk_g tcX8_turnRound_0 9 rfl) (dk_g tcX8_turnRound_0 10 rfl) (dk_g tcX8_turnRound_0 11 rfl) rfl rfl
theorem tcX8_turnRound_1 : (cX8_turnRound.data.toList.drop 12).take 12 = [42, 180, 0, 22, 4, 100, 27, 100, 61, 28, 155, 0] := by decide +kernel
theorem dX8_turnRound_12 : decode cX8_turnRound 12 = .ok (.aload_n 0, 1) := dk_1042 (dk_g tcX8_turnRound_1 0 rfl)
theorem dX8_turnRound_13 : decode cX8_turnRound 13 = .ok (.getfield 22, 3) := dk_1180 (dk_g tcX8_turnRound_1 1 rfl) (dk_g tcX8_turnRound_1 2 rfl) (dk_g tcX8_turnRound_1 3 rfl) rfl
theorem dX8_turnRound_16 : decode cX8_turnRound 16 = .ok (.iconst 1, 1) := dk_1004 (dk_g tcX8_turnRound_1 4 rfl)
theorem dX8_turnRound_17 : decode cX8_turnRound 17 = .ok (.isub, 1) := dk_1100 (dk_g tcX8_turnRound_1 5 rfl)
theorem dX8_turnRound_18 : decode cX8_turnRound 18 = .ok (.iload_n 1, 1) := dk_1027 (dk_g tcX8_turnRound_1 6 rfl)
theorem dX8_turnRound_19 : decode cX8_turnRound 19 = .ok (.isub, 1) := dk_1100 (dk_g tcX8_turnRound_1 7 rfl)
theorem dX8_turnRound_20 : decode cX8_turnRound 20 = .ok (.istore_n 2, 1) := dk_1061 (dk_g tcX8_turnRound_1 8 rfl)
theorem dX8_turnRound_21 : decode cX8_turnRound 21 = .ok (.iload_n 2, 1) := dk_1028 (dk_g tcX8_turnRound_1 9 rfl)
theorem tcX8_turnRound_2 : (cX8_turnRound.data.toList.drop 24).take 12 = [15, 28, 16, 64, 162, 0, 9, 27, 16, 64, 161, 0] := by decide +kernel
theorem dX8_turnRound_22 : decode cX8_turnRound 22 = .ok (.ifCond .lt 15, 3) := dk_2155 (dk_g tcX8_turnRound_1 10 rfl) (dk_g tcX8_turnRound_1 11 rfl) (dk_g tcX8_turnRound_2 0 rfl) rfl rfl
theorem dX8_turnRound_25 : decode cX8_turnRound 25 = .ok (.iload_n 2, 1) := dk_1028 (dk_g tcX8_turnRound_2 1 rfl)
theorem dX8_turnRound_26 : decode cX8_turnRound 26 = .ok (.bipush 64, 2) := dk_1016 (dk_g tcX8_turnRound_2 2 rfl) (dk_g tcX8_turnRound_2 3 rfl) (by decide +kernel)
theorem dX8_turnRound_28 : decode cX8_turnRound 28 = .ok (.if_icmp .ge 9, 3) := dk_2162 (dk_g tcX8_turnRound_2 4 rfl) (dk_g tcX8_turnRound_2 5 rfl) (dk_g tcX8_turnRound_2 6 rfl) rfl rfl
theorem dX8_turnRound_31 : decode cX8_turnRound 31 = .ok (.iload_n 1, 1) := dk_1027 (dk_g tcX8_turnRound_2 7 rfl)
theorem dX8_turnRound_32 : decode cX8_turnRound 32 = .ok (.bipush 64, 2) := dk_1016 (dk_g tcX8_turnRound_2 8 rfl) (dk_g tcX8_turnRound_2 9 rfl) (by decide +kernel)
theorem tcX8_turnRound_3 : (cX8_turnRound.data.toList.drop 36).take 12 = [4, 177, 42, 180, 0, 9, 27, 46, 62, 42, 180, 0] := by decide +kernel
theorem dX8_turnRound_34 : decode cX8_turnRound 34 = .ok (.if_icmp .lt 4, 3) := dk_2161 (dk_g tcX8_turnRound_2 10 rfl) (dk_g tcX8_turnRound_2 11 rfl) (dk_g tcX8_turnRound_3 0 rfl) rfl rfl
theorem dX8_turnRound_37 : decode cX8_turnRound 37 = .ok (.return_, 1) := dk_1177 (dk_g tcX8_turnRound_3 1 rfl)
theorem dX8_turnRound_38 : decode cX8_turnRound 38 = .ok (.aload_n 0, 1) := dk_1042 (dk_g tcX8_turnRound_3 2 rfl)
theorem dX8_turnRound_39 : decode cX8_turnRound 39 = .ok (.getfield 9, 3) := dk_1180 (dk_g tcX8_turnRound_3 3 rfl) (dk_g tcX8_turnRound_3 4 rfl) (dk_g tcX8_turnRound_3 5 rfl) rfl
theorem dX8_turnRound_42 : decode cX8_turnRound 42 = .ok (.iload_n 1, 1) := dk_1027 (dk_g tcX8_turnRound_3 6 rfl)
theorem dX8_turnRound_43 : decode cX8_turnRound 43 = .ok (.iaload, 1) := dk_1046 (dk_g tcX8_turnRound_3 7 rfl)
theorem dX8_turnRound_44 : decode cX8_turnRound 44 = .ok (.istore_n 3, 1) := dk_1062 (dk_g tcX8_turnRound_3 8 rfl)
theorem dX8_turnRound_45 : decode cX8_turnRound 45 = .ok (.aload_n 0, 1) := dk_1042 (dk_g tcX8_turnRound_3 9 rfl)
theorem tcX8_turnRound_4 : (cX8_turnRound.data.toList.drop 48).take 12 = [9, 27, 42, 180, 0, 9, 28, 46, 79, 42, 180, 0] := by decide +kernel
theorem dX8_turnRound_46 : decode cX8_turnRound 46 = .ok (.getfield 9, 3) := dk_1180 (dk_g tcX8_turnRound_3 10 rfl) (dk_g tcX8_turnRound_3 11 rfl) (dk_g tcX8_turnRound_4 0 rfl) rfl
theorem dX8_turnRound_49 : decode cX8_turnRound 49 = .ok (.iload_n 1, 1) := dk_1027 (dk_g tcX8_turnRound_4 1 rfl)
theorem dX8_turnRound_50 : decode cX8_turnRound 50 = .ok (.aload_n 0, 1) := dk_1042 (dk_g tcX8_turnRound_4 2 rfl)
theorem dX8_turnRound_51 : decode cX8_turnRound 51 = .ok (.getfield 9, 3) := dk_1180 (dk_g tcX8_turnRound_4 3 rfl) (dk_g tcX8_turnRound_4 4 rfl) (dk_g tcX8_turnRound_4 5 rfl) rfl
theorem dX8_turnRound_54 : decode cX8_turnRound 54 = .ok (.iload_n 2, 1) := dk_1028 (dk_g tcX8_turnRound_4 6 rfl)
theorem dX8_turnRound_55 : decode cX8_turnRound 55 = .ok (.iaload, 1) := dk_1046 (dk_g tcX8_turnRound_4 7 rfl)
theorem dX8_turnRound_56 : decode cX8_turnRound 56 = .ok (.iastore, 1) := dk_1079 (dk_g tcX8_turnRound_4 8 rfl)
theorem dX8_turnRound_57 : decode cX8_turnRound 57 = .ok (.aload_n 0, 1) := dk_1042 (dk_g tcX8_turnRound_4 9 rfl)
theorem tcX8_turnRound_5 : (cX8_turnRound.data.toList.drop 60).take 12 = [9, 28, 29, 79, 42, 180, 0, 15, 27, 46, 54, 4] := by decide +kernel
theorem dX8_turnRound_58 : decode cX8_turnRound 58 = .ok (.getfield 9, 3) := dk_1180 (dk_g tcX8_turnRound_4 10 rfl) (dk_g tcX8_turnRound_4 11 rfl) (dk_g tcX8_turnRound_5 0 rfl) rfl
theorem dX8_turnRound_61 : decode cX8_turnRound 61 = .ok (.iload_n 2, 1) := dk_1028 (dk_g tcX8_turnRound_5 1 rfl)
theorem dX8_turnRound_62 : decode cX8_turnRound 62 = .ok (.iload_n 3, 1) := dk_1029 (dk_g tcX8_turnRound_5 2 rfl)
theorem dX8_turnRound_63 : decode cX8_turnRound 63 = .ok (.iastore, 1) := dk_1079 (dk_g tcX8_turnRound_5 3 rfl)
theorem dX8_turnRound_64 : decode cX8_turnRound 64 = .ok (.aload_n 0, 1) := dk_1042 (dk_g tcX8_turnRound_5 4 rfl)
theorem dX8_turnRound_65 : decode cX8_turnRound 65 = .ok (.getfield 15, 3) := dk_1180 (dk_g tcX8_turnRound_5 5 rfl) (dk_g tcX8_turnRound_5 6 rfl) (dk_g tcX8_turnRound_5 7 rfl) rfl
theorem dX8_turnRound_68 : decode cX8_turnRound 68 = .ok (.iload_n 1, 1) := dk_1027 (dk_g tcX8_turnRound_5 8 rfl)
theorem dX8_turnRound_69 : decode cX8_turnRound 69 = .ok (.iaload, 1) := dk_1046 (dk_g tcX8_turnRound_5 9 rfl)
theorem dX8_turnRound_70 : decode cX8_turnRound 70 = .ok (.istore 4, 2) := dk_1054 (dk_g tcX8_turnRound_5 10 rfl) (dk_g tcX8_turnRound_5 11 rfl) rfl
theorem tcX8_turnRound_6 : (cX8_turnRound.data.toList.drop 72).take 12 = [42, 180, 0, 15, 27, 42, 180, 0, 15, 28, 46, 79] := by decide +kernel
theorem dX8_turnRound_72 : decode cX8_turnRound 72 = .ok (.aload_n 0, 1) := dk_1042 (dk_g tcX8_turnRound_6 0 rfl)
theorem dX8_turnRound_73 : decode cX8_turnRound 73 = .ok (.getfield 15, 3) := dk_1180 (dk_g tcX8_turnRound_6 1 rfl) (dk_g tcX8_turnRound_6 2 rfl) (dk_g tcX8_turnRound_6 3 rfl) rfl
theorem dX8_turnRound_76 : decode cX8_turnRound 76 = .ok (.iload_n 1, 1) := dk_1027 (dk_g tcX8_turnRound_6 4 rfl)
theorem dX8_turnRound_77 : decode cX8_turnRound 77 = .ok (.aload_n 0, 1) := dk_1042 (dk_g tcX8_turnRound_6 5 rfl)
theorem dX8_turnRound_78 : decode cX8_turnRound 78 = .ok (.getfield 15, 3) := dk_1180 (dk_g tcX8_turnRound_6 6 rfl) (dk_g tcX8_turnRound_6 7 rfl) (dk_g tcX8_turnRound_6 8 rfl) rfl
theorem dX8_turnRound_81 : decode cX8_turnRound 81 = .ok (.iload_n 2, 1) := dk_1028 (dk_g tcX8_turnRound_6 9 rfl)
theorem dX8_turnRound_82 : decode cX8_turnRound 82 = .ok (.iaload, 1) := dk_1046 (dk_g tcX8_turnRound_6 10 rfl)
theorem dX8_turnRound_83 : decode cX8_turnRound 83 = .ok (.iastore, 1) := dk_1079 (dk_g tcX8_turnRound_6 11 rfl)
theorem tcX8_turnRound_7 : (cX8_turnRound.data.toList.drop 84).take 12 = [42, 180, 0, 15, 28, 21, 4, 79, 42, 180, 0, 18] := by decide +kernel
theorem dX8_turnRound_84 : decode cX8_turnRound 84 = .ok (.aload_n 0, 1) := dk_1042 (dk_g tcX8_turnRound_7 0 rfl)
theorem dX8_turnRound_85 : decode cX8_turnRound 85 = .ok (.getfield 15, 3) := dk_1180 (dk_g tcX8_turnRound_7 1 rfl) (dk_g tcX8_turnRound_7 2 rfl) (dk_g tcX8_turnRound_7 3 rfl) rfl
theorem dX8_turnRound_88 : decode cX8_turnRound 88 = .ok (.iload_n 2, 1) := dk_1028 (dk_g tcX8_turnRound_7 4 rfl)
theorem dX8_turnRound_89 : decode cX8_turnRound 89 = .ok (.iload 4, 2) := dk_1021 (dk_g tcX8_turnRound_7 5 rfl) (dk_g tcX8_turnRound_7 6 rfl) rfl
theorem dX8_turnRound_91 : decode cX8_turnRound 91 = .ok (.iastore, 1) := dk_1079 (dk_g tcX8_turnRound_7 7 rfl)
theorem dX8_turnRound_92 : decode cX8_turnRound 92 = .ok (.aload_n 0, 1) := dk_1042 (dk_g tcX8_turnRound_7 8 rfl)
theorem dX8_turnRound_93 : decode cX8_turnRound 93 = .ok (.getfield 18, 3) := dk_1180 (dk_g tcX8_turnRound_7 9 rfl) (dk_g tcX8_turnRound_7 10 rfl) (dk_g tcX8_turnRound_7 11 rfl) rfl
theorem tcX8_turnRound_8 : (cX8_turnRound.data.toList.drop 96).take 12 = [27, 51, 54, 5, 42, 180, 0, 18, 27, 42, 180, 0] := by decide +kernel
theorem dX8_turnRound_96 : decode cX8_turnRound 96 = .ok (.iload_n 1, 1) := dk_1027 (dk_g tcX8_turnRound_8 0 rfl)
theorem dX8_turnRound_97 : decode cX8_turnRound 97 = .ok (.baload, 1) := dk_1051 (dk_g tcX8_turnRound_8 1 rfl)
theorem dX8_turnRound_98 : decode cX8_turnRound 98 = .ok (.istore 5, 2) := dk_1054 (dk_g tcX8_turnRound_8 2 rfl) (dk_g tcX8_turnRound_8 3 rfl) rfl
theorem dX8_turnRound_100 : decode cX8_turnRound 100 = .ok (.aload_n 0, 1) := dk_1042 (dk_g tcX8_turnRound_8 4 rfl)
theorem dX8_turnRound_101 : decode cX8_turnRound 101 = .ok (.getfield 18, 3) := dk_1180 (dk_g tcX8_turnRound_8 5 rfl) (dk_g tcX8_turnRound_8 6 rfl) (dk_g tcX8_turnRound_8 7 rfl) rfl
theorem dX8_turnRound_104 : decode cX8_turnRound 104 = .ok (.iload_n 1, 1) := dk_1027 (dk_g tcX8_turnRound_8 8 rfl)
theorem dX8_turnRound_105 : decode cX8_turnRound 105 = .ok (.aload_n 0, 1) := dk_1042 (dk_g tcX8_turnRound_8 9 rfl)
theorem tcX8_turnRound_9 : (cX8_turnRound.data.toList.drop 108).take 12 = [18, 28, 51, 84, 42, 180, 0, 18, 28, 21, 5, 84] := by decide +kernel
theorem dX8_turnRound_106 : decode cX8_turnRound 106 = .ok (.getfield 18, 3) := dk_1180 (dk_g tcX8_turnRound_8 10 rfl) (dk_g tcX8_turnRound_8 11 rfl) (dk_g tcX8_turnRound_9 0 rfl) rfl
theorem dX8_turnRound_109 : decode cX8_turnRound 109 = .ok (.iload_n 2, 1) := dk_1028 (dk_g tcX8_turnRound_9 1 rfl)
theorem dX8_turnRound_110 : decode cX8_turnRound 110 = .ok (.baload, 1) := dk_1051 (dk_g tcX8_turnRound_9 2 rfl)
theorem dX8_turnRound_111 : decode cX8_turnRound 111 = .ok (.bastore, 1) := dk_1084 (dk_g tcX8_turnRound_9 3 rfl)
theorem dX8_turnRound_112 : decode cX8_turnRound 112 = .ok (.aload_n 0, 1) := dk_1042 (dk_g tcX8_turnRound_9 4 rfl)
theorem dX8_turnRound_113 : decode cX8_turnRound 113 = .ok (.getfield 18, 3) := dk_1180 (dk_g tcX8_turnRound_9 5 rfl) (dk_g tcX8_turnRound_9 6 rfl) (dk_g tcX8_turnRound_9 7 rfl) rfl
theorem dX8_turnRound_116 : decode cX8_turnRound 116 = .ok (.iload_n 2, 1) := dk_1028 (dk_g tcX8_turnRound_9 8 rfl)
theorem dX8_turnRound_117 : decode cX8_turnRound 117 = .ok (.iload 5, 2) := dk_1021 (dk_g tcX8_turnRound_9 9 rfl) (dk_g tcX8_turnRound_9 10 rfl) rfl
theorem dX8_turnRound_119 : decode cX8_turnRound 119 = .ok (.bastore, 1) := dk_1084 (dk_g tcX8_turnRound_9 11 rfl)
theorem tcX8_turnRound_10 : (cX8_turnRound.data.toList.drop 120).take 12 = [132, 1, 1, 167, 255, 135, 177] := by decide +kernel
theorem dX8_turnRound_120 : decode cX8_turnRound 120 = .ok (.iinc 1 1, 3) := dk_1132 (dk_g tcX8_turnRound_10 0 rfl) (dk_g tcX8_turnRound_10 1 rfl) (dk_g tcX8_turnRound_10 2 rfl) rfl (by decide +kernel)
theorem dX8_turnRound_123 : decode cX8_turnRound 123 = .ok (.goto (-121), 3) := dk_1167 (dk_g tcX8_turnRound_10 3 rfl) (dk_g tcX8_turnRound_10 4 rfl) (dk_g tcX8_turnRound_10 5 rfl) (by decide +kernel)
theorem dX8_turnRound_126 : decode cX8_turnRound 126 = .ok (.return_, 1) := dk_1177 (dk_g tcX8_turnRound_10 6 rfl)
theorem tcX9_init_0 : (cX9_init.data.toList.drop 0).take 12 = [42, 183, 0, 3, 42, 16, 8, 188, 8, 181, 0, 9] := by decide +kernel
theorem dX9_init_0 : decode cX9_init 0 = .ok (.aload_n 0, 1) := dk_1042 (dk_g tcX9_init_0 0 rfl)
theorem dX9_init_1 : decode cX9_init 1 = .ok (.invokespecial 3, 3) := dk_1183 (dk_g tcX9_init_0 1 rfl) (dk_g tcX9_init_0 2 rfl) (dk_g tcX9_init_0 3 rfl) rfl
theorem dX9_init_4 : decode cX9_init 4 = .ok (.aload_n 0, 1) := dk_1042 (dk_g tcX9_init_0 4 rfl)
theorem dX9_init_5 : decode cX9_init 5 = .ok (.bipush 8, 2) := dk_1016 (dk_g tcX9_init_0 5 rfl) (dk_g tcX9_init_0 6 rfl) (by decide +kernel)
theorem dX9_init_7 : decode cX9_init 7 = .ok (.newarray .byte, 2) := dk_1188_8 (dk_g tcX9_init_0 7 rfl) (dk_g tcX9_init_0 8 rfl)
theorem dX9_init_9 : decode cX9_init 9 = .ok (.putfield 9, 3) := dk_1181 (dk_g tcX9_init_0 9 rfl) (dk_g tcX9_init_0 10 rfl) (dk_g tcX9_init_0 11 rfl) rfl
theorem tcX9_init_1 : (cX9_init.data.toList.drop 12).take 12 = [42, 3, 181, 0, 15, 177] := by decide +kernel
theorem dX9_init_12 : decode cX9_init 12 = .ok (.aload_n 0, 1) := dk_1042 (dk_g tcX9_init_1 0 rfl)
theorem dX9_init_13 : decode cX9_init 13 = .ok (.iconst 0, 1) := dk_1003 (dk_g tcX9_init_1 1 rfl)
theorem dX9_init_14 : decode cX9_init 14 = .ok (.putfield 15, 3) := dk_1181 (dk_g tcX9_init_1 2 rfl) (dk_g tcX9_init_1 3 rfl) (dk_g tcX9_init_1 4 rfl) rfl
theorem dX9_init_17 : decode cX9_init 17 = .ok (.return_, 1) := dk_1177 (dk_g tcX9_init_1 5 rfl)
theorem tcX9_clear_0 : (cX9_clear.data.toList.drop 0).take 12 = [42, 3, 181, 0, 15, 177] := by decide +kernel
theorem dX9_clear_0 : decode cX9_clear 0 = .ok (.aload_n 0, 1) := dk_1042 (dk_g tcX9_clear_0 0 rfl)
theorem dX9_clear_1 : decode cX9_clear 1 = .ok (.iconst 0, 1) := dk_1003 (dk_g tcX9_clear_0 1 rfl)
theorem dX9_clear_2 : decode cX9_clear 2 = .ok (.putfield 15, 3) := dk_1181 (dk_g tcX9_clear_0 2 rfl) (dk_g tcX9_clear_0 3 rfl) (dk_g tcX9_clear_0 4 rfl) rfl
theorem dX9_clear_5 : decode cX9_clear 5 = .ok (.return_, 1) := dk_1177 (dk_g tcX9_clear_0 5 rfl)
theorem tcX9_put_0 : (cX9_put.data.toList.drop 0).take 12 = [42, 180, 0, 15, 155, 0, 36, 42, 180, 0, 15, 42] := by decide +kernel
theorem dX9_put_0 : decode cX9_put 0 = .ok (.aload_n 0, 1) := dk_1042 (dk_g tcX9_put_0 0 rfl)
theorem dX9_put_1 : decode cX9_put 1 = .ok (.getfield 15, 3) := dk_1180 (dk_g tcX9_put_0 1 rfl) (dk_g tcX9_put_0 2 rfl) (dk_g tcX9_put_0 3 rfl) rfl
theorem dX9_put_4 : decode cX9_put 4 = .ok (.ifCond .lt 36, 3) := dk_2155 (dk_g tcX9_put_0 4 rfl) (dk_g tcX9_put_0 5 rfl) (dk_g tcX9_put_0 6 rfl) rfl rfl
theorem dX9_put_7 : decode cX9_put 7 = .ok (.aload_n 0, 1) := dk_1042 (dk_g tcX9_put_0 7 rfl)
theorem dX9_put_8 : decode cX9_put 8 = .ok (.getfield 15, 3) := dk_1180 (dk_g tcX9_put_0 8 rfl) (dk_g tcX9_put_0 9 rfl) (dk_g tcX9_put_0 10 rfl) rfl
theorem dX9_put_11 : decode cX9_put 11 = .ok (.aload_n 0, 1) := dk_1042 (dk_g tcX9_put_0 11 rfl)
theorem tcX9_put_1 : (cX9_put.data.toList.drop 12).take 12 = [180, 0, 9, 190, 162, 0, 24, 42, 180, 0, 9, 42] := by decide +kernel
theorem dX9_put_12 : decode cX9_put 12 = .ok (.getfield 9, 3) := dk_1180 (dk_g tcX9_put_1 0 rfl) (dk_g tcX9_put_1 1 rfl) (dk_g tcX9_put_1 2 rfl) rfl
theorem dX9_put_15 : decode cX9_put 15 = .ok (.arraylength, 1) := dk_1190 (dk_g tcX9_put_1 3 rfl)
theorem dX9_put_16 : decode cX9_put 16 = .ok (.if_icmp .ge 24, 3) := dk_2162 (dk_g tcX9_put_1 4 rfl) (dk_g tcX9_put_1 5 rfl) (dk_g tcX9_put_1 6 rfl) rfl rfl
theorem dX9_put_19 : decode cX9_put 19 = .ok (.aload_n 0, 1) := dk_1042 (dk_g tcX9_put_1 7 rfl)
theorem dX9_put_20 : decode cX9_put 20 = .ok (.getfield 9, 3) := dk_1180 (dk_g tcX9_put_1 8 rfl) (dk_g tcX9_put_1 9 rfl) (dk_g tcX9_put_1 10 rfl) rfl
theorem dX9_put_23 : decode cX9_put 23 = .ok (.aload_n 0, 1) := dk_1042 (dk_g tcX9_put_1 11 rfl)
theorem tcX9_put_2 : (cX9_put.data.toList.drop 24).take 12 = [180, 0, 15, 27, 145, 84, 42, 89, 180, 0, 15, 4] := by decide +kernel
theorem dX9_put_24 : decode cX9_put 24 = .ok (.getfield 15, 3) := dk_1180 (dk_g tcX9_put_2 0 rfl) (dk_g tcX9_put_2 1 rfl) (dk_g tcX9_put_2 2 rfl) rfl
theorem dX9_put_27 : decode cX9_put 27 = .ok (.iload_n 1, 1) := dk_1027 (dk_g tcX9_put_2 3 rfl)
theorem dX9_put_28 : decode cX9_put 28 = .ok (.i2b, 1) := dk_1145 (dk_g tcX9_put_2 4 rfl)
theorem dX9_put_29 : decode cX9_put 29 = .ok (.bastore, 1) := dk_1084 (dk_g tcX9_put_2 5 rfl)
theorem dX9_put_30 : decode cX9_put 30 = .ok (.aload_n 0, 1) := dk_1042 (dk_g tcX9_put_2 6 rfl)
theorem dX9_put_31 : decode cX9_put 31 = .ok (.dup, 1) := dk_1089 (dk_g tcX9_put_2 7 rfl)
theorem dX9_put_32 : decode cX9_put 32 = .ok (.getfield 15, 3) := dk_1180 (dk_g tcX9_put_2 8 rfl) (dk_g tcX9_put_2 9 rfl) (dk_g tcX9_put_2 10 rfl) rfl
theorem dX9_put_35 : decode cX9_put 35 = .ok (.iconst 1, 1) := dk_1004 (dk_g tcX9_put_2 11 rfl)
theorem tcX9_put_3 : (cX9_put.data.toList.drop 36).take 12 = [96, 181, 0, 15, 177] := by decide +kernel
theorem dX9_put_36 : decode cX9_put 36 = .ok (.iadd, 1) := dk_1096 (dk_g tcX9_put_3 0 rfl)
theorem dX9_put_37 : decode cX9_put 37 = .ok (.putfield 15, 3) := dk_1181 (dk_g tcX9_put_3 1 rfl) (dk_g tcX9_put_3 2 rfl) (dk_g tcX9_put_3 3 rfl) rfl
theorem dX9_put_40 : decode cX9_put 40 = .ok (.return_, 1) := dk_1177 (dk_g tcX9_put_3 4 rfl)
theorem tcX9_letterAt_0 : (cX9_letterAt.data.toList.drop 0).take 12 = [27, 155, 0, 29, 27, 42, 180, 0, 15, 162, 0, 21] := by decide +kernel
theorem dX9_letterAt_0 : decode cX9_letterAt 0 = .ok (.iload_n 1, 1) := dk_1027 (dk_g tcX9_letterAt_0 0 rfl)
theorem dX9_letterAt_1 : decode cX9_letterAt 1 = .ok (.ifCond .lt 29, 3) := dk_2155 (dk_g tcX9_letterAt_0 1 rfl) (dk_g tcX9_letterAt_0 2 rfl) (dk_g tcX9_letterAt_0 3 rfl) rfl rfl
theorem dX9_letterAt_4 : decode cX9_letterAt 4 = .ok (.iload_n 1, 1) := dk_1027 (dk_g tcX9_letterAt_0 4 rfl)
theorem dX9_letterAt_5 : decode cX9_letterAt 5 = .ok (.aload_n 0, 1) := dk_1042 (dk_g tcX9_letterAt_0 5 rfl)
theorem dX9_letterAt_6 : decode cX9_letterAt 6 = .ok (.getfield 15, 3) := dk_1180 (dk_g tcX9_letterAt_0 6 rfl) (dk_g tcX9_letterAt_0 7 rfl) (dk_g tcX9_letterAt_0 8 rfl) rfl
theorem dX9_letterAt_9 : decode cX9_letterAt 9 = .ok (.if_icmp .ge 21, 3) := dk_2162 (dk_g tcX9_letterAt_0 9 rfl) (dk_g tcX9_letterAt_0 10 rfl) (dk_g tcX9_letterAt_0 11 rfl) rfl rfl
theorem tcX9_letterAt_1 : (cX9_letterAt.data.toList.drop 12).take 12 = [27, 42, 180, 0, 9, 190, 162, 0, 12, 42, 180, 0] := by decide +kernel
theorem dX9_letterAt_12 : decode cX9_letterAt 12 = .ok (.iload_n 1, 1) := dk_1027 (dk_g tcX9_letterAt_1 0 rfl)
theorem dX9_letterAt_13 : decode cX9_letterAt 13 = .ok (.aload_n 0, 1) := dk_1042 (dk_g tcX9_letterAt_1 1 rfl)
theorem dX9_letterAt_14 : decode cX9_letterAt 14 = .ok (.getfield 9, 3) := dk_1180 (dk_g tcX9_letterAt_1 2 rfl) (dk_g tcX9_letterAt_1 3 rfl) (dk_g tcX9_letterAt_1 4 rfl) rfl
theorem dX9_letterAt_17 : decode cX9_letterAt 17 = .ok (.arraylength, 1) := dk_1190 (dk_g tcX9_letterAt_1 5 rfl)
theorem dX9_letterAt_18 : decode cX9_letterAt 18 = .ok (.if_icmp .ge 12, 3) := dk_2162 (dk_g tcX9_letterAt_1 6 rfl) (dk_g tcX9_letterAt_1 7 rfl) (dk_g tcX9_letterAt_1 8 rfl) rfl rfl
theorem dX9_letterAt_21 : decode cX9_letterAt 21 = .ok (.aload_n 0, 1) := dk_1042 (dk_g tcX9_letterAt_1 9 rfl)
theorem tcX9_letterAt_2 : (cX9_letterAt.data.toList.drop 24).take 12 = [9, 27, 51, 167, 0, 4, 3, 172] := by decide +kernel
theorem dX9_letterAt_22 : decode cX9_letterAt 22 = .ok (.getfield 9, 3) := dk_1180 (dk_g tcX9_letterAt_1 10 rfl) (dk_g tcX9_letterAt_1 11 rfl) (dk_g tcX9_letterAt_2 0 rfl) rfl
theorem dX9_letterAt_25 : decode cX9_letterAt 25 = .ok (.iload_n 1, 1) := dk_1027 (dk_g tcX9_letterAt_2 1 rfl)
theorem dX9_letterAt_26 : decode cX9_letterAt 26 = .ok (.baload, 1) := dk_1051 (dk_g tcX9_letterAt_2 2 rfl)
theorem dX9_letterAt_27 : decode cX9_letterAt 27 = .ok (.goto 4, 3) := dk_2167 (dk_g tcX9_letterAt_2 3 rfl) (dk_g tcX9_letterAt_2 4 rfl) (dk_g tcX9_letterAt_2 5 rfl) rfl rfl
theorem dX9_letterAt_30 : decode cX9_letterAt 30 = .ok (.iconst 0, 1) := dk_1003 (dk_g tcX9_letterAt_2 6 rfl)
theorem dX9_letterAt_31 : decode cX9_letterAt 31 = .ok (.ireturn, 1) := dk_1172 (dk_g tcX9_letterAt_2 7 rfl)
theorem tcX9_change_0 : (cX9_change.data.toList.drop 0).take 12 = [27, 155, 0, 28, 27, 42, 180, 0, 15, 162, 0, 20] := by decide +kernel
theorem dX9_change_0 : decode cX9_change 0 = .ok (.iload_n 1, 1) := dk_1027 (dk_g tcX9_change_0 0 rfl)
theorem dX9_change_1 : decode cX9_change 1 = .ok (.ifCond .lt 28, 3) := dk_2155 (dk_g tcX9_change_0 1 rfl) (dk_g tcX9_change_0 2 rfl) (dk_g tcX9_change_0 3 rfl) rfl rfl
theorem dX9_change_4 : decode cX9_change 4 = .ok (.iload_n 1, 1) := dk_1027 (dk_g tcX9_change_0 4 rfl)
theorem dX9_change_5 : decode cX9_change 5 = .ok (.aload_n 0, 1) := dk_1042 (dk_g tcX9_change_0 5 rfl)
theorem dX9_change_6 : decode cX9_change 6 = .ok (.getfield 15, 3) := dk_1180 (dk_g tcX9_change_0 6 rfl) (dk_g tcX9_change_0 7 rfl) (dk_g tcX9_change_0 8 rfl) rfl
theorem dX9_change_9 : decode cX9_change 9 = .ok (.if_icmp .ge 20, 3) := dk_2162 (dk_g tcX9_change_0 9 rfl) (dk_g tcX9_change_0 10 rfl) (dk_g tcX9_change_0 11 rfl) rfl rfl
theorem tcX9_change_1 : (cX9_change.data.toList.drop 12).take 12 = [27, 42, 180, 0, 9, 190, 162, 0, 11, 42, 180, 0] := by decide +kernel
theorem dX9_change_12 : decode cX9_change 12 = .ok (.iload_n 1, 1) := dk_1027 (dk_g tcX9_change_1 0 rfl)
theorem dX9_change_13 : decode cX9_change 13 = .ok (.aload_n 0, 1) := dk_1042 (dk_g tcX9_change_1 1 rfl)
theorem dX9_change_14 : decode cX9_change 14 = .ok (.getfield 9, 3) := dk_1180 (dk_g tcX9_change_1 2 rfl) (dk_g tcX9_change_1 3 rfl) (dk_g tcX9_change_1 4 rfl) rfl
theorem dX9_change_17 : decode cX9_change 17 = .ok (.arraylength, 1) := dk_1190 (dk_g tcX9_change_1 5 rfl)
theorem dX9_change_18 : decode cX9_change 18 = .ok (.if_icmp .ge 11, 3) := dk_2162 (dk_g tcX9_change_1 6 rfl) (dk_g tcX9_change_1 7 rfl) (dk_g tcX9_change_1 8 rfl) rfl rfl
theorem dX9_change_21 : decode cX9_change 21 = .ok (.aload_n 0, 1) := dk_1042 (dk_g tcX9_change_1 9 rfl)
theorem tcX9_change_2 : (cX9_change.data.toList.drop 24).take 12 = [9, 27, 28, 145, 84, 177] := by decide +kernel
theorem dX9_change_22 : decode cX9_change 22 = .ok (.getfield 9, 3) := dk_1180 (dk_g tcX9_change_1 10 rfl) (dk_g tcX9_change_1 11 rfl) (dk_g tcX9_change_2 0 rfl) rfl
theorem dX9_change_25 : decode cX9_change 25 = .ok (.iload_n 1, 1) := dk_1027 (dk_g tcX9_change_2 1 rfl)
theorem dX9_change_26 : decode cX9_change 26 = .ok (.iload_n 2, 1) := dk_1028 (dk_g tcX9_change_2 2 rfl)
theorem dX9_change_27 : decode cX9_change 27 = .ok (.i2b, 1) := dk_1145 (dk_g tcX9_change_2 3 rfl)
theorem dX9_change_28 : decode cX9_change 28 = .ok (.bastore, 1) := dk_1084 (dk_g tcX9_change_2 4 rfl)
theorem dX9_change_29 : decode cX9_change 29 = .ok (.return_, 1) := dk_1177 (dk_g tcX9_change_2 5 rfl)
theorem tcX9_copy_0 : (cX9_copy.data.toList.drop 0).take 12 = [42, 182, 0, 19, 3, 61, 28, 43, 180, 0, 15, 162] := by decide +kernel
theorem dX9_copy_0 : decode cX9_copy 0 = .ok (.aload_n 0, 1) := dk_1042 (dk_g tcX9_copy_0 0 rfl)
theorem dX9_copy_1 : decode cX9_copy 1 = .ok (.invokevirtual 19, 3) := dk_1182 (dk_g tcX9_copy_0 1 rfl) (dk_g tcX9_copy_0 2 rfl) (dk_g tcX9_copy_0 3 rfl) rfl
theorem dX9_copy_4 : decode cX9_copy 4 = .ok (.iconst 0, 1) := dk_1003 (dk_g tcX9_copy_0 4 rfl)
theorem dX9_copy_5 : decode cX9_copy 5 = .ok (.istore_n 2, 1) := dk_1061 (dk_g tcX9_copy_0 5 rfl)
theorem dX9_copy_6 : decode cX9_copy 6 = .ok (.iload_n 2, 1) := dk_1028 (dk_g tcX9_copy_0 6 rfl)
theorem dX9_copy_7 : decode cX9_copy 7 = .ok (.aload_n 1, 1) := dk_1043 (dk_g tcX9_copy_0 7 rfl)
theorem dX9_copy_8 : decode cX9_copy 8 = .ok (.getfield 15, 3) := dk_1180 (dk_g tcX9_copy_0 8 rfl) (dk_g tcX9_copy_0 9 rfl) (dk_g tcX9_copy_0 10 rfl) rfl
theorem tcX9_copy_1 : (cX9_copy.data.toList.drop 12).take 12 = [0, 18, 42, 43, 28, 182, 0, 22, 182, 0, 26, 132] := by decide +kernel
theorem dX9_copy_11 : decode cX9_copy 11 = .ok (.if_icmp .ge 18, 3) := dk_2162 (dk_g tcX9_copy_0 11 rfl) (dk_g tcX9_copy_1 0 rfl) (dk_g tcX9_copy_1 1 rfl) rfl rfl
theorem dX9_copy_14 : decode cX9_copy 14 = .ok (.aload_n 0, 1) := dk_1042 (dk_g tcX9_copy_1 2 rfl)
theorem dX9_copy_15 : decode cX9_copy 15 = .ok (.aload_n 1, 1) := dk_1043 (dk_g tcX9_copy_1 3 rfl)
theorem dX9_copy_16 : decode cX9_copy 16 = .ok (.iload_n 2, 1) := dk_1028 (dk_g tcX9_copy_1 4 rfl)
theorem dX9_copy_17 : decode cX9_copy 17 = .ok (.invokevirtual 22, 3) := dk_1182 (dk_g tcX9_copy_1 5 rfl) (dk_g tcX9_copy_1 6 rfl) (dk_g tcX9_copy_1 7 rfl) rfl
theorem dX9_copy_20 : decode cX9_copy 20 = .ok (.invokevirtual 26, 3) := dk_1182 (dk_g tcX9_copy_1 8 rfl) (dk_g tcX9_copy_1 9 rfl) (dk_g tcX9_copy_1 10 rfl) rfl
theorem tcX9_copy_2 : (cX9_copy.data.toList.drop 24).take 12 = [2, 1, 167, 255, 236, 177] := by decide +kernel
theorem dX9_copy_23 : decode cX9_copy 23 = .ok (.iinc 2 1, 3) := dk_1132 (dk_g tcX9_copy_1 11 rfl) (dk_g tcX9_copy_2 0 rfl) (dk_g tcX9_copy_2 1 rfl) rfl (by decide +kernel)
theorem dX9_copy_26 : decode cX9_copy 26 = .ok (.goto (-20), 3) := dk_1167 (dk_g tcX9_copy_2 2 rfl) (dk_g tcX9_copy_2 3 rfl) (dk_g tcX9_copy_2 4 rfl) (by decide +kernel)
theorem dX9_copy_29 : decode cX9_copy 29 = .ok (.return_, 1) := dk_1177 (dk_g tcX9_copy_2 5 rfl)
theorem tcX9_isLike_0 : (cX9_isLike.data.toList.drop 0).take 12 = [42, 180, 0, 15, 43, 180, 0, 15, 160, 0, 7, 4] := by decide +kernel
theorem dX9_isLike_0 : decode cX9_isLike 0 = .ok (.aload_n 0, 1) := dk_1042 (dk_g tcX9_isLike_0 0 rfl)
theorem dX9_isLike_1 : decode cX9_isLike 1 = .ok (.getfield 15, 3) := dk_1180 (dk_g tcX9_isLike_0 1 rfl) (dk_g tcX9_isLike_0 2 rfl) (dk_g tcX9_isLike_0 3 rfl) rfl
theorem dX9_isLike_4 : decode cX9_isLike 4 = .ok (.aload_n 1, 1) := dk_1043 (dk_g tcX9_isLike_0 4 rfl)
theorem dX9_isLike_5 : decode cX9_isLike 5 = .ok (.getfield 15, 3) := dk_1180 (dk_g tcX9_isLike_0 5 rfl) (dk_g tcX9_isLike_0 6 rfl) (dk_g tcX9_isLike_0 7 rfl) rfl
theorem dX9_isLike_8 : decode cX9_isLike 8 = .ok (.if_icmp .ne 7, 3) := dk_2160 (dk_g tcX9_isLike_0 8 rfl) (dk_g tcX9_isLike_0 9 rfl) (dk_g tcX9_isLike_0 10 rfl) rfl rfl
theorem dX9_isLike_11 : decode cX9_isLike 11 = .ok (.iconst 1, 1) := dk_1004 (dk_g tcX9_isLike_0 11 rfl)
theorem tcX9_isLike_1 : (cX9_isLike.data.toList.drop 12).take 12 = [167, 0, 4, 3, 61, 3, 62, 29, 42, 180, 0, 15] := by decide +kernel
theorem dX9_isLike_12 : decode cX9_isLike 12 = .ok (.goto 4, 3) := dk_2167 (dk_g tcX9_isLike_1 0 rfl) (dk_g tcX9_isLike_1 1 rfl) (dk_g tcX9_isLike_1 2 rfl) rfl rfl
theorem dX9_isLike_15 : decode cX9_isLike 15 = .ok (.iconst 0, 1) := dk_1003 (dk_g tcX9_isLike_1 3 rfl)
theorem dX9_isLike_16 : decode cX9_isLike 16 = .ok (.istore_n 2, 1) := dk_1061 (dk_g tcX9_isLike_1 4 rfl)
theorem dX9_isLike_17 : decode cX9_isLike 17 = .ok (.iconst 0, 1) := dk_1003 (dk_g tcX9_isLike_1 5 rfl)
theorem dX9_isLike_18 : decode cX9_isLike 18 = .ok (.istore_n 3, 1) := dk_1062 (dk_g tcX9_isLike_1 6 rfl)
theorem dX9_isLike_19 : decode cX9_isLike 19 = .ok (.iload_n 3, 1) := dk_1029 (dk_g tcX9_isLike_1 7 rfl)
theorem dX9_isLike_20 : decode cX9_isLike 20 = .ok (.aload_n 0, 1) := dk_1042 (dk_g tcX9_isLike_1 8 rfl)
theorem dX9_isLike_21 : decode cX9_isLike 21 = .ok (.getfield 15, 3) := dk_1180 (dk_g tcX9_isLike_1 9 rfl) (dk_g tcX9_isLike_1 10 rfl) (dk_g tcX9_isLike_1 11 rfl) rfl
theorem tcX9_isLike_2 : (cX9_isLike.data.toList.drop 24).take 12 = [162, 0, 32, 28, 153, 0, 28, 42, 29, 182, 0, 22] := by decide +kernel
theorem dX9_isLike_24 : decode cX9_isLike 24 = .ok (.if_icmp .ge 32, 3) := dk_2162 (dk_g tcX9_isLike_2 0 rfl) (dk_g tcX9_isLike_2 1 rfl) (dk_g tcX9_isLike_2 2 rfl) rfl rfl
theorem dX9_isLike_27 : decode cX9_isLike 27 = .ok (.iload_n 2, 1) := dk_1028 (dk_g tcX9_isLike_2 3 rfl)
theorem dX9_isLike_28 : decode cX9_isLike 28 = .ok (.ifCond .eq 28, 3) := dk_2153 (dk_g tcX9_isLike_2 4 rfl) (dk_g tcX9_isLike_2 5 rfl) (dk_g tcX9_isLike_2 6 rfl) rfl rfl
theorem dX9_isLike_31 : decode cX9_isLike 31 = .ok (.aload_n 0, 1) := dk_1042 (dk_g tcX9_isLike_2 7 rfl)
theorem dX9_isLike_32 : decode cX9_isLike 32 = .ok (.iload_n 3, 1) := dk_1029 (dk_g tcX9_isLike_2 8 rfl)
theorem dX9_isLike_33 : decode cX9_isLike 33 = .ok (.invokevirtual 22, 3) := dk_1182 (dk_g tcX9_isLike_2 9 rfl) (dk_g tcX9_isLike_2 10 rfl) (dk_g tcX9_isLike_2 11 rfl) rfl
theorem tcX9_isLike_3 : (cX9_isLike.data.toList.drop 36).take 12 = [43, 29, 182, 0, 22, 160, 0, 7, 4, 167, 0, 4] := by decide +kernel
theorem dX9_isLike_36 : decode cX9_isLike 36 = .ok (.aload_n 1, 1) := dk_1043 (dk_g tcX9_isLike_3 0 rfl)
theorem dX9_isLike_37 : decode cX9_isLike 37 = .ok (.iload_n 3, 1) := dk_1029 (dk_g tcX9_isLike_3 1 rfl)
theorem dX9_isLike_38 : decode cX9_isLike 38 = .ok (.invokevirtual 22, 3) := dk_1182 (dk_g tcX9_isLike_3 2 rfl) (dk_g tcX9_isLike_3 3 rfl) (dk_g tcX9_isLike_3 4 rfl) rfl
theorem dX9_isLike_41 : decode cX9_isLike 41 = .ok (.if_icmp .ne 7, 3) := dk_2160 (dk_g tcX9_isLike_3 5 rfl) (dk_g tcX9_isLike_3 6 rfl) (dk_g tcX9_isLike_3 7 rfl) rfl rfl
theorem dX9_isLike_44 : decode cX9_isLike 44 = .ok (.iconst 1, 1) := dk_1004 (dk_g tcX9_isLike_3 8 rfl)
theorem dX9_isLike_45 : decode cX9_isLike 45 = .ok (.goto 4, 3) := dk_2167 (dk_g tcX9_isLike_3 9 rfl) (dk_g tcX9_isLike_3 10 rfl) (dk_g tcX9_isLike_3 11 rfl) rfl rfl
theorem tcX9_isLike_4 : (cX9_isLike.data.toList.drop 48).take 12 = [3, 61, 132, 3, 1, 167, 255, 222, 28, 172] := by decide +kernel
theorem dX9_isLike_48 : decode cX9_isLike 48 = .ok (.iconst 0, 1) := dk_1003 (dk_g tcX9_isLike_4 0 rfl)
theorem dX9_isLike_49 : decode cX9_isLike 49 = .ok (.istore_n 2, 1) := dk_1061 (dk_g tcX9_isLike_4 1 rfl)
theorem dX9_isLike_50 : decode cX9_isLike 50 = .ok (.iinc 3 1, 3) := dk_1132 (dk_g tcX9_isLike_4 2 rfl) (dk_g tcX9_isLike_4 3 rfl) (dk_g tcX9_isLike_4 4 rfl) rfl (by decide +kernel)
theorem dX9_isLike_53 : decode cX9_isLike 53 = .ok (.goto (-34), 3) := dk_1167 (dk_g tcX9_isLike_4 5 rfl) (dk_g tcX9_isLike_4 6 rfl) (dk_g tcX9_isLike_4 7 rfl) (by decide +kernel)
theorem dX9_isLike_56 : decode cX9_isLike 56 = .ok (.iload_n 2, 1) := dk_1028 (dk_g tcX9_isLike_4 8 rfl)
theorem dX9_isLike_57 : decode cX9_isLike 57 = .ok (.ireturn, 1) := dk_1172 (dk_g tcX9_isLike_4 9 rfl)
theorem tcX9_markBy_0 : (cX9_markBy.data.toList.drop 0).take 12 = [4, 61, 3, 62, 29, 42, 180, 0, 15, 162, 0, 20] := by decide +kernel
theorem dX9_markBy_0 : decode cX9_markBy 0 = .ok (.iconst 1, 1) := dk_1004 (dk_g tcX9_markBy_0 0 rfl)
theorem dX9_markBy_1 : decode cX9_markBy 1 = .ok (.istore_n 2, 1) := dk_1061 (dk_g tcX9_markBy_0 1 rfl)
theorem dX9_markBy_2 : decode cX9_markBy 2 = .ok (.iconst 0, 1) := dk_1003 (dk_g tcX9_markBy_0 2 rfl)
theorem dX9_markBy_3 : decode cX9_markBy 3 = .ok (.istore_n 3, 1) := dk_1062 (dk_g tcX9_markBy_0 3 rfl)
theorem dX9_markBy_4 : decode cX9_markBy 4 = .ok (.iload_n 3, 1) := dk_1029 (dk_g tcX9_markBy_0 4 rfl)
theorem dX9_markBy_5 : decode cX9_markBy 5 = .ok (.aload_n 0, 1) := dk_1042 (dk_g tcX9_markBy_0 5 rfl)
theorem dX9_markBy_6 : decode cX9_markBy 6 = .ok (.getfield 15, 3) := dk_1180 (dk_g tcX9_markBy_0 6 rfl) (dk_g tcX9_markBy_0 7 rfl) (dk_g tcX9_markBy_0 8 rfl) rfl
theorem dX9_markBy_9 : decode cX9_markBy 9 = .ok (.if_icmp .ge 20, 3) := dk_2162 (dk_g tcX9_markBy_0 9 rfl) (dk_g tcX9_markBy_0 10 rfl) (dk_g tcX9_markBy_0 11 rfl) rfl rfl
theorem tcX9_markBy_1 : (cX9_markBy.data.toList.drop 12).take 12 = [27, 28, 42, 29, 182, 0, 22, 184, 0, 30, 61, 132] := by decide +kernel
theorem dX9_markBy_12 : decode cX9_markBy 12 = .ok (.iload_n 1, 1) := dk_1027 (dk_g tcX9_markBy_1 0 rfl)
theorem dX9_markBy_13 : decode cX9_markBy 13 = .ok (.iload_n 2, 1) := dk_1028 (dk_g tcX9_markBy_1 1 rfl)
theorem dX9_markBy_14 : decode cX9_markBy 14 = .ok (.aload_n 0, 1) := dk_1042 (dk_g tcX9_markBy_1 2 rfl)
theorem dX9_markBy_15 : decode cX9_markBy 15 = .ok (.iload_n 3, 1) := dk_1029 (dk_g tcX9_markBy_1 3 rfl)
theorem dX9_markBy_16 : decode cX9_markBy 16 = .ok (.invokevirtual 22, 3) := dk_1182 (dk_g tcX9_markBy_1 4 rfl) (dk_g tcX9_markBy_1 5 rfl) (dk_g tcX9_markBy_1 6 rfl) rfl
theorem dX9_markBy_19 : decode cX9_markBy 19 = .ok (.invokestatic 30, 3) := dk_1184 (dk_g tcX9_markBy_1 7 rfl) (dk_g tcX9_markBy_1 8 rfl) (dk_g tcX9_markBy_1 9 rfl) rfl
theorem dX9_markBy_22 : decode cX9_markBy 22 = .ok (.istore_n 2, 1) := dk_1061 (dk_g tcX9_markBy_1 10 rfl)
theorem tcX9_markBy_2 : (cX9_markBy.data.toList.drop 24).take 12 = [3, 1, 167, 255, 234, 28, 172] := by decide +kernel
theorem dX9_markBy_23 : decode cX9_markBy 23 = .ok (.iinc 3 1, 3) := dk_1132 (dk_g tcX9_markBy_1 11 rfl) (dk_g tcX9_markBy_2 0 rfl) (dk_g tcX9_markBy_2 1 rfl) rfl (by decide +kernel)
theorem dX9_markBy_26 : decode cX9_markBy 26 = .ok (.goto (-22), 3) := dk_1167 (dk_g tcX9_markBy_2 2 rfl) (dk_g tcX9_markBy_2 3 rfl) (dk_g tcX9_markBy_2 4 rfl) (by decide +kernel)
theorem dX9_markBy_29 : decode cX9_markBy 29 = .ok (.iload_n 2, 1) := dk_1028 (dk_g tcX9_markBy_2 5 rfl)
theorem dX9_markBy_30 : decode cX9_markBy 30 = .ok (.ireturn, 1) := dk_1172 (dk_g tcX9_markBy_2 6 rfl)
theorem tcX10_init_0 : (cX10_init.data.toList.drop 0).take 12 = [42, 183, 0, 3, 42, 18, 9, 181, 0, 10, 42, 7] := by decide +kernel
theorem dX10_init_0 : decode cX10_init 0 = .ok (.aload_n 0, 1) := dk_1042 (dk_g tcX10_init_0 0 rfl)
theorem dX10_init_1 : decode cX10_init 1 = .ok (.invokespecial 3, 3) := dk_1183 (dk_g tcX10_init_0 1 rfl) (dk_g tcX10_init_0 2 rfl) (dk_g tcX10_init_0 3 rfl) rfl
theorem dX10_init_4 : decode cX10_init 4 = .ok (.aload_n 0, 1) := dk_1042 (dk_g tcX10_init_0 4 rfl)
theorem dX10_init_5 : decode cX10_init 5 = .ok (.ldc 9, 2) := dk_1018 (dk_g tcX10_init_0 5 rfl) (dk_g tcX10_init_0 6 rfl) rfl
theorem dX10_init_7 : decode cX10_init 7 = .ok (.putfield 10, 3) := dk_1181 (dk_g tcX10_init_0 7 rfl) (dk_g tcX10_init_0 8 rfl) (dk_g tcX10_init_0 9 rfl) rfl
theorem dX10_init_10 : decode cX10_init 10 = .ok (.aload_n 0, 1) := dk_1042 (dk_g tcX10_init_0 10 rfl)
theorem dX10_init_11 : decode cX10_init 11 = .ok (.iconst 4, 1) := dk_1007 (dk_g tcX10_init_0 11 rfl)
theorem tcX10_init_1 : (cX10_init.data.toList.drop 12).take 12 = [189, 0, 16, 181, 0, 18, 42, 4, 181, 0, 22, 42] := by decide +kernel
theorem dX10_init_12 : decode cX10_init 12 = .ok (.anewarray 16, 3) := dk_1189 (dk_g tcX10_init_1 0 rfl) (dk_g tcX10_init_1 1 rfl) (dk_g tcX10_init_1 2 rfl) rfl
theorem dX10_init_15 : decode cX10_init 15 = .ok (.putfield 18, 3) := dk_1181 (dk_g tcX10_init_1 3 rfl) (dk_g tcX10_init_1 4 rfl) (dk_g tcX10_init_1 5 rfl) rfl
theorem dX10_init_18 : decode cX10_init 18 = .ok (.aload_n 0, 1) := dk_1042 (dk_g tcX10_init_1 6 rfl)
theorem dX10_init_19 : decode cX10_init 19 = .ok (.iconst 1, 1) := dk_1004 (dk_g tcX10_init_1 7 rfl)
theorem dX10_init_20 : decode cX10_init 20 = .ok (.putfield 22, 3) := dk_1181 (dk_g tcX10_init_1 8 rfl) (dk_g tcX10_init_1 9 rfl) (dk_g tcX10_init_1 10 rfl) rfl
theorem dX10_init_23 : decode cX10_init 23 = .ok (.aload_n 0, 1) := dk_1042 (dk_g tcX10_init_1 11 rfl)
theorem tcX10_init_2 : (cX10_init.data.toList.drop 24).take 12 = [16, 16, 189, 0, 25, 181, 0, 27, 42, 3, 181, 0] := by decide +kernel
theorem dX10_init_24 : decode cX10_init 24 = .ok (.bipush 16, 2) := dk_1016 (dk_g tcX10_init_2 0 rfl) (dk_g tcX10_init_2 1 rfl) (by decide +kernel)
theorem dX10_init_26 : decode cX10_init 26 = .ok (.anewarray 25, 3) := dk_1189 (dk_g tcX10_init_2 2 rfl) (dk_g tcX10_init_2 3 rfl) (dk_g tcX10_init_2 4 rfl) rfl
theorem dX10_init_29 : decode cX10_init 29 = .ok (.putfield 27, 3) := dk_1181 (dk_g tcX10_init_2 5 rfl) (dk_g tcX10_init_2 6 rfl) (dk_g tcX10_init_2 7 rfl) rfl
theorem dX10_init_32 : decode cX10_init 32 = .ok (.aload_n 0, 1) := dk_1042 (dk_g tcX10_init_2 8 rfl)
theorem dX10_init_33 : decode cX10_init 33 = .ok (.iconst 0, 1) := dk_1003 (dk_g tcX10_init_2 9 rfl)
theorem tcX10_init_3 : (cX10_init.data.toList.drop 36).take 12 = [31, 42, 7, 189, 0, 34, 181, 0, 36, 42, 3, 181] := by decide +kernel
theorem dX10_init_34 : decode cX10_init 34 = .ok (.putfield 31, 3) := dk_1181 (dk_g tcX10_init_2 10 rfl) (dk_g tcX10_init_2 11 rfl) (dk_g tcX10_init_3 0 rfl) rfl
theorem dX10_init_37 : decode cX10_init 37 = .ok (.aload_n 0, 1) := dk_1042 (dk_g tcX10_init_3 1 rfl)
theorem dX10_init_38 : decode cX10_init 38 = .ok (.iconst 4, 1) := dk_1007 (dk_g tcX10_init_3 2 rfl)
theorem dX10_init_39 : decode cX10_init 39 = .ok (.anewarray 34, 3) := dk_1189 (dk_g tcX10_init_3 3 rfl) (dk_g tcX10_init_3 4 rfl) (dk_g tcX10_init_3 5 rfl) rfl
theorem dX10_init_42 : decode cX10_init 42 = .ok (.putfield 36, 3) := dk_1181 (dk_g tcX10_init_3 6 rfl) (dk_g tcX10_init_3 7 rfl) (dk_g tcX10_init_3 8 rfl) rfl
theorem dX10_init_45 : decode cX10_init 45 = .ok (.aload_n 0, 1) := dk_1042 (dk_g tcX10_init_3 9 rfl)
theorem dX10_init_46 : decode cX10_init 46 = .ok (.iconst 0, 1) := dk_1003 (dk_g tcX10_init_3 10 rfl)
theorem tcX10_init_4 : (cX10_init.data.toList.drop 48).take 12 = [0, 40, 42, 16, 48, 188, 10, 181, 0, 43, 42, 187] := by decide +kernel
theorem dX10_init_47 : decode cX10_init 47 = .ok (.putfield 40, 3) := dk_1181 (dk_g tcX10_init_3 11 rfl) (dk_g tcX10_init_4 0 rfl) (dk_g tcX10_init_4 1 rfl) rfl
theorem dX10_init_50 : decode cX10_init 50 = .ok (.aload_n 0, 1) := dk_1042 (dk_g tcX10_init_4 2 rfl)
theorem dX10_init_51 : decode cX10_init 51 = .ok (.bipush 48, 2) := dk_1016 (dk_g tcX10_init_4 3 rfl) (dk_g tcX10_init_4 4 rfl) (by decide +kernel)
theorem dX10_init_53 : decode cX10_init 53 = .ok (.newarray .int, 2) := dk_1188_10 (dk_g tcX10_init_4 5 rfl) (dk_g tcX10_init_4 6 rfl)
theorem dX10_init_55 : decode cX10_init 55 = .ok (.putfield 43, 3) := dk_1181 (dk_g tcX10_init_4 7 rfl) (dk_g tcX10_init_4 8 rfl) (dk_g tcX10_init_4 9 rfl) rfl
theorem dX10_init_58 : decode cX10_init 58 = .ok (.aload_n 0, 1) := dk_1042 (dk_g tcX10_init_4 10 rfl)
theorem tcX10_init_5 : (cX10_init.data.toList.drop 60).take 12 = [0, 47, 89, 183, 0, 49, 181, 0, 50, 42, 187, 0] := by decide +kernel
theorem dX10_init_59 : decode cX10_init 59 = .ok (.new 47, 3) := dk_1187 (dk_g tcX10_init_4 11 rfl) (dk_g tcX10_init_5 0 rfl) (dk_g tcX10_init_5 1 rfl) rfl
theorem dX10_init_62 : decode cX10_init 62 = .ok (.dup, 1) := dk_1089 (dk_g tcX10_init_5 2 rfl)
theorem dX10_init_63 : decode cX10_init 63 = .ok (.invokespecial 49, 3) := dk_1183 (dk_g tcX10_init_5 3 rfl) (dk_g tcX10_init_5 4 rfl) (dk_g tcX10_init_5 5 rfl) rfl
theorem dX10_init_66 : decode cX10_init 66 = .ok (.putfield 50, 3) := dk_1181 (dk_g tcX10_init_5 6 rfl) (dk_g tcX10_init_5 7 rfl) (dk_g tcX10_init_5 8 rfl) rfl
theorem dX10_init_69 : decode cX10_init 69 = .ok (.aload_n 0, 1) := dk_1042 (dk_g tcX10_init_5 9 rfl)
theorem tcX10_init_6 : (cX10_init.data.toList.drop 72).take 12 = [54, 89, 183, 0, 56, 181, 0, 57, 3, 60, 27, 42] := by decide +kernel
theorem dX10_init_70 : decode cX10_init 70 = .ok (.new 54, 3) := dk_1187 (dk_g tcX10_init_5 10 rfl) (dk_g tcX10_init_5 11 rfl) (dk_g tcX10_init_6 0 rfl) rfl
theorem dX10_init_73 : decode cX10_init 73 = .ok (.dup, 1) := dk_1089 (dk_g tcX10_init_6 1 rfl)
theorem dX10_init_74 : decode cX10_init 74 = .ok (.invokespecial 56, 3) := dk_1183 (dk_g tcX10_init_6 2 rfl) (dk_g tcX10_init_6 3 rfl) (dk_g tcX10_init_6 4 rfl) rfl
theorem dX10_init_77 : decode cX10_init 77 = .ok (.putfield 57, 3) := dk_1181 (dk_g tcX10_init_6 5 rfl) (dk_g tcX10_init_6 6 rfl) (dk_g tcX10_init_6 7 rfl) rfl
theorem dX10_init_80 : decode cX10_init 80 = .ok (.iconst 0, 1) := dk_1003 (dk_g tcX10_init_6 8 rfl)
theorem dX10_init_81 : decode cX10_init 81 = .ok (.istore_n 1, 1) := dk_1060 (dk_g tcX10_init_6 9 rfl)
theorem dX10_init_82 : decode cX10_init 82 = .ok (.iload_n 1, 1) := dk_1027 (dk_g tcX10_init_6 10 rfl)
theorem dX10_init_83 : decode cX10_init 83 = .ok (.aload_n 0, 1) := dk_1042 (dk_g tcX10_init_6 11 rfl)
theorem tcX10_init_7 : (cX10_init.data.toList.drop 84).take 12 = [180, 0, 18, 190, 162, 0, 22, 42, 180, 0, 18, 27] := by decide +kernel
theorem dX10_init_84 : decode cX10_init 84 = .ok (.getfield 18, 3) := dk_1180 (dk_g tcX10_init_7 0 rfl) (dk_g tcX10_init_7 1 rfl) (dk_g tcX10_init_7 2 rfl) rfl
theorem dX10_init_87 : decode cX10_init 87 = .ok (.arraylength, 1) := dk_1190 (dk_g tcX10_init_7 3 rfl)
theorem dX10_init_88 : decode cX10_init 88 = .ok (.if_icmp .ge 22, 3) := dk_2162 (dk_g tcX10_init_7 4 rfl) (dk_g tcX10_init_7 5 rfl) (dk_g tcX10_init_7 6 rfl) rfl rfl
theorem dX10_init_91 : decode cX10_init 91 = .ok (.aload_n 0, 1) := dk_1042 (dk_g tcX10_init_7 7 rfl)
theorem dX10_init_92 : decode cX10_init 92 = .ok (.getfield 18, 3) := dk_1180 (dk_g tcX10_init_7 8 rfl) (dk_g tcX10_init_7 9 rfl) (dk_g tcX10_init_7 10 rfl) rfl
theorem dX10_init_95 : decode cX10_init 95 = .ok (.iload_n 1, 1) := dk_1027 (dk_g tcX10_init_7 11 rfl)
theorem tcX10_init_8 : (cX10_init.data.toList.drop 96).take 12 = [187, 0, 16, 89, 183, 0, 61, 83, 132, 1, 1, 167] := by decide +kernel
theorem dX10_init_96 : decode cX10_init 96 = .ok (.new 16, 3) := dk_1187 (dk_g tcX10_init_8 0 rfl) (dk_g tcX10_init_8 1 rfl) (dk_g tcX10_init_8 2 rfl) rfl
theorem dX10_init_99 : decode cX10_init 99 = .ok (.dup, 1) := dk_1089 (dk_g tcX10_init_8 3 rfl)
theorem dX10_init_100 : decode cX10_init 100 = .ok (.invokespecial 61, 3) := dk_1183 (dk_g tcX10_init_8 4 rfl) (dk_g tcX10_init_8 5 rfl) (dk_g tcX10_init_8 6 rfl) rfl
theorem dX10_init_103 : decode cX10_init 103 = .ok (.aastore, 1) := dk_1083 (dk_g tcX10_init_8 7 rfl)
theorem dX10_init_104 : decode cX10_init 104 = .ok (.iinc 1 1, 3) := dk_1132 (dk_g tcX10_init_8 8 rfl) (dk_g tcX10_init_8 9 rfl) (dk_g tcX10_init_8 10 rfl) rfl (by decide +kernel)
theorem tcX10_init_9 : (cX10_init.data.toList.drop 108).take 12 = [255, 231, 3, 60, 27, 42, 180, 0, 27, 190, 162, 0] := by decide +kernel
theorem dX10_init_107 : decode cX10_init 107 = .ok (.goto (-25), 3) := dk_1167 (dk_g tcX10_init_8 11 rfl) (dk_g tcX10_init_9 0 rfl) (dk_g tcX10_init_9 1 rfl) (by decide +kernel)
theorem dX10_init_110 : decode cX10_init 110 = .ok (.iconst 0, 1) := dk_1003 (dk_g tcX10_init_9 2 rfl)
theorem dX10_init_111 : decode cX10_init 111 = .ok (.istore_n 1, 1) := dk_1060 (dk_g tcX10_init_9 3 rfl)
theorem dX10_init_112 : decode cX10_init 112 = .ok (.iload_n 1, 1) := dk_1027 (dk_g tcX10_init_9 4 rfl)
theorem dX10_init_113 : decode cX10_init 113 = .ok (.aload_n 0, 1) := dk_1042 (dk_g tcX10_init_9 5 rfl)
theorem dX10_init_114 : decode cX10_init 114 = .ok (.getfield 27, 3) := dk_1180 (dk_g tcX10_init_9 6 rfl) (dk_g tcX10_init_9 7 rfl) (dk_g tcX10_init_9 8 rfl) rfl
theorem dX10_init_117 : decode cX10_init 117 = .ok (.arraylength, 1) := dk_1190 (dk_g tcX10_init_9 9 rfl)
theorem tcX10_init_10 : (cX10_init.data.toList.drop 120).take 12 = [22, 42, 180, 0, 27, 27, 187, 0, 25, 89, 183, 0] := by decide +kernel
theorem dX10_init_118 : decode cX10_init 118 = .ok (.if_icmp .ge 22, 3) := dk_2162 (dk_g tcX10_init_9 10 rfl) (dk_g tcX10_init_9 11 rfl) (dk_g tcX10_init_10 0 rfl) rfl rfl
theorem dX10_init_121 : decode cX10_init 121 = .ok (.aload_n 0, 1) := dk_1042 (dk_g tcX10_init_10 1 rfl)
theorem dX10_init_122 : decode cX10_init 122 = .ok (.getfield 27, 3) := dk_1180 (dk_g tcX10_init_10 2 rfl) (dk_g tcX10_init_10 3 rfl) (dk_g tcX10_init_10 4 rfl) rfl
theorem dX10_init_125 : decode cX10_init 125 = .ok (.iload_n 1, 1) := dk_1027 (dk_g tcX10_init_10 5 rfl)
theorem dX10_init_126 : decode cX10_init 126 = .ok (.new 25, 3) := dk_1187 (dk_g tcX10_init_10 6 rfl) (dk_g tcX10_init_10 7 rfl) (dk_g tcX10_init_10 8 rfl) rfl
theorem dX10_init_129 : decode cX10_init 129 = .ok (.dup, 1) := dk_1089 (dk_g tcX10_init_10 9 rfl)
theorem tcX10_init_11 : (cX10_init.data.toList.drop 132).take 12 = [62, 83, 132, 1, 1, 167, 255, 231, 3, 60, 27, 42] := by decide +kernel
theorem dX10_init_130 : decode cX10_init 130 = .ok (.invokespecial 62, 3) := dk_1183 (dk_g tcX10_init_10 10 rfl) (dk_g tcX10_init_10 11 rfl) (dk_g tcX10_init_11 0 rfl) rfl
theorem dX10_init_133 : decode cX10_init 133 = .ok (.aastore, 1) := dk_1083 (dk_g tcX10_init_11 1 rfl)
theorem dX10_init_134 : decode cX10_init 134 = .ok (.iinc 1 1, 3) := dk_1132 (dk_g tcX10_init_11 2 rfl) (dk_g tcX10_init_11 3 rfl) (dk_g tcX10_init_11 4 rfl) rfl (by decide +kernel)
theorem dX10_init_137 : decode cX10_init 137 = .ok (.goto (-25), 3) := dk_1167 (dk_g tcX10_init_11 5 rfl) (dk_g tcX10_init_11 6 rfl) (dk_g tcX10_init_11 7 rfl) (by decide +kernel)
theorem dX10_init_140 : decode cX10_init 140 = .ok (.iconst 0, 1) := dk_1003 (dk_g tcX10_init_11 8 rfl)
theorem dX10_init_141 : decode cX10_init 141 = .ok (.istore_n 1, 1) := dk_1060 (dk_g tcX10_init_11 9 rfl)
theorem dX10_init_142 : decode cX10_init 142 = .ok (.iload_n 1, 1) := dk_1027 (dk_g tcX10_init_11 10 rfl)
theorem dX10_init_143 : decode cX10_init 143 = .ok (.aload_n 0, 1) := dk_1042 (dk_g tcX10_init_11 11 rfl)
theorem tcX10_init_12 : (cX10_init.data.toList.drop 144).take 12 = [180, 0, 36, 190, 162, 0, 22, 42, 180, 0, 36, 27] := by decide +kernel
theorem dX10_init_144 : decode cX10_init 144 = .ok (.getfield 36, 3) := dk_1180 (dk_g tcX10_init_12 0 rfl) (dk_g tcX10_init_12 1 rfl) (dk_g tcX10_init_12 2 rfl) rfl
theorem dX10_init_147 : decode cX10_init 147 = .ok (.arraylength, 1) := dk_1190 (dk_g tcX10_init_12 3 rfl)
theorem dX10_init_148 : decode cX10_init 148 = .ok (.if_icmp .ge 22, 3) := dk_2162 (dk_g tcX10_init_12 4 rfl) (dk_g tcX10_init_12 5 rfl) (dk_g tcX10_init_12 6 rfl) rfl rfl
theorem dX10_init_151 : decode cX10_init 151 = .ok (.aload_n 0, 1) := dk_1042 (dk_g tcX10_init_12 7 rfl)
theorem dX10_init_152 : decode cX10_init 152 = .ok (.getfield 36, 3) := dk_1180 (dk_g tcX10_init_12 8 rfl) (dk_g tcX10_init_12 9 rfl) (dk_g tcX10_init_12 10 rfl) rfl
theorem dX10_init_155 : decode cX10_init 155 = .ok (.iload_n 1, 1) := dk_1027 (dk_g tcX10_init_12 11 rfl)
theorem tcX10_init_13 : (cX10_init.data.toList.drop 156).take 12 = [187, 0, 34, 89, 183, 0, 63, 83, 132, 1, 1, 167] := by decide +kernel
theorem dX10_init_156 : decode cX10_init 156 = .ok (.new 34, 3) := dk_1187 (dk_g tcX10_init_13 0 rfl) (dk_g tcX10_init_13 1 rfl) (dk_g tcX10_init_13 2 rfl) rfl
theorem dX10_init_159 : decode cX10_init 159 = .ok (.dup, 1) := dk_1089 (dk_g tcX10_init_13 3 rfl)
theorem dX10_init_160 : decode cX10_init 160 = .ok (.invokespecial 63, 3) := dk_1183 (dk_g tcX10_init_13 4 rfl) (dk_g tcX10_init_13 5 rfl) (dk_g tcX10_init_13 6 rfl) rfl
theorem dX10_init_163 : decode cX10_init 163 = .ok (.aastore, 1) := dk_1083 (dk_g tcX10_init_13 7 rfl)
theorem dX10_init_164 : decode cX10_init 164 = .ok (.iinc 1 1, 3) := dk_1132 (dk_g tcX10_init_13 8 rfl) (dk_g tcX10_init_13 9 rfl) (dk_g tcX10_init_13 10 rfl) rfl (by decide +kernel)
theorem tcX10_init_14 : (cX10_init.data.toList.drop 168).take 12 = [255, 231, 177] := by decide +kernel
theorem dX10_init_167 : decode cX10_init 167 = .ok (.goto (-25), 3) := dk_1167 (dk_g tcX10_init_13 11 rfl) (dk_g tcX10_init_14 0 rfl) (dk_g tcX10_init_14 1 rfl) (by decide +kernel)
theorem dX10_init_170 : decode cX10_init 170 = .ok (.return_, 1) := dk_1177 (dk_g tcX10_init_14 2 rfl)
theorem tcX10_renew_0 : (cX10_renew.data.toList.drop 0).take 12 = [42, 18, 9, 181, 0, 10, 42, 4, 181, 0, 22, 42] := by decide +kernel
theorem dX10_renew_0 : decode cX10_renew 0 = .ok (.aload_n 0, 1) := dk_1042 (dk_g tcX10_renew_0 0 rfl)
theorem dX10_renew_1 : decode cX10_renew 1 = .ok (.ldc 9, 2) := dk_1018 (dk_g tcX10_renew_0 1 rfl) (dk_g tcX10_renew_0 2 rfl) rfl
theorem dX10_renew_3 : decode cX10_renew 3 = .ok (.putfield 10, 3) := dk_1181 (dk_g tcX10_renew_0 3 rfl) (dk_g tcX10_renew_0 4 rfl) (dk_g tcX10_renew_0 5 rfl) rfl
theorem dX10_renew_6 : decode cX10_renew 6 = .ok (.aload_n 0, 1) := dk_1042 (dk_g tcX10_renew_0 6 rfl)
theorem dX10_renew_7 : decode cX10_renew 7 = .ok (.iconst 1, 1) := dk_1004 (dk_g tcX10_renew_0 7 rfl)
theorem dX10_renew_8 : decode cX10_renew 8 = .ok (.putfield 22, 3) := dk_1181 (dk_g tcX10_renew_0 8 rfl) (dk_g tcX10_renew_0 9 rfl) (dk_g tcX10_renew_0 10 rfl) rfl
theorem dX10_renew_11 : decode cX10_renew 11 = .ok (.aload_n 0, 1) := dk_1042 (dk_g tcX10_renew_0 11 rfl)
theorem tcX10_renew_1 : (cX10_renew.data.toList.drop 12).take 12 = [3, 182, 0, 64, 76, 43, 198, 0, 8, 43, 3, 181] := by decide +kernel
theorem dX10_renew_12 : decode cX10_renew 12 = .ok (.iconst 0, 1) := dk_1003 (dk_g tcX10_renew_1 0 rfl)
theorem dX10_renew_13 : decode cX10_renew 13 = .ok (.invokevirtual 64, 3) := dk_1182 (dk_g tcX10_renew_1 1 rfl) (dk_g tcX10_renew_1 2 rfl) (dk_g tcX10_renew_1 3 rfl) rfl
theorem dX10_renew_16 : decode cX10_renew 16 = .ok (.astore_n 1, 1) := dk_1076 (dk_g tcX10_renew_1 4 rfl)
theorem dX10_renew_17 : decode cX10_renew 17 = .ok (.aload_n 1, 1) := dk_1043 (dk_g tcX10_renew_1 5 rfl)
theorem dX10_renew_18 : decode cX10_renew 18 = .ok (.ifnull 8, 3) := dk_2198 (dk_g tcX10_renew_1 6 rfl) (dk_g tcX10_renew_1 7 rfl) (dk_g tcX10_renew_1 8 rfl) rfl rfl
theorem dX10_renew_21 : decode cX10_renew 21 = .ok (.aload_n 1, 1) := dk_1043 (dk_g tcX10_renew_1 9 rfl)
theorem dX10_renew_22 : decode cX10_renew 22 = .ok (.iconst 0, 1) := dk_1003 (dk_g tcX10_renew_1 10 rfl)
theorem tcX10_renew_2 : (cX10_renew.data.toList.drop 24).take 12 = [0, 68, 42, 3, 181, 0, 31, 42, 3, 181, 0, 40] := by decide +kernel
theorem dX10_renew_23 : decode cX10_renew 23 = .ok (.putfield 68, 3) := dk_1181 (dk_g tcX10_renew_1 11 rfl) (dk_g tcX10_renew_2 0 rfl) (dk_g tcX10_renew_2 1 rfl) rfl
theorem dX10_renew_26 : decode cX10_renew 26 = .ok (.aload_n 0, 1) := dk_1042 (dk_g tcX10_renew_2 2 rfl)
theorem dX10_renew_27 : decode cX10_renew 27 = .ok (.iconst 0, 1) := dk_1003 (dk_g tcX10_renew_2 3 rfl)
theorem dX10_renew_28 : decode cX10_renew 28 = .ok (.putfield 31, 3) := dk_1181 (dk_g tcX10_renew_2 4 rfl) (dk_g tcX10_renew_2 5 rfl) (dk_g tcX10_renew_2 6 rfl) rfl
theorem dX10_renew_31 : decode cX10_renew 31 = .ok (.aload_n 0, 1) := dk_1042 (dk_g tcX10_renew_2 7 rfl)
theorem dX10_renew_32 : decode cX10_renew 32 = .ok (.iconst 0, 1) := dk_1003 (dk_g tcX10_renew_2 8 rfl)
theorem dX10_renew_33 : decode cX10_renew 33 = .ok (.putfield 40, 3) := dk_1181 (dk_g tcX10_renew_2 9 rfl) (dk_g tcX10_renew_2 10 rfl) (dk_g tcX10_renew_2 11 rfl) rfl
theorem tcX10_renew_3 : (cX10_renew.data.toList.drop 36).take 12 = [3, 61, 28, 7, 162, 0, 23, 42, 28, 182, 0, 71] := by decide +kernel
theorem dX10_renew_36 : decode cX10_renew 36 = .ok (.iconst 0, 1) := dk_1003 (dk_g tcX10_renew_3 0 rfl)
theorem dX10_renew_37 : decode cX10_renew 37 = .ok (.istore_n 2, 1) := dk_1061 (dk_g tcX10_renew_3 1 rfl)
theorem dX10_renew_38 : decode cX10_renew 38 = .ok (.iload_n 2, 1) := dk_1028 (dk_g tcX10_renew_3 2 rfl)
theorem dX10_renew_39 : decode cX10_renew 39 = .ok (.iconst 4, 1) := dk_1007 (dk_g tcX10_renew_3 3 rfl)
theorem dX10_renew_40 : decode cX10_renew 40 = .ok (.if_icmp .ge 23, 3) := dk_2162 (dk_g tcX10_renew_3 4 rfl) (dk_g tcX10_renew_3 5 rfl) (dk_g tcX10_renew_3 6 rfl) rfl rfl
theorem dX10_renew_43 : decode cX10_renew 43 = .ok (.aload_n 0, 1) := dk_1042 (dk_g tcX10_renew_3 7 rfl)
theorem dX10_renew_44 : decode cX10_renew 44 = .ok (.iload_n 2, 1) := dk_1028 (dk_g tcX10_renew_3 8 rfl)
theorem dX10_renew_45 : decode cX10_renew 45 = .ok (.invokevirtual 71, 3) := dk_1182 (dk_g tcX10_renew_3 9 rfl) (dk_g tcX10_renew_3 10 rfl) (dk_g tcX10_renew_3 11 rfl) rfl
theorem tcX10_renew_4 : (cX10_renew.data.toList.drop 48).take 12 = [78, 45, 198, 0, 7, 45, 182, 0, 75, 132, 2, 1] := by decide +kernel
theorem dX10_renew_48 : decode cX10_renew 48 = .ok (.astore_n 3, 1) := dk_1078 (dk_g tcX10_renew_4 0 rfl)
theorem dX10_renew_49 : decode cX10_renew 49 = .ok (.aload_n 3, 1) := dk_1045 (dk_g tcX10_renew_4 1 rfl)
theorem dX10_renew_50 : decode cX10_renew 50 = .ok (.ifnull 7, 3) := dk_2198 (dk_g tcX10_renew_4 2 rfl) (dk_g tcX10_renew_4 3 rfl) (dk_g tcX10_renew_4 4 rfl) rfl rfl
theorem dX10_renew_53 : decode cX10_renew 53 = .ok (.aload_n 3, 1) := dk_1045 (dk_g tcX10_renew_4 5 rfl)
theorem dX10_renew_54 : decode cX10_renew 54 = .ok (.invokevirtual 75, 3) := dk_1182 (dk_g tcX10_renew_4 6 rfl) (dk_g tcX10_renew_4 7 rfl) (dk_g tcX10_renew_4 8 rfl) rfl
theorem dX10_renew_57 : decode cX10_renew 57 = .ok (.iinc 2 1, 3) := dk_1132 (dk_g tcX10_renew_4 9 rfl) (dk_g tcX10_renew_4 10 rfl) (dk_g tcX10_renew_4 11 rfl) rfl (by decide +kernel)
theorem tcX10_renew_5 : (cX10_renew.data.toList.drop 60).take 12 = [167, 255, 234, 177] := by decide +kernel
theorem dX10_renew_60 : decode cX10_renew 60 = .ok (.goto (-22), 3) := dk_1167 (dk_g tcX10_renew_5 0 rfl) (dk_g tcX10_renew_5 1 rfl) (dk_g tcX10_renew_5 2 rfl) (by decide +kernel)
theorem dX10_renew_63 : decode cX10_renew 63 = .ok (.return_, 1) := dk_1177 (dk_g tcX10_renew_5 3 rfl)
theorem tcX10_logAt_0 : (cX10_logAt.data.toList.drop 0).take 12 = [27, 155, 0, 29, 27, 42, 180, 0, 22, 162, 0, 21] := by decide +kernel
theorem dX10_logAt_0 : decode cX10_logAt 0 = .ok (.iload_n 1, 1) := dk_1027 (dk_g tcX10_logAt_0 0 rfl)
theorem dX10_logAt_1 : decode cX10_logAt 1 = .ok (.ifCond .lt 29, 3) := dk_2155 (dk_g tcX10_logAt_0 1 rfl) (dk_g tcX10_logAt_0 2 rfl) (dk_g tcX10_logAt_0 3 rfl) rfl rfl
theorem dX10_logAt_4 : decode cX10_logAt 4 = .ok (.iload_n 1, 1) := dk_1027 (dk_g tcX10_logAt_0 4 rfl)
theorem dX10_logAt_5 : decode cX10_logAt 5 = .ok (.aload_n 0, 1) := dk_1042 (dk_g tcX10_logAt_0 5 rfl)
theorem dX10_logAt_6 : decode cX10_logAt 6 = .ok (.getfield 22, 3) := dk_1180 (dk_g tcX10_logAt_0 6 rfl) (dk_g tcX10_logAt_0 7 rfl) (dk_g tcX10_logAt_0 8 rfl) rfl
theorem dX10_logAt_9 : decode cX10_logAt 9 = .ok (.if_icmp .ge 21, 3) := dk_2162 (dk_g tcX10_logAt_0 9 rfl) (dk_g tcX10_logAt_0 10 rfl) (dk_g tcX10_logAt_0 11 rfl) rfl rfl
theorem tcX10_logAt_1 : (cX10_logAt.data.toList.drop 12).take 12 = [27, 42, 180, 0, 18, 190, 162, 0, 12, 42, 180, 0] := by decide +kernel
theorem dX10_logAt_12 : decode cX10_logAt 12 = .ok (.iload_n 1, 1) := dk_1027 (dk_g tcX10_logAt_1 0 rfl)
theorem dX10_logAt_13 : decode cX10_logAt 13 = .ok (.aload_n 0, 1) := dk_1042 (dk_g tcX10_logAt_1 1 rfl)
theorem dX10_logAt_14 : decode cX10_logAt 14 = .ok (.getfield 18, 3) := dk_1180 (dk_g tcX10_logAt_1 2 rfl) (dk_g tcX10_logAt_1 3 rfl) (dk_g tcX10_logAt_1 4 rfl) rfl
theorem dX10_logAt_17 : decode cX10_logAt 17 = .ok (.arraylength, 1) := dk_1190 (dk_g tcX10_logAt_1 5 rfl)
theorem dX10_logAt_18 : decode cX10_logAt 18 = .ok (.if_icmp .ge 12, 3) := dk_2162 (dk_g tcX10_logAt_1 6 rfl) (dk_g tcX10_logAt_1 7 rfl) (dk_g tcX10_logAt_1 8 rfl) rfl rfl
theorem dX10_logAt_21 : decode cX10_logAt 21 = .ok (.aload_n 0, 1) := dk_1042 (dk_g tcX10_logAt_1 9 rfl)
theorem tcX10_logAt_2 : (cX10_logAt.data.toList.drop 24).take 12 = [18, 27, 50, 167, 0, 4, 1, 176] := by decide +kernel
theorem dX10_logAt_22 : decode cX10_logAt 22 = .ok (.getfield 18, 3) := dk_1180 (dk_g tcX10_logAt_1 10 rfl) (dk_g tcX10_logAt_1 11 rfl) (dk_g tcX10_logAt_2 0 rfl) rfl
theorem dX10_logAt_25 : decode cX10_logAt 25 = .ok (.iload_n 1, 1) := dk_1027 (dk_g tcX10_logAt_2 1 rfl)
theorem dX10_logAt_26 : decode cX10_logAt 26 = .ok (.aaload, 1) := dk_1050 (dk_g tcX10_logAt_2 2 rfl)
theorem dX10_logAt_27 : decode cX10_logAt 27 = .ok (.goto 4, 3) := dk_2167 (dk_g tcX10_logAt_2 3 rfl) (dk_g tcX10_logAt_2 4 rfl) (dk_g tcX10_logAt_2 5 rfl) rfl rfl
theorem dX10_logAt_30 : decode cX10_logAt 30 = .ok (.aconst_null, 1) := dk_1001 (dk_g tcX10_logAt_2 6 rfl)
theorem dX10_logAt_31 : decode cX10_logAt 31 = .ok (.areturn, 1) := dk_1176 (dk_g tcX10_logAt_2 7 rfl)
theorem tcX10_frozenAt_0 : (cX10_frozenAt.data.toList.drop 0).take 12 = [27, 155, 0, 29, 27, 42, 180, 0, 31, 162, 0, 21] := by decide +kernel
theorem dX10_frozenAt_0 : decode cX10_frozenAt 0 = .ok (.iload_n 1, 1) := dk_1027 (dk_g tcX10_frozenAt_0 0 rfl)
theorem dX10_frozenAt_1 : decode cX10_frozenAt 1 = .ok (.ifCond .lt 29, 3) := dk_2155 (dk_g tcX10_frozenAt_0 1 rfl) (dk_g tcX10_frozenAt_0 2 rfl) (dk_g tcX10_frozenAt_0 3 rfl) rfl rfl
theorem dX10_frozenAt_4 : decode cX10_frozenAt 4 = .ok (.iload_n 1, 1) := dk_1027 (dk_g tcX10_frozenAt_0 4 rfl)
theorem dX10_frozenAt_5 : decode cX10_frozenAt 5 = .ok (.aload_n 0, 1) := dk_1042 (dk_g tcX10_frozenAt_0 5 rfl)
theorem dX10_frozenAt_6 : decode cX10_frozenAt 6 = .ok (.getfield 31, 3) := dk_1180 (dk_g tcX10_frozenAt_0 6 rfl) (dk_g tcX10_frozenAt_0 7 rfl) (dk_g tcX10_frozenAt_0 8 rfl) rfl
theorem dX10_frozenAt_9 : decode cX10_frozenAt 9 = .ok (.if_icmp .ge 21, 3) := dk_2162 (dk_g tcX10_frozenAt_0 9 rfl) (dk_g tcX10_frozenAt_0 10 rfl) (dk_g tcX10_frozenAt_0 11 rfl) rfl rfl
theorem tcX10_frozenAt_1 : (cX10_frozenAt.data.toList.drop 12).take 12 = [27, 42, 180, 0, 27, 190, 162, 0, 12, 42, 180, 0] := by decide +kernel
theorem dX10_frozenAt_12 : decode cX10_frozenAt 12 = .ok (.iload_n 1, 1) := dk_1027 (dk_g tcX10_frozenAt_1 0 rfl)
theorem dX10_frozenAt_13 : decode cX10_frozenAt 13 = .ok (.aload_n 0, 1) := dk_1042 (dk_g tcX10_frozenAt_1 1 rfl)
theorem dX10_frozenAt_14 : decode cX10_frozenAt 14 = .ok (.getfield 27, 3) := dk_1180 (dk_g tcX10_frozenAt_1 2 rfl) (dk_g tcX10_frozenAt_1 3 rfl) (dk_g tcX10_frozenAt_1 4 rfl) rfl
theorem dX10_frozenAt_17 : decode cX10_frozenAt 17 = .ok (.arraylength, 1) := dk_1190 (dk_g tcX10_frozenAt_1 5 rfl)
theorem dX10_frozenAt_18 : decode cX10_frozenAt 18 = .ok (.if_icmp .ge 12, 3) := dk_2162 (dk_g tcX10_frozenAt_1 6 rfl) (dk_g tcX10_frozenAt_1 7 rfl) (dk_g tcX10_frozenAt_1 8 rfl) rfl rfl
theorem dX10_frozenAt_21 : decode cX10_frozenAt 21 = .ok (.aload_n 0, 1) := dk_1042 (dk_g tcX10_frozenAt_1 9 rfl)
theorem tcX10_frozenAt_2 : (cX10_frozenAt.data.toList.drop 24).take 12 = [27, 27, 50, 167, 0, 4, 1, 176] := by decide +kernel
theorem dX10_frozenAt_22 : decode cX10_frozenAt 22 = .ok (.getfield 27, 3) := dk_1180 (dk_g tcX10_frozenAt_1 10 rfl) (dk_g tcX10_frozenAt_1 11 rfl) (dk_g tcX10_frozenAt_2 0 rfl) rfl
theorem dX10_frozenAt_25 : decode cX10_frozenAt 25 = .ok (.iload_n 1, 1) := dk_1027 (dk_g tcX10_frozenAt_2 1 rfl)
theorem dX10_frozenAt_26 : decode cX10_frozenAt 26 = .ok (.aaload, 1) := dk_1050 (dk_g tcX10_frozenAt_2 2 rfl)
theorem dX10_frozenAt_27 : decode cX10_frozenAt 27 = .ok (.goto 4, 3) := dk_2167 (dk_g tcX10_frozenAt_2 3 rfl) (dk_g tcX10_frozenAt_2 4 rfl) (dk_g tcX10_frozenAt_2 5 rfl) rfl rfl
theorem dX10_frozenAt_30 : decode cX10_frozenAt 30 = .ok (.aconst_null, 1) := dk_1001 (dk_g tcX10_frozenAt_2 6 rfl)
theorem dX10_frozenAt_31 : decode cX10_frozenAt 31 = .ok (.areturn, 1) := dk_1176 (dk_g tcX10_frozenAt_2 7 rfl)
theorem tcX10_watcherAt_0 : (cX10_watcherAt.data.toList.drop 0).take 12 = [27, 155, 0, 21, 27, 42, 180, 0, 36, 190, 162, 0] := by decide +kernel
theorem dX10_watcherAt_0 : decode cX10_watcherAt 0 = .ok (.iload_n 1, 1) := dk_1027 (dk_g tcX10_watcherAt_0 0 rfl)
theorem dX10_watcherAt_1 : decode cX10_watcherAt 1 = .ok (.ifCond .lt 21, 3) := dk_2155 (dk_g tcX10_watcherAt_0 1 rfl) (dk_g tcX10_watcherAt_0 2 rfl) (dk_g tcX10_watcherAt_0 3 rfl) rfl rfl
theorem dX10_watcherAt_4 : decode cX10_watcherAt 4 = .ok (.iload_n 1, 1) := dk_1027 (dk_g tcX10_watcherAt_0 4 rfl)
theorem dX10_watcherAt_5 : decode cX10_watcherAt 5 = .ok (.aload_n 0, 1) := dk_1042 (dk_g tcX10_watcherAt_0 5 rfl)
theorem dX10_watcherAt_6 : decode cX10_watcherAt 6 = .ok (.getfield 36, 3) := dk_1180 (dk_g tcX10_watcherAt_0 6 rfl) (dk_g tcX10_watcherAt_0 7 rfl) (dk_g tcX10_watcherAt_0 8 rfl) rfl
theorem dX10_watcherAt_9 : decode cX10_watcherAt 9 = .ok (.arraylength, 1) := dk_1190 (dk_g tcX10_watcherAt_0 9 rfl)
theorem tcX10_watcherAt_1 : (cX10_watcherAt.data.toList.drop 12).take 12 = [12, 42, 180, 0, 36, 27, 50, 167, 0, 4, 1, 176] := by decide +kernel
theorem dX10_watcherAt_10 : decode cX10_watcherAt 10 = .ok (.if_icmp .ge 12, 3) := dk_2162 (dk_g tcX10_watcherAt_0 10 rfl) (dk_g tcX10_watcherAt_0 11 rfl) (dk_g tcX10_watcherAt_1 0 rfl) rfl rfl
theorem dX10_watcherAt_13 : decode cX10_watcherAt 13 = .ok (.aload_n 0, 1) := dk_1042 (dk_g tcX10_watcherAt_1 1 rfl)
theorem dX10_watcherAt_14 : decode cX10_watcherAt 14 = .ok (.getfield 36, 3) := dk_1180 (dk_g tcX10_watcherAt_1 2 rfl) (dk_g tcX10_watcherAt_1 3 rfl) (dk_g tcX10_watcherAt_1 4 rfl) rfl
theorem dX10_watcherAt_17 : decode cX10_watcherAt 17 = .ok (.iload_n 1, 1) := dk_1027 (dk_g tcX10_watcherAt_1 5 rfl)
theorem dX10_watcherAt_18 : decode cX10_watcherAt 18 = .ok (.aaload, 1) := dk_1050 (dk_g tcX10_watcherAt_1 6 rfl)
theorem dX10_watcherAt_19 : decode cX10_watcherAt 19 = .ok (.goto 4, 3) := dk_2167 (dk_g tcX10_watcherAt_1 7 rfl) (dk_g tcX10_watcherAt_1 8 rfl) (dk_g tcX10_watcherAt_1 9 rfl) rfl rfl
theorem dX10_watcherAt_22 : decode cX10_watcherAt 22 = .ok (.aconst_null, 1) := dk_1001 (dk_g tcX10_watcherAt_1 10 rfl)
theorem dX10_watcherAt_23 : decode cX10_watcherAt 23 = .ok (.areturn, 1) := dk_1176 (dk_g tcX10_watcherAt_1 11 rfl)
theorem tcX10_alarmedBits_0 : (cX10_alarmedBits.data.toList.drop 0).take 12 = [3, 60, 3, 61, 28, 7, 162, 0, 32, 42, 28, 182] := by decide +kernel
theorem dX10_alarmedBits_0 : decode cX10_alarmedBits 0 = .ok (.iconst 0, 1) := dk_1003 (dk_g tcX10_alarmedBits_0 0 rfl)
theorem dX10_alarmedBits_1 : decode cX10_alarmedBits 1 = .ok (.istore_n 1, 1) := dk_1060 (dk_g tcX10_alarmedBits_0 1 rfl)
theorem dX10_alarmedBits_2 : decode cX10_alarmedBits 2 = .ok (.iconst 0, 1) := dk_1003 (dk_g tcX10_alarmedBits_0 2 rfl)
theorem dX10_alarmedBits_3 : decode cX10_alarmedBits 3 = .ok (.istore_n 2, 1) := dk_1061 (dk_g tcX10_alarmedBits_0 3 rfl)
theorem dX10_alarmedBits_4 : decode cX10_alarmedBits 4 = .ok (.iload_n 2, 1) := dk_1028 (dk_g tcX10_alarmedBits_0 4 rfl)
theorem dX10_alarmedBits_5 : decode cX10_alarmedBits 5 = .ok (.iconst 4, 1) := dk_1007 (dk_g tcX10_alarmedBits_0 5 rfl)
theorem dX10_alarmedBits_6 : decode cX10_alarmedBits 6 = .ok (.if_icmp .ge 32, 3) := dk_2162 (dk_g tcX10_alarmedBits_0 6 rfl) (dk_g tcX10_alarmedBits_0 7 rfl) (dk_g tcX10_alarmedBits_0 8 rfl) rfl rfl
theorem dX10_alarmedBits_9 : decode cX10_alarmedBits 9 = .ok (.aload_n 0, 1) := dk_1042 (dk_g tcX10_alarmedBits_0 9 rfl)
theorem dX10_alarmedBits_10 : decode cX10_alarmedBits 10 = .ok (.iload_n 2, 1) := dk_1028 (dk_g tcX10_alarmedBits_0 10 rfl)
theorem tcX10_alarmedBits_1 : (cX10_alarmedBits.data.toList.drop 12).take 12 = [0, 71, 78, 45, 198, 0, 16, 45, 180, 0, 78, 153] := by decide +kernel
theorem dX10_alarmedBits_11 : decode cX10_alarmedBits 11 = .ok (.invokevirtual 71, 3) := dk_1182 (dk_g tcX10_alarmedBits_0 11 rfl) (dk_g tcX10_alarmedBits_1 0 rfl) (dk_g tcX10_alarmedBits_1 1 rfl) rfl
theorem dX10_alarmedBits_14 : decode cX10_alarmedBits 14 = .ok (.astore_n 3, 1) := dk_1078 (dk_g tcX10_alarmedBits_1 2 rfl)
theorem dX10_alarmedBits_15 : decode cX10_alarmedBits 15 = .ok (.aload_n 3, 1) := dk_1045 (dk_g tcX10_alarmedBits_1 3 rfl)
theorem dX10_alarmedBits_16 : decode cX10_alarmedBits 16 = .ok (.ifnull 16, 3) := dk_2198 (dk_g tcX10_alarmedBits_1 4 rfl) (dk_g tcX10_alarmedBits_1 5 rfl) (dk_g tcX10_alarmedBits_1 6 rfl) rfl rfl
theorem dX10_alarmedBits_19 : decode cX10_alarmedBits 19 = .ok (.aload_n 3, 1) := dk_1045 (dk_g tcX10_alarmedBits_1 7 rfl)
theorem dX10_alarmedBits_20 : decode cX10_alarmedBits 20 = .ok (.getfield 78, 3) := dk_1180 (dk_g tcX10_alarmedBits_1 8 rfl) (dk_g tcX10_alarmedBits_1 9 rfl) (dk_g tcX10_alarmedBits_1 10 rfl) rfl
theorem tcX10_alarmedBits_2 : (cX10_alarmedBits.data.toList.drop 24).take 12 = [0, 9, 27, 4, 28, 120, 128, 60, 132, 2, 1, 167] := by decide +kernel
theorem dX10_alarmedBits_23 : decode cX10_alarmedBits 23 = .ok (.ifCond .eq 9, 3) := dk_2153 (dk_g tcX10_alarmedBits_1 11 rfl) (dk_g tcX10_alarmedBits_2 0 rfl) (dk_g tcX10_alarmedBits_2 1 rfl) rfl rfl
theorem dX10_alarmedBits_26 : decode cX10_alarmedBits 26 = .ok (.iload_n 1, 1) := dk_1027 (dk_g tcX10_alarmedBits_2 2 rfl)
theorem dX10_alarmedBits_27 : decode cX10_alarmedBits 27 = .ok (.iconst 1, 1) := dk_1004 (dk_g tcX10_alarmedBits_2 3 rfl)
theorem dX10_alarmedBits_28 : decode cX10_alarmedBits 28 = .ok (.iload_n 2, 1) := dk_1028 (dk_g tcX10_alarmedBits_2 4 rfl)
theorem dX10_alarmedBits_29 : decode cX10_alarmedBits 29 = .ok (.ishl, 1) := dk_1120 (dk_g tcX10_alarmedBits_2 5 rfl)
theorem dX10_alarmedBits_30 : decode cX10_alarmedBits 30 = .ok (.ior, 1) := dk_1128 (dk_g tcX10_alarmedBits_2 6 rfl)
theorem dX10_alarmedBits_31 : decode cX10_alarmedBits 31 = .ok (.istore_n 1, 1) := dk_1060 (dk_g tcX10_alarmedBits_2 7 rfl)
theorem dX10_alarmedBits_32 : decode cX10_alarmedBits 32 = .ok (.iinc 2 1, 3) := dk_1132 (dk_g tcX10_alarmedBits_2 8 rfl) (dk_g tcX10_alarmedBits_2 9 rfl) (dk_g tcX10_alarmedBits_2 10 rfl) rfl (by decide +kernel)
theorem tcX10_alarmedBits_3 : (cX10_alarmedBits.data.toList.drop 36).take 12 = [255, 225, 27, 172] := by decide +kernel
theorem dX10_alarmedBits_35 : decode cX10_alarmedBits 35 = .ok (.goto (-31), 3) := dk_1167 (dk_g tcX10_alarmedBits_2 11 rfl) (dk_g tcX10_alarmedBits_3 0 rfl) (dk_g tcX10_alarmedBits_3 1 rfl) (by decide +kernel)
theorem dX10_alarmedBits_38 : decode cX10_alarmedBits 38 = .ok (.iload_n 1, 1) := dk_1027 (dk_g tcX10_alarmedBits_3 2 rfl)
theorem dX10_alarmedBits_39 : decode cX10_alarmedBits 39 = .ok (.ireturn, 1) := dk_1172 (dk_g tcX10_alarmedBits_3 3 rfl)
theorem tcX10_treeMark_0 : (cX10_treeMark.data.toList.drop 0).take 12 = [43, 198, 0, 7, 29, 157, 0, 5, 3, 172, 29, 42] := by decide +kernel
theorem dX10_treeMark_0 : decode cX10_treeMark 0 = .ok (.aload_n 1, 1) := dk_1043 (dk_g tcX10_treeMark_0 0 rfl)
theorem dX10_treeMark_1 : decode cX10_treeMark 1 = .ok (.ifnull 7, 3) := dk_2198 (dk_g tcX10_treeMark_0 1 rfl) (dk_g tcX10_treeMark_0 2 rfl) (dk_g tcX10_treeMark_0 3 rfl) rfl rfl
theorem dX10_treeMark_4 : decode cX10_treeMark 4 = .ok (.iload_n 3, 1) := dk_1029 (dk_g tcX10_treeMark_0 4 rfl)
theorem dX10_treeMark_5 : decode cX10_treeMark 5 = .ok (.ifCond .gt 5, 3) := dk_2157 (dk_g tcX10_treeMark_0 5 rfl) (dk_g tcX10_treeMark_0 6 rfl) (dk_g tcX10_treeMark_0 7 rfl) rfl rfl
theorem dX10_treeMark_8 : decode cX10_treeMark 8 = .ok (.iconst 0, 1) := dk_1003 (dk_g tcX10_treeMark_0 8 rfl)
theorem dX10_treeMark_9 : decode cX10_treeMark 9 = .ok (.ireturn, 1) := dk_1172 (dk_g tcX10_treeMark_0 9 rfl)
theorem dX10_treeMark_10 : decode cX10_treeMark 10 = .ok (.iload_n 3, 1) := dk_1029 (dk_g tcX10_treeMark_0 10 rfl)
theorem dX10_treeMark_11 : decode cX10_treeMark 11 = .ok (.aload_n 0, 1) := dk_1042 (dk_g tcX10_treeMark_0 11 rfl)
theorem tcX10_treeMark_1 : (cX10_treeMark.data.toList.drop 12).take 12 = [180, 0, 43, 190, 184, 0, 82, 54, 4, 3, 54, 5] := by decide +kernel
theorem dX10_treeMark_12 : decode cX10_treeMark 12 = .ok (.getfield 43, 3) := dk_1180 (dk_g tcX10_treeMark_1 0 rfl) (dk_g tcX10_treeMark_1 1 rfl) (dk_g tcX10_treeMark_1 2 rfl) rfl
theorem dX10_treeMark_15 : decode cX10_treeMark 15 = .ok (.arraylength, 1) := dk_1190 (dk_g tcX10_treeMark_1 3 rfl)
theorem dX10_treeMark_16 : decode cX10_treeMark 16 = .ok (.invokestatic 82, 3) := dk_1184 (dk_g tcX10_treeMark_1 4 rfl) (dk_g tcX10_treeMark_1 5 rfl) (dk_g tcX10_treeMark_1 6 rfl) rfl
theorem dX10_treeMark_19 : decode cX10_treeMark 19 = .ok (.istore 4, 2) := dk_1054 (dk_g tcX10_treeMark_1 7 rfl) (dk_g tcX10_treeMark_1 8 rfl) rfl
theorem dX10_treeMark_21 : decode cX10_treeMark 21 = .ok (.iconst 0, 1) := dk_1003 (dk_g tcX10_treeMark_1 9 rfl)
theorem dX10_treeMark_22 : decode cX10_treeMark 22 = .ok (.istore 5, 2) := dk_1054 (dk_g tcX10_treeMark_1 10 rfl) (dk_g tcX10_treeMark_1 11 rfl) rfl
theorem tcX10_treeMark_2 : (cX10_treeMark.data.toList.drop 24).take 12 = [21, 5, 21, 4, 162, 0, 24, 42, 180, 0, 43, 21] := by decide +kernel
theorem dX10_treeMark_24 : decode cX10_treeMark 24 = .ok (.iload 5, 2) := dk_1021 (dk_g tcX10_treeMark_2 0 rfl) (dk_g tcX10_treeMark_2 1 rfl) rfl
theorem dX10_treeMark_26 : decode cX10_treeMark 26 = .ok (.iload 4, 2) := dk_1021 (dk_g tcX10_treeMark_2 2 rfl) (dk_g tcX10_treeMark_2 3 rfl) rfl
theorem dX10_treeMark_28 : decode cX10_treeMark 28 = .ok (.if_icmp .ge 24, 3) := dk_2162 (dk_g tcX10_treeMark_2 4 rfl) (dk_g tcX10_treeMark_2 5 rfl) (dk_g tcX10_treeMark_2 6 rfl) rfl rfl
theorem dX10_treeMark_31 : decode cX10_treeMark 31 = .ok (.aload_n 0, 1) := dk_1042 (dk_g tcX10_treeMark_2 7 rfl)
theorem dX10_treeMark_32 : decode cX10_treeMark 32 = .ok (.getfield 43, 3) := dk_1180 (dk_g tcX10_treeMark_2 8 rfl) (dk_g tcX10_treeMark_2 9 rfl) (dk_g tcX10_treeMark_2 10 rfl) rfl
theorem tcX10_treeMark_3 : (cX10_treeMark.data.toList.drop 36).take 12 = [5, 43, 28, 21, 5, 96, 182, 0, 88, 79, 132, 5] := by decide +kernel
theorem dX10_treeMark_35 : decode cX10_treeMark 35 = .ok (.iload 5, 2) := dk_1021 (dk_g tcX10_treeMark_2 11 rfl) (dk_g tcX10_treeMark_3 0 rfl) rfl
theorem dX10_treeMark_37 : decode cX10_treeMark 37 = .ok (.aload_n 1, 1) := dk_1043 (dk_g tcX10_treeMark_3 1 rfl)
theorem dX10_treeMark_38 : decode cX10_treeMark 38 = .ok (.iload_n 2, 1) := dk_1028 (dk_g tcX10_treeMark_3 2 rfl)
theorem dX10_treeMark_39 : decode cX10_treeMark 39 = .ok (.iload 5, 2) := dk_1021 (dk_g tcX10_treeMark_3 3 rfl) (dk_g tcX10_treeMark_3 4 rfl) rfl
theorem dX10_treeMark_41 : decode cX10_treeMark 41 = .ok (.iadd, 1) := dk_1096 (dk_g tcX10_treeMark_3 5 rfl)
theorem dX10_treeMark_42 : decode cX10_treeMark 42 = .ok (.invokevirtual 88, 3) := dk_1182 (dk_g tcX10_treeMark_3 6 rfl) (dk_g tcX10_treeMark_3 7 rfl) (dk_g tcX10_treeMark_3 8 rfl) rfl
theorem dX10_treeMark_45 : decode cX10_treeMark 45 = .ok (.iastore, 1) := dk_1079 (dk_g tcX10_treeMark_3 9 rfl)
theorem tcX10_treeMark_4 : (cX10_treeMark.data.toList.drop 48).take 12 = [1, 167, 255, 231, 3, 54, 5, 21, 5, 16, 40, 162] := by decide +kernel
theorem dX10_treeMark_46 : decode cX10_treeMark 46 = .ok (.iinc 5 1, 3) := dk_1132 (dk_g tcX10_treeMark_3 10 rfl) (dk_g tcX10_treeMark_3 11 rfl) (dk_g tcX10_treeMark_4 0 rfl) rfl (by decide +kernel)
theorem dX10_treeMark_49 : decode cX10_treeMark 49 = .ok (.goto (-25), 3) := dk_1167 (dk_g tcX10_treeMark_4 1 rfl) (dk_g tcX10_treeMark_4 2 rfl) (dk_g tcX10_treeMark_4 3 rfl) (by decide +kernel)
theorem dX10_treeMark_52 : decode cX10_treeMark 52 = .ok (.iconst 0, 1) := dk_1003 (dk_g tcX10_treeMark_4 4 rfl)
theorem dX10_treeMark_53 : decode cX10_treeMark 53 = .ok (.istore 5, 2) := dk_1054 (dk_g tcX10_treeMark_4 5 rfl) (dk_g tcX10_treeMark_4 6 rfl) rfl
theorem dX10_treeMark_55 : decode cX10_treeMark 55 = .ok (.iload 5, 2) := dk_1021 (dk_g tcX10_treeMark_4 7 rfl) (dk_g tcX10_treeMark_4 8 rfl) rfl
theorem dX10_treeMark_57 : decode cX10_treeMark 57 = .ok (.bipush 40, 2) := dk_1016 (dk_g tcX10_treeMark_4 9 rfl) (dk_g tcX10_treeMark_4 10 rfl) (by decide +kernel)
theorem tcX10_treeMark_5 : (cX10_treeMark.data.toList.drop 60).take 12 = [0, 102, 21, 4, 4, 164, 0, 96, 21, 4, 5, 108] := by decide +kernel
theorem dX10_treeMark_59 : decode cX10_treeMark 59 = .ok (.if_icmp .ge 102, 3) := dk_2162 (dk_g tcX10_treeMark_4 11 rfl) (dk_g tcX10_treeMark_5 0 rfl) (dk_g tcX10_treeMark_5 1 rfl) rfl rfl
theorem dX10_treeMark_62 : decode cX10_treeMark 62 = .ok (.iload 4, 2) := dk_1021 (dk_g tcX10_treeMark_5 2 rfl) (dk_g tcX10_treeMark_5 3 rfl) rfl
theorem dX10_treeMark_64 : decode cX10_treeMark 64 = .ok (.iconst 1, 1) := dk_1004 (dk_g tcX10_treeMark_5 4 rfl)
theorem dX10_treeMark_65 : decode cX10_treeMark 65 = .ok (.if_icmp .le 96, 3) := dk_2164 (dk_g tcX10_treeMark_5 5 rfl) (dk_g tcX10_treeMark_5 6 rfl) (dk_g tcX10_treeMark_5 7 rfl) rfl rfl
theorem dX10_treeMark_68 : decode cX10_treeMark 68 = .ok (.iload 4, 2) := dk_1021 (dk_g tcX10_treeMark_5 8 rfl) (dk_g tcX10_treeMark_5 9 rfl) rfl
theorem dX10_treeMark_70 : decode cX10_treeMark 70 = .ok (.iconst 2, 1) := dk_1005 (dk_g tcX10_treeMark_5 10 rfl)
theorem dX10_treeMark_71 : decode cX10_treeMark 71 = .ok (.idiv, 1) := dk_1108 (dk_g tcX10_treeMark_5 11 rfl)
theorem tcX10_treeMark_6 : (cX10_treeMark.data.toList.drop 72).take 12 = [54, 6, 3, 54, 7, 21, 7, 21, 6, 162, 0, 43] := by decide +kernel
theorem dX10_treeMark_72 : decode cX10_treeMark 72 = .ok (.istore 6, 2) := dk_1054 (dk_g tcX10_treeMark_6 0 rfl) (dk_g tcX10_treeMark_6 1 rfl) rfl
theorem dX10_treeMark_74 : decode cX10_treeMark 74 = .ok (.iconst 0, 1) := dk_1003 (dk_g tcX10_treeMark_6 2 rfl)
theorem dX10_treeMark_75 : decode cX10_treeMark 75 = .ok (.istore 7, 2) := dk_1054 (dk_g tcX10_treeMark_6 3 rfl) (dk_g tcX10_treeMark_6 4 rfl) rfl
theorem dX10_treeMark_77 : decode cX10_treeMark 77 = .ok (.iload 7, 2) := dk_1021 (dk_g tcX10_treeMark_6 5 rfl) (dk_g tcX10_treeMark_6 6 rfl) rfl
theorem dX10_treeMark_79 : decode cX10_treeMark 79 = .ok (.iload 6, 2) := dk_1021 (dk_g tcX10_treeMark_6 7 rfl) (dk_g tcX10_treeMark_6 8 rfl) rfl
theorem dX10_treeMark_81 : decode cX10_treeMark 81 = .ok (.if_icmp .ge 43, 3) := dk_2162 (dk_g tcX10_treeMark_6 9 rfl) (dk_g tcX10_treeMark_6 10 rfl) (dk_g tcX10_treeMark_6 11 rfl) rfl rfl
theorem tcX10_treeMark_7 : (cX10_treeMark.data.toList.drop 84).take 12 = [42, 180, 0, 43, 21, 7, 42, 180, 0, 10, 42, 180] := by decide +kernel
theorem dX10_treeMark_84 : decode cX10_treeMark 84 = .ok (.aload_n 0, 1) := dk_1042 (dk_g tcX10_treeMark_7 0 rfl)
theorem dX10_treeMark_85 : decode cX10_treeMark 85 = .ok (.getfield 43, 3) := dk_1180 (dk_g tcX10_treeMark_7 1 rfl) (dk_g tcX10_treeMark_7 2 rfl) (dk_g tcX10_treeMark_7 3 rfl) rfl
theorem dX10_treeMark_88 : decode cX10_treeMark 88 = .ok (.iload 7, 2) := dk_1021 (dk_g tcX10_treeMark_7 4 rfl) (dk_g tcX10_treeMark_7 5 rfl) rfl
theorem dX10_treeMark_90 : decode cX10_treeMark 90 = .ok (.aload_n 0, 1) := dk_1042 (dk_g tcX10_treeMark_7 6 rfl)
theorem dX10_treeMark_91 : decode cX10_treeMark 91 = .ok (.getfield 10, 3) := dk_1180 (dk_g tcX10_treeMark_7 7 rfl) (dk_g tcX10_treeMark_7 8 rfl) (dk_g tcX10_treeMark_7 9 rfl) rfl
theorem dX10_treeMark_94 : decode cX10_treeMark 94 = .ok (.aload_n 0, 1) := dk_1042 (dk_g tcX10_treeMark_7 10 rfl)
theorem tcX10_treeMark_8 : (cX10_treeMark.data.toList.drop 96).take 12 = [0, 43, 5, 21, 7, 104, 46, 42, 180, 0, 43, 5] := by decide +kernel
theorem dX10_treeMark_95 : decode cX10_treeMark 95 = .ok (.getfield 43, 3) := dk_1180 (dk_g tcX10_treeMark_7 11 rfl) (dk_g tcX10_treeMark_8 0 rfl) (dk_g tcX10_treeMark_8 1 rfl) rfl
theorem dX10_treeMark_98 : decode cX10_treeMark 98 = .ok (.iconst 2, 1) := dk_1005 (dk_g tcX10_treeMark_8 2 rfl)
theorem dX10_treeMark_99 : decode cX10_treeMark 99 = .ok (.iload 7, 2) := dk_1021 (dk_g tcX10_treeMark_8 3 rfl) (dk_g tcX10_treeMark_8 4 rfl) rfl
theorem dX10_treeMark_101 : decode cX10_treeMark 101 = .ok (.imul, 1) := dk_1104 (dk_g tcX10_treeMark_8 5 rfl)
theorem dX10_treeMark_102 : decode cX10_treeMark 102 = .ok (.iaload, 1) := dk_1046 (dk_g tcX10_treeMark_8 6 rfl)
theorem dX10_treeMark_103 : decode cX10_treeMark 103 = .ok (.aload_n 0, 1) := dk_1042 (dk_g tcX10_treeMark_8 7 rfl)
theorem dX10_treeMark_104 : decode cX10_treeMark 104 = .ok (.getfield 43, 3) := dk_1180 (dk_g tcX10_treeMark_8 8 rfl) (dk_g tcX10_treeMark_8 9 rfl) (dk_g tcX10_treeMark_8 10 rfl) rfl
theorem dX10_treeMark_107 : decode cX10_treeMark 107 = .ok (.iconst 2, 1) := dk_1005 (dk_g tcX10_treeMark_8 11 rfl)
theorem tcX10_treeMark_9 : (cX10_treeMark.data.toList.drop 108).take 12 = [21, 7, 104, 4, 96, 46, 184, 0, 92, 79, 132, 7] := by decide +kernel
theorem dX10_treeMark_108 : decode cX10_treeMark 108 = .ok (.iload 7, 2) := dk_1021 (dk_g tcX10_treeMark_9 0 rfl) (dk_g tcX10_treeMark_9 1 rfl) rfl
theorem dX10_treeMark_110 : decode cX10_treeMark 110 = .ok (.imul, 1) := dk_1104 (dk_g tcX10_treeMark_9 2 rfl)
theorem dX10_treeMark_111 : decode cX10_treeMark 111 = .ok (.iconst 1, 1) := dk_1004 (dk_g tcX10_treeMark_9 3 rfl)
theorem dX10_treeMark_112 : decode cX10_treeMark 112 = .ok (.iadd, 1) := dk_1096 (dk_g tcX10_treeMark_9 4 rfl)
theorem dX10_treeMark_113 : decode cX10_treeMark 113 = .ok (.iaload, 1) := dk_1046 (dk_g tcX10_treeMark_9 5 rfl)
theorem dX10_treeMark_114 : decode cX10_treeMark 114 = .ok (.invokestatic 92, 3) := dk_1184 (dk_g tcX10_treeMark_9 6 rfl) (dk_g tcX10_treeMark_9 7 rfl) (dk_g tcX10_treeMark_9 8 rfl) rfl
theorem dX10_treeMark_117 : decode cX10_treeMark 117 = .ok (.iastore, 1) := dk_1079 (dk_g tcX10_treeMark_9 9 rfl)
theorem tcX10_treeMark_10 : (cX10_treeMark.data.toList.drop 120).take 12 = [1, 167, 255, 212, 21, 4, 5, 112, 4, 160, 0, 19] := by decide +kernel
theorem dX10_treeMark_118 : decode cX10_treeMark 118 = .ok (.iinc 7 1, 3) := dk_1132 (dk_g tcX10_treeMark_9 10 rfl) (dk_g tcX10_treeMark_9 11 rfl) (dk_g tcX10_treeMark_10 0 rfl) rfl (by decide +kernel)
theorem dX10_treeMark_121 : decode cX10_treeMark 121 = .ok (.goto (-44), 3) := dk_1167 (dk_g tcX10_treeMark_10 1 rfl) (dk_g tcX10_treeMark_10 2 rfl) (dk_g tcX10_treeMark_10 3 rfl) (by decide +kernel)
theorem dX10_treeMark_124 : decode cX10_treeMark 124 = .ok (.iload 4, 2) := dk_1021 (dk_g tcX10_treeMark_10 4 rfl) (dk_g tcX10_treeMark_10 5 rfl) rfl
theorem dX10_treeMark_126 : decode cX10_treeMark 126 = .ok (.iconst 2, 1) := dk_1005 (dk_g tcX10_treeMark_10 6 rfl)
theorem dX10_treeMark_127 : decode cX10_treeMark 127 = .ok (.irem, 1) := dk_1112 (dk_g tcX10_treeMark_10 7 rfl)
theorem dX10_treeMark_128 : decode cX10_treeMark 128 = .ok (.iconst 1, 1) := dk_1004 (dk_g tcX10_treeMark_10 8 rfl)
theorem dX10_treeMark_129 : decode cX10_treeMark 129 = .ok (.if_icmp .ne 19, 3) := dk_2160 (dk_g tcX10_treeMark_10 9 rfl) (dk_g tcX10_treeMark_10 10 rfl) (dk_g tcX10_treeMark_10 11 rfl) rfl rfl
theorem tcX10_treeMark_11 : (cX10_treeMark.data.toList.drop 132).take 12 = [42, 180, 0, 43, 21, 6, 42, 180, 0, 43, 21, 4] := by decide +kernel
theorem dX10_treeMark_132 : decode cX10_treeMark 132 = .ok (.aload_n 0, 1) := dk_1042 (dk_g tcX10_treeMark_11 0 rfl)
theorem dX10_treeMark_133 : decode cX10_treeMark 133 = .ok (.getfield 43, 3) := dk_1180 (dk_g tcX10_treeMark_11 1 rfl) (dk_g tcX10_treeMark_11 2 rfl) (dk_g tcX10_treeMark_11 3 rfl) rfl
theorem dX10_treeMark_136 : decode cX10_treeMark 136 = .ok (.iload 6, 2) := dk_1021 (dk_g tcX10_treeMark_11 4 rfl) (dk_g tcX10_treeMark_11 5 rfl) rfl
theorem dX10_treeMark_138 : decode cX10_treeMark 138 = .ok (.aload_n 0, 1) := dk_1042 (dk_g tcX10_treeMark_11 6 rfl)
theorem dX10_treeMark_139 : decode cX10_treeMark 139 = .ok (.getfield 43, 3) := dk_1180 (dk_g tcX10_treeMark_11 7 rfl) (dk_g tcX10_treeMark_11 8 rfl) (dk_g tcX10_treeMark_11 9 rfl) rfl
theorem dX10_treeMark_142 : decode cX10_treeMark 142 = .ok (.iload 4, 2) := dk_1021 (dk_g tcX10_treeMark_11 10 rfl) (dk_g tcX10_treeMark_11 11 rfl) rfl
theorem tcX10_treeMark_12 : (cX10_treeMark.data.toList.drop 144).take 12 = [4, 100, 46, 79, 21, 4, 21, 6, 100, 54, 4, 132] := by decide +kernel
theorem dX10_treeMark_144 : decode cX10_treeMark 144 = .ok (.iconst 1, 1) := dk_1004 (dk_g tcX10_treeMark_12 0 rfl)
theorem dX10_treeMark_145 : decode cX10_treeMark 145 = .ok (.isub, 1) := dk_1100 (dk_g tcX10_treeMark_12 1 rfl)
theorem dX10_treeMark_146 : decode cX10_treeMark 146 = .ok (.iaload, 1) := dk_1046 (dk_g tcX10_treeMark_12 2 rfl)
theorem dX10_treeMark_147 : decode cX10_treeMark 147 = .ok (.iastore, 1) := dk_1079 (dk_g tcX10_treeMark_12 3 rfl)
theorem dX10_treeMark_148 : decode cX10_treeMark 148 = .ok (.iload 4, 2) := dk_1021 (dk_g tcX10_treeMark_12 4 rfl) (dk_g tcX10_treeMark_12 5 rfl) rfl
theorem dX10_treeMark_150 : decode cX10_treeMark 150 = .ok (.iload 6, 2) := dk_1021 (dk_g tcX10_treeMark_12 6 rfl) (dk_g tcX10_treeMark_12 7 rfl) rfl
theorem dX10_treeMark_152 : decode cX10_treeMark 152 = .ok (.isub, 1) := dk_1100 (dk_g tcX10_treeMark_12 8 rfl)
theorem dX10_treeMark_153 : decode cX10_treeMark 153 = .ok (.istore 4, 2) := dk_1054 (dk_g tcX10_treeMark_12 9 rfl) (dk_g tcX10_treeMark_12 10 rfl) rfl
theorem tcX10_treeMark_13 : (cX10_treeMark.data.toList.drop 156).take 12 = [5, 1, 167, 255, 153, 42, 180, 0, 43, 3, 46, 172] := by decide +kernel
theorem dX10_treeMark_155 : decode cX10_treeMark 155 = .ok (.iinc 5 1, 3) := dk_1132 (dk_g tcX10_treeMark_12 11 rfl) (dk_g tcX10_treeMark_13 0 rfl) (dk_g tcX10_treeMark_13 1 rfl) rfl (by decide +kernel)
theorem dX10_treeMark_158 : decode cX10_treeMark 158 = .ok (.goto (-103), 3) := dk_1167 (dk_g tcX10_treeMark_13 2 rfl) (dk_g tcX10_treeMark_13 3 rfl) (dk_g tcX10_treeMark_13 4 rfl) (by decide +kernel)
theorem dX10_treeMark_161 : decode cX10_treeMark 161 = .ok (.aload_n 0, 1) := dk_1042 (dk_g tcX10_treeMark_13 5 rfl)
theorem dX10_treeMark_162 : decode cX10_treeMark 162 = .ok (.getfield 43, 3) := dk_1180 (dk_g tcX10_treeMark_13 6 rfl) (dk_g tcX10_treeMark_13 7 rfl) (dk_g tcX10_treeMark_13 8 rfl) rfl
theorem dX10_treeMark_165 : decode cX10_treeMark 165 = .ok (.iconst 0, 1) := dk_1003 (dk_g tcX10_treeMark_13 9 rfl)
theorem dX10_treeMark_166 : decode cX10_treeMark 166 = .ok (.iaload, 1) := dk_1046 (dk_g tcX10_treeMark_13 10 rfl)
theorem dX10_treeMark_167 : decode cX10_treeMark 167 = .ok (.ireturn, 1) := dk_1172 (dk_g tcX10_treeMark_13 11 rfl)
theorem tcX10_peaksOf_0 : (cX10_peaksOf.data.toList.drop 0).take 12 = [45, 3, 182, 0, 96, 3, 54, 4, 16, 32, 54, 5] := by decide +kernel
theorem dX10_peaksOf_0 : decode cX10_peaksOf 0 = .ok (.aload_n 3, 1) := dk_1045 (dk_g tcX10_peaksOf_0 0 rfl)
theorem dX10_peaksOf_1 : decode cX10_peaksOf 1 = .ok (.iconst 0, 1) := dk_1003 (dk_g tcX10_peaksOf_0 1 rfl)
theorem dX10_peaksOf_2 : decode cX10_peaksOf 2 = .ok (.invokevirtual 96, 3) := dk_1182 (dk_g tcX10_peaksOf_0 2 rfl) (dk_g tcX10_peaksOf_0 3 rfl) (dk_g tcX10_peaksOf_0 4 rfl) rfl
theorem dX10_peaksOf_5 : decode cX10_peaksOf 5 = .ok (.iconst 0, 1) := dk_1003 (dk_g tcX10_peaksOf_0 5 rfl)
theorem dX10_peaksOf_6 : decode cX10_peaksOf 6 = .ok (.istore 4, 2) := dk_1054 (dk_g tcX10_peaksOf_0 6 rfl) (dk_g tcX10_peaksOf_0 7 rfl) rfl
theorem dX10_peaksOf_8 : decode cX10_peaksOf 8 = .ok (.bipush 32, 2) := dk_1016 (dk_g tcX10_peaksOf_0 8 rfl) (dk_g tcX10_peaksOf_0 9 rfl) (by decide +kernel)
theorem dX10_peaksOf_10 : decode cX10_peaksOf 10 = .ok (.istore 5, 2) := dk_1054 (dk_g tcX10_peaksOf_0 10 rfl) (dk_g tcX10_peaksOf_0 11 rfl) rfl
theorem tcX10_peaksOf_1 : (cX10_peaksOf.data.toList.drop 12).take 12 = [21, 5, 158, 0, 39, 28, 21, 5, 126, 153, 0, 23] := by decide +kernel
theorem dX10_peaksOf_12 : decode cX10_peaksOf 12 = .ok (.iload 5, 2) := dk_1021 (dk_g tcX10_peaksOf_1 0 rfl) (dk_g tcX10_peaksOf_1 1 rfl) rfl
theorem dX10_peaksOf_14 : decode cX10_peaksOf 14 = .ok (.ifCond .le 39, 3) := dk_2158 (dk_g tcX10_peaksOf_1 2 rfl) (dk_g tcX10_peaksOf_1 3 rfl) (dk_g tcX10_peaksOf_1 4 rfl) rfl rfl
theorem dX10_peaksOf_17 : decode cX10_peaksOf 17 = .ok (.iload_n 2, 1) := dk_1028 (dk_g tcX10_peaksOf_1 5 rfl)
theorem dX10_peaksOf_18 : decode cX10_peaksOf 18 = .ok (.iload 5, 2) := dk_1021 (dk_g tcX10_peaksOf_1 6 rfl) (dk_g tcX10_peaksOf_1 7 rfl) rfl
theorem dX10_peaksOf_20 : decode cX10_peaksOf 20 = .ok (.iand, 1) := dk_1126 (dk_g tcX10_peaksOf_1 8 rfl)
theorem dX10_peaksOf_21 : decode cX10_peaksOf 21 = .ok (.ifCond .eq 23, 3) := dk_2153 (dk_g tcX10_peaksOf_1 9 rfl) (dk_g tcX10_peaksOf_1 10 rfl) (dk_g tcX10_peaksOf_1 11 rfl) rfl rfl
theorem tcX10_peaksOf_2 : (cX10_peaksOf.data.toList.drop 24).take 12 = [45, 42, 43, 21, 4, 21, 5, 182, 0, 100, 182, 0] := by decide +kernel
theorem dX10_peaksOf_24 : decode cX10_peaksOf 24 = .ok (.aload_n 3, 1) := dk_1045 (dk_g tcX10_peaksOf_2 0 rfl)
theorem dX10_peaksOf_25 : decode cX10_peaksOf 25 = .ok (.aload_n 0, 1) := dk_1042 (dk_g tcX10_peaksOf_2 1 rfl)
theorem dX10_peaksOf_26 : decode cX10_peaksOf 26 = .ok (.aload_n 1, 1) := dk_1043 (dk_g tcX10_peaksOf_2 2 rfl)
theorem dX10_peaksOf_27 : decode cX10_peaksOf 27 = .ok (.iload 4, 2) := dk_1021 (dk_g tcX10_peaksOf_2 3 rfl) (dk_g tcX10_peaksOf_2 4 rfl) rfl
theorem dX10_peaksOf_29 : decode cX10_peaksOf 29 = .ok (.iload 5, 2) := dk_1021 (dk_g tcX10_peaksOf_2 5 rfl) (dk_g tcX10_peaksOf_2 6 rfl) rfl
theorem dX10_peaksOf_31 : decode cX10_peaksOf 31 = .ok (.invokevirtual 100, 3) := dk_1182 (dk_g tcX10_peaksOf_2 7 rfl) (dk_g tcX10_peaksOf_2 8 rfl) (dk_g tcX10_peaksOf_2 9 rfl) rfl
theorem tcX10_peaksOf_3 : (cX10_peaksOf.data.toList.drop 36).take 12 = [104, 21, 4, 21, 5, 96, 54, 4, 21, 5, 5, 108] := by decide +kernel
theorem dX10_peaksOf_34 : decode cX10_peaksOf 34 = .ok (.invokevirtual 104, 3) := dk_1182 (dk_g tcX10_peaksOf_2 10 rfl) (dk_g tcX10_peaksOf_2 11 rfl) (dk_g tcX10_peaksOf_3 0 rfl) rfl
theorem dX10_peaksOf_37 : decode cX10_peaksOf 37 = .ok (.iload 4, 2) := dk_1021 (dk_g tcX10_peaksOf_3 1 rfl) (dk_g tcX10_peaksOf_3 2 rfl) rfl
theorem dX10_peaksOf_39 : decode cX10_peaksOf 39 = .ok (.iload 5, 2) := dk_1021 (dk_g tcX10_peaksOf_3 3 rfl) (dk_g tcX10_peaksOf_3 4 rfl) rfl
theorem dX10_peaksOf_41 : decode cX10_peaksOf 41 = .ok (.iadd, 1) := dk_1096 (dk_g tcX10_peaksOf_3 5 rfl)
theorem dX10_peaksOf_42 : decode cX10_peaksOf 42 = .ok (.istore 4, 2) := dk_1054 (dk_g tcX10_peaksOf_3 6 rfl) (dk_g tcX10_peaksOf_3 7 rfl) rfl
theorem dX10_peaksOf_44 : decode cX10_peaksOf 44 = .ok (.iload 5, 2) := dk_1021 (dk_g tcX10_peaksOf_3 8 rfl) (dk_g tcX10_peaksOf_3 9 rfl) rfl
theorem dX10_peaksOf_46 : decode cX10_peaksOf 46 = .ok (.iconst 2, 1) := dk_1005 (dk_g tcX10_peaksOf_3 10 rfl)
theorem dX10_peaksOf_47 : decode cX10_peaksOf 47 = .ok (.idiv, 1) := dk_1108 (dk_g tcX10_peaksOf_3 11 rfl)
theorem tcX10_peaksOf_4 : (cX10_peaksOf.data.toList.drop 48).take 12 = [54, 5, 167, 255, 218, 177] := by decide +kernel
theorem dX10_peaksOf_48 : decode cX10_peaksOf 48 = .ok (.istore 5, 2) := dk_1054 (dk_g tcX10_peaksOf_4 0 rfl) (dk_g tcX10_peaksOf_4 1 rfl) rfl
theorem dX10_peaksOf_50 : decode cX10_peaksOf 50 = .ok (.goto (-38), 3) := dk_1167 (dk_g tcX10_peaksOf_4 2 rfl) (dk_g tcX10_peaksOf_4 3 rfl) (dk_g tcX10_peaksOf_4 4 rfl) (by decide +kernel)
theorem dX10_peaksOf_53 : decode cX10_peaksOf 53 = .ok (.return_, 1) := dk_1177 (dk_g tcX10_peaksOf_4 5 rfl)
theorem tcX10_headOf_0 : (cX10_headOf.data.toList.drop 0).take 12 = [42, 43, 3, 28, 182, 0, 100, 172] := by decide +kernel
theorem dX10_headOf_0 : decode cX10_headOf 0 = .ok (.aload_n 0, 1) := dk_1042 (dk_g tcX10_headOf_0 0 rfl)
theorem dX10_headOf_1 : decode cX10_headOf 1 = .ok (.aload_n 1, 1) := dk_1043 (dk_g tcX10_headOf_0 1 rfl)
theorem dX10_headOf_2 : decode cX10_headOf 2 = .ok (.iconst 0, 1) := dk_1003 (dk_g tcX10_headOf_0 2 rfl)
theorem dX10_headOf_3 : decode cX10_headOf 3 = .ok (.iload_n 2, 1) := dk_1028 (dk_g tcX10_headOf_0 3 rfl)
theorem dX10_headOf_4 : decode cX10_headOf 4 = .ok (.invokevirtual 100, 3) := dk_1182 (dk_g tcX10_headOf_0 4 rfl) (dk_g tcX10_headOf_0 5 rfl) (dk_g tcX10_headOf_0 6 rfl) rfl
theorem dX10_headOf_7 : decode cX10_headOf 7 = .ok (.ireturn, 1) := dk_1172 (dk_g tcX10_headOf_0 7 rfl)
theorem tcX10_hasHead_0 : (cX10_hasHead.data.toList.drop 0).take 12 = [43, 198, 0, 25, 28, 43, 180, 0, 68, 163, 0, 17] := by decide +kernel
theorem dX10_hasHead_0 : decode cX10_hasHead 0 = .ok (.aload_n 1, 1) := dk_1043 (dk_g tcX10_hasHead_0 0 rfl)
theorem dX10_hasHead_1 : decode cX10_hasHead 1 = .ok (.ifnull 25, 3) := dk_2198 (dk_g tcX10_hasHead_0 1 rfl) (dk_g tcX10_hasHead_0 2 rfl) (dk_g tcX10_hasHead_0 3 rfl) rfl rfl
theorem dX10_hasHead_4 : decode cX10_hasHead 4 = .ok (.iload_n 2, 1) := dk_1028 (dk_g tcX10_hasHead_0 4 rfl)
theorem dX10_hasHead_5 : decode cX10_hasHead 5 = .ok (.aload_n 1, 1) := dk_1043 (dk_g tcX10_hasHead_0 5 rfl)
theorem dX10_hasHead_6 : decode cX10_hasHead 6 = .ok (.getfield 68, 3) := dk_1180 (dk_g tcX10_hasHead_0 6 rfl) (dk_g tcX10_hasHead_0 7 rfl) (dk_g tcX10_hasHead_0 8 rfl) rfl
theorem dX10_hasHead_9 : decode cX10_hasHead 9 = .ok (.if_icmp .gt 17, 3) := dk_2163 (dk_g tcX10_hasHead_0 9 rfl) (dk_g tcX10_hasHead_0 10 rfl) (dk_g tcX10_hasHead_0 11 rfl) rfl rfl
theorem tcX10_hasHead_1 : (cX10_hasHead.data.toList.drop 12).take 12 = [42, 43, 28, 182, 0, 107, 29, 160, 0, 7, 4, 167] := by decide +kernel
theorem dX10_hasHead_12 : decode cX10_hasHead 12 = .ok (.aload_n 0, 1) := dk_1042 (dk_g tcX10_hasHead_1 0 rfl)
theorem dX10_hasHead_13 : decode cX10_hasHead 13 = .ok (.aload_n 1, 1) := dk_1043 (dk_g tcX10_hasHead_1 1 rfl)
theorem dX10_hasHead_14 : decode cX10_hasHead 14 = .ok (.iload_n 2, 1) := dk_1028 (dk_g tcX10_hasHead_1 2 rfl)
theorem dX10_hasHead_15 : decode cX10_hasHead 15 = .ok (.invokevirtual 107, 3) := dk_1182 (dk_g tcX10_hasHead_1 3 rfl) (dk_g tcX10_hasHead_1 4 rfl) (dk_g tcX10_hasHead_1 5 rfl) rfl
theorem dX10_hasHead_18 : decode cX10_hasHead 18 = .ok (.iload_n 3, 1) := dk_1029 (dk_g tcX10_hasHead_1 6 rfl)
theorem dX10_hasHead_19 : decode cX10_hasHead 19 = .ok (.if_icmp .ne 7, 3) := dk_2160 (dk_g tcX10_hasHead_1 7 rfl) (dk_g tcX10_hasHead_1 8 rfl) (dk_g tcX10_hasHead_1 9 rfl) rfl rfl
theorem dX10_hasHead_22 : decode cX10_hasHead 22 = .ok (.iconst 1, 1) := dk_1004 (dk_g tcX10_hasHead_1 10 rfl)
theorem tcX10_hasHead_2 : (cX10_hasHead.data.toList.drop 24).take 12 = [0, 4, 3, 172] := by decide +kernel
theorem dX10_hasHead_23 : decode cX10_hasHead 23 = .ok (.goto 4, 3) := dk_2167 (dk_g tcX10_hasHead_1 11 rfl) (dk_g tcX10_hasHead_2 0 rfl) (dk_g tcX10_hasHead_2 1 rfl) rfl rfl
theorem dX10_hasHead_26 : decode cX10_hasHead 26 = .ok (.iconst 0, 1) := dk_1003 (dk_g tcX10_hasHead_2 2 rfl)
theorem dX10_hasHead_27 : decode cX10_hasHead 27 = .ok (.ireturn, 1) := dk_1172 (dk_g tcX10_hasHead_2 3 rfl)
theorem tcX10_marksAlong_0 : (cX10_marksAlong.data.toList.drop 0).take 12 = [45, 3, 182, 0, 96, 3, 54, 4, 21, 4, 43, 180] := by decide +kernel
theorem dX10_marksAlong_0 : decode cX10_marksAlong 0 = .ok (.aload_n 3, 1) := dk_1045 (dk_g tcX10_marksAlong_0 0 rfl)
theorem dX10_marksAlong_1 : decode cX10_marksAlong 1 = .ok (.iconst 0, 1) := dk_1003 (dk_g tcX10_marksAlong_0 1 rfl)
theorem dX10_marksAlong_2 : decode cX10_marksAlong 2 = .ok (.invokevirtual 96, 3) := dk_1182 (dk_g tcX10_marksAlong_0 2 rfl) (dk_g tcX10_marksAlong_0 3 rfl) (dk_g tcX10_marksAlong_0 4 rfl) rfl
theorem dX10_marksAlong_5 : decode cX10_marksAlong 5 = .ok (.iconst 0, 1) := dk_1003 (dk_g tcX10_marksAlong_0 5 rfl)
theorem dX10_marksAlong_6 : decode cX10_marksAlong 6 = .ok (.istore 4, 2) := dk_1054 (dk_g tcX10_marksAlong_0 6 rfl) (dk_g tcX10_marksAlong_0 7 rfl) rfl
theorem dX10_marksAlong_8 : decode cX10_marksAlong 8 = .ok (.iload 4, 2) := dk_1021 (dk_g tcX10_marksAlong_0 8 rfl) (dk_g tcX10_marksAlong_0 9 rfl) rfl
theorem dX10_marksAlong_10 : decode cX10_marksAlong 10 = .ok (.aload_n 1, 1) := dk_1043 (dk_g tcX10_marksAlong_0 10 rfl)
theorem tcX10_marksAlong_1 : (cX10_marksAlong.data.toList.drop 12).take 12 = [0, 111, 162, 0, 30, 45, 42, 44, 43, 21, 4, 182] := by decide +kernel
theorem dX10_marksAlong_11 : decode cX10_marksAlong 11 = .ok (.getfield 111, 3) := dk_1180 (dk_g tcX10_marksAlong_0 11 rfl) (dk_g tcX10_marksAlong_1 0 rfl) (dk_g tcX10_marksAlong_1 1 rfl) rfl
theorem dX10_marksAlong_14 : decode cX10_marksAlong 14 = .ok (.if_icmp .ge 30, 3) := dk_2162 (dk_g tcX10_marksAlong_1 2 rfl) (dk_g tcX10_marksAlong_1 3 rfl) (dk_g tcX10_marksAlong_1 4 rfl) rfl rfl
theorem dX10_marksAlong_17 : decode cX10_marksAlong 17 = .ok (.aload_n 3, 1) := dk_1045 (dk_g tcX10_marksAlong_1 5 rfl)
theorem dX10_marksAlong_18 : decode cX10_marksAlong 18 = .ok (.aload_n 0, 1) := dk_1042 (dk_g tcX10_marksAlong_1 6 rfl)
theorem dX10_marksAlong_19 : decode cX10_marksAlong 19 = .ok (.aload_n 2, 1) := dk_1044 (dk_g tcX10_marksAlong_1 7 rfl)
theorem dX10_marksAlong_20 : decode cX10_marksAlong 20 = .ok (.aload_n 1, 1) := dk_1043 (dk_g tcX10_marksAlong_1 8 rfl)
theorem dX10_marksAlong_21 : decode cX10_marksAlong 21 = .ok (.iload 4, 2) := dk_1021 (dk_g tcX10_marksAlong_1 9 rfl) (dk_g tcX10_marksAlong_1 10 rfl) rfl
theorem tcX10_marksAlong_2 : (cX10_marksAlong.data.toList.drop 24).take 12 = [0, 114, 43, 21, 4, 182, 0, 117, 182, 0, 100, 182] := by decide +kernel
theorem dX10_marksAlong_23 : decode cX10_marksAlong 23 = .ok (.invokevirtual 114, 3) := dk_1182 (dk_g tcX10_marksAlong_1 11 rfl) (dk_g tcX10_marksAlong_2 0 rfl) (dk_g tcX10_marksAlong_2 1 rfl) rfl
theorem dX10_marksAlong_26 : decode cX10_marksAlong 26 = .ok (.aload_n 1, 1) := dk_1043 (dk_g tcX10_marksAlong_2 2 rfl)
theorem dX10_marksAlong_27 : decode cX10_marksAlong 27 = .ok (.iload 4, 2) := dk_1021 (dk_g tcX10_marksAlong_2 3 rfl) (dk_g tcX10_marksAlong_2 4 rfl) rfl
theorem dX10_marksAlong_29 : decode cX10_marksAlong 29 = .ok (.invokevirtual 117, 3) := dk_1182 (dk_g tcX10_marksAlong_2 5 rfl) (dk_g tcX10_marksAlong_2 6 rfl) (dk_g tcX10_marksAlong_2 7 rfl) rfl
theorem dX10_marksAlong_32 : decode cX10_marksAlong 32 = .ok (.invokevirtual 100, 3) := dk_1182 (dk_g tcX10_marksAlong_2 8 rfl) (dk_g tcX10_marksAlong_2 9 rfl) (dk_g tcX10_marksAlong_2 10 rfl) rfl
theorem tcX10_marksAlong_3 : (cX10_marksAlong.data.toList.drop 36).take 12 = [0, 104, 132, 4, 1, 167, 255, 223, 177] := by decide +kernel
theorem dX10_marksAlong_35 : decode cX10_marksAlong 35 = .ok (.invokevirtual 104, 3) := dk_1182 (dk_g tcX10_marksAlong_2 11 rfl) (dk_g tcX10_marksAlong_3 0 rfl) (dk_g tcX10_marksAlong_3 1 rfl) rfl
theorem dX10_marksAlong_38 : decode cX10_marksAlong 38 = .ok (.iinc 4 1, 3) := dk_1132 (dk_g tcX10_marksAlong_3 2 rfl) (dk_g tcX10_marksAlong_3 3 rfl) (dk_g tcX10_marksAlong_3 4 rfl) rfl (by decide +kernel)
theorem dX10_marksAlong_41 : decode cX10_marksAlong 41 = .ok (.goto (-33), 3) := dk_1167 (dk_g tcX10_marksAlong_3 5 rfl) (dk_g tcX10_marksAlong_3 6 rfl) (dk_g tcX10_marksAlong_3 7 rfl) (by decide +kernel)
theorem dX10_marksAlong_44 : decode cX10_marksAlong 44 = .ok (.return_, 1) := dk_1177 (dk_g tcX10_marksAlong_3 8 rfl)
theorem tcX10_addWord_0 : (cX10_addWord.data.toList.drop 0).take 12 = [43, 44, 42, 180, 0, 10, 182, 0, 120, 42, 89, 180] := by decide +kernel
theorem dX10_addWord_0 : decode cX10_addWord 0 = .ok (.aload_n 1, 1) := dk_1043 (dk_g tcX10_addWord_0 0 rfl)
theorem dX10_addWord_1 : decode cX10_addWord 1 = .ok (.aload_n 2, 1) := dk_1044 (dk_g tcX10_addWord_0 1 rfl)
theorem dX10_addWord_2 : decode cX10_addWord 2 = .ok (.aload_n 0, 1) := dk_1042 (dk_g tcX10_addWord_0 2 rfl)
theorem dX10_addWord_3 : decode cX10_addWord 3 = .ok (.getfield 10, 3) := dk_1180 (dk_g tcX10_addWord_0 3 rfl) (dk_g tcX10_addWord_0 4 rfl) (dk_g tcX10_addWord_0 5 rfl) rfl
theorem dX10_addWord_6 : decode cX10_addWord 6 = .ok (.invokevirtual 120, 3) := dk_1182 (dk_g tcX10_addWord_0 6 rfl) (dk_g tcX10_addWord_0 7 rfl) (dk_g tcX10_addWord_0 8 rfl) rfl
theorem dX10_addWord_9 : decode cX10_addWord 9 = .ok (.aload_n 0, 1) := dk_1042 (dk_g tcX10_addWord_0 9 rfl)
theorem dX10_addWord_10 : decode cX10_addWord 10 = .ok (.dup, 1) := dk_1089 (dk_g tcX10_addWord_0 10 rfl)
theorem tcX10_addWord_1 : (cX10_addWord.data.toList.drop 12).take 12 = [0, 40, 4, 96, 181, 0, 40, 177] := by decide +kernel
theorem dX10_addWord_11 : decode cX10_addWord 11 = .ok (.getfield 40, 3) := dk_1180 (dk_g tcX10_addWord_0 11 rfl) (dk_g tcX10_addWord_1 0 rfl) (dk_g tcX10_addWord_1 1 rfl) rfl
theorem dX10_addWord_14 : decode cX10_addWord 14 = .ok (.iconst 1, 1) := dk_1004 (dk_g tcX10_addWord_1 2 rfl)
theorem dX10_addWord_15 : decode cX10_addWord 15 = .ok (.iadd, 1) := dk_1096 (dk_g tcX10_addWord_1 3 rfl)
theorem dX10_addWord_16 : decode cX10_addWord 16 = .ok (.putfield 40, 3) := dk_1181 (dk_g tcX10_addWord_1 4 rfl) (dk_g tcX10_addWord_1 5 rfl) (dk_g tcX10_addWord_1 6 rfl) rfl
theorem dX10_addWord_19 : decode cX10_addWord 19 = .ok (.return_, 1) := dk_1177 (dk_g tcX10_addWord_1 7 rfl)
theorem tcX10_forkLog_0 : (cX10_forkLog.data.toList.drop 0).take 12 = [42, 180, 0, 22, 155, 0, 27, 42, 180, 0, 22, 42] := by decide +kernel
theorem dX10_forkLog_0 : decode cX10_forkLog 0 = .ok (.aload_n 0, 1) := dk_1042 (dk_g tcX10_forkLog_0 0 rfl)
theorem dX10_forkLog_1 : decode cX10_forkLog 1 = .ok (.getfield 22, 3) := dk_1180 (dk_g tcX10_forkLog_0 1 rfl) (dk_g tcX10_forkLog_0 2 rfl) (dk_g tcX10_forkLog_0 3 rfl) rfl
theorem dX10_forkLog_4 : decode cX10_forkLog 4 = .ok (.ifCond .lt 27, 3) := dk_2155 (dk_g tcX10_forkLog_0 4 rfl) (dk_g tcX10_forkLog_0 5 rfl) (dk_g tcX10_forkLog_0 6 rfl) rfl rfl
theorem dX10_forkLog_7 : decode cX10_forkLog 7 = .ok (.aload_n 0, 1) := dk_1042 (dk_g tcX10_forkLog_0 7 rfl)
theorem dX10_forkLog_8 : decode cX10_forkLog 8 = .ok (.getfield 22, 3) := dk_1180 (dk_g tcX10_forkLog_0 8 rfl) (dk_g tcX10_forkLog_0 9 rfl) (dk_g tcX10_forkLog_0 10 rfl) rfl
theorem dX10_forkLog_11 : decode cX10_forkLog 11 = .ok (.aload_n 0, 1) := dk_1042 (dk_g tcX10_forkLog_0 11 rfl)
theorem tcX10_forkLog_1 : (cX10_forkLog.data.toList.drop 12).take 12 = [180, 0, 18, 190, 162, 0, 15, 42, 180, 0, 18, 42] := by decide +kernel
theorem dX10_forkLog_12 : decode cX10_forkLog 12 = .ok (.getfield 18, 3) := dk_1180 (dk_g tcX10_forkLog_1 0 rfl) (dk_g tcX10_forkLog_1 1 rfl) (dk_g tcX10_forkLog_1 2 rfl) rfl
theorem dX10_forkLog_15 : decode cX10_forkLog 15 = .ok (.arraylength, 1) := dk_1190 (dk_g tcX10_forkLog_1 3 rfl)
theorem dX10_forkLog_16 : decode cX10_forkLog 16 = .ok (.if_icmp .ge 15, 3) := dk_2162 (dk_g tcX10_forkLog_1 4 rfl) (dk_g tcX10_forkLog_1 5 rfl) (dk_g tcX10_forkLog_1 6 rfl) rfl rfl
theorem dX10_forkLog_19 : decode cX10_forkLog 19 = .ok (.aload_n 0, 1) := dk_1042 (dk_g tcX10_forkLog_1 7 rfl)
theorem dX10_forkLog_20 : decode cX10_forkLog 20 = .ok (.getfield 18, 3) := dk_1180 (dk_g tcX10_forkLog_1 8 rfl) (dk_g tcX10_forkLog_1 9 rfl) (dk_g tcX10_forkLog_1 10 rfl) rfl
theorem dX10_forkLog_23 : decode cX10_forkLog 23 = .ok (.aload_n 0, 1) := dk_1042 (dk_g tcX10_forkLog_1 11 rfl)
theorem tcX10_forkLog_2 : (cX10_forkLog.data.toList.drop 24).take 12 = [180, 0, 22, 50, 199, 0, 5, 2, 172, 42, 180, 0] := by decide +kernel
theorem dX10_forkLog_24 : decode cX10_forkLog 24 = .ok (.getfield 22, 3) := dk_1180 (dk_g tcX10_forkLog_2 0 rfl) (dk_g tcX10_forkLog_2 1 rfl) (dk_g tcX10_forkLog_2 2 rfl) rfl
theorem dX10_forkLog_27 : decode cX10_forkLog 27 = .ok (.aaload, 1) := dk_1050 (dk_g tcX10_forkLog_2 3 rfl)
theorem dX10_forkLog_28 : decode cX10_forkLog 28 = .ok (.ifnonnull 5, 3) := dk_2199 (dk_g tcX10_forkLog_2 4 rfl) (dk_g tcX10_forkLog_2 5 rfl) (dk_g tcX10_forkLog_2 6 rfl) rfl rfl
theorem dX10_forkLog_31 : decode cX10_forkLog 31 = .ok (.iconst (-1), 1) := dk_1002 (dk_g tcX10_forkLog_2 7 rfl)
theorem dX10_forkLog_32 : decode cX10_forkLog 32 = .ok (.ireturn, 1) := dk_1172 (dk_g tcX10_forkLog_2 8 rfl)
theorem dX10_forkLog_33 : decode cX10_forkLog 33 = .ok (.aload_n 0, 1) := dk_1042 (dk_g tcX10_forkLog_2 9 rfl)
theorem tcX10_forkLog_3 : (cX10_forkLog.data.toList.drop 36).take 12 = [18, 42, 180, 0, 22, 50, 78, 45, 3, 181, 0, 68] := by decide +kernel
theorem dX10_forkLog_34 : decode cX10_forkLog 34 = .ok (.getfield 18, 3) := dk_1180 (dk_g tcX10_forkLog_2 10 rfl) (dk_g tcX10_forkLog_2 11 rfl) (dk_g tcX10_forkLog_3 0 rfl) rfl
theorem dX10_forkLog_37 : decode cX10_forkLog 37 = .ok (.aload_n 0, 1) := dk_1042 (dk_g tcX10_forkLog_3 1 rfl)
theorem dX10_forkLog_38 : decode cX10_forkLog 38 = .ok (.getfield 22, 3) := dk_1180 (dk_g tcX10_forkLog_3 2 rfl) (dk_g tcX10_forkLog_3 3 rfl) (dk_g tcX10_forkLog_3 4 rfl) rfl
theorem dX10_forkLog_41 : decode cX10_forkLog 41 = .ok (.aaload, 1) := dk_1050 (dk_g tcX10_forkLog_3 5 rfl)
theorem dX10_forkLog_42 : decode cX10_forkLog 42 = .ok (.astore_n 3, 1) := dk_1078 (dk_g tcX10_forkLog_3 6 rfl)
theorem dX10_forkLog_43 : decode cX10_forkLog 43 = .ok (.aload_n 3, 1) := dk_1045 (dk_g tcX10_forkLog_3 7 rfl)
theorem dX10_forkLog_44 : decode cX10_forkLog 44 = .ok (.iconst 0, 1) := dk_1003 (dk_g tcX10_forkLog_3 8 rfl)
theorem dX10_forkLog_45 : decode cX10_forkLog 45 = .ok (.putfield 68, 3) := dk_1181 (dk_g tcX10_forkLog_3 9 rfl) (dk_g tcX10_forkLog_3 10 rfl) (dk_g tcX10_forkLog_3 11 rfl) rfl
theorem tcX10_forkLog_4 : (cX10_forkLog.data.toList.drop 48).take 12 = [3, 54, 4, 21, 4, 28, 162, 0, 32, 43, 21, 4] := by decide +kernel
theorem dX10_forkLog_48 : decode cX10_forkLog 48 = .ok (.iconst 0, 1) := dk_1003 (dk_g tcX10_forkLog_4 0 rfl)
theorem dX10_forkLog_49 : decode cX10_forkLog 49 = .ok (.istore 4, 2) := dk_1054 (dk_g tcX10_forkLog_4 1 rfl) (dk_g tcX10_forkLog_4 2 rfl) rfl
theorem dX10_forkLog_51 : decode cX10_forkLog 51 = .ok (.iload 4, 2) := dk_1021 (dk_g tcX10_forkLog_4 3 rfl) (dk_g tcX10_forkLog_4 4 rfl) rfl
theorem dX10_forkLog_53 : decode cX10_forkLog 53 = .ok (.iload_n 2, 1) := dk_1028 (dk_g tcX10_forkLog_4 5 rfl)
theorem dX10_forkLog_54 : decode cX10_forkLog 54 = .ok (.if_icmp .ge 32, 3) := dk_2162 (dk_g tcX10_forkLog_4 6 rfl) (dk_g tcX10_forkLog_4 7 rfl) (dk_g tcX10_forkLog_4 8 rfl) rfl rfl
theorem dX10_forkLog_57 : decode cX10_forkLog 57 = .ok (.aload_n 1, 1) := dk_1043 (dk_g tcX10_forkLog_4 9 rfl)
theorem dX10_forkLog_58 : decode cX10_forkLog 58 = .ok (.iload 4, 2) := dk_1021 (dk_g tcX10_forkLog_4 10 rfl) (dk_g tcX10_forkLog_4 11 rfl) rfl
theorem tcX10_forkLog_5 : (cX10_forkLog.data.toList.drop 60).take 12 = [182, 0, 124, 58, 5, 25, 5, 198, 0, 13, 45, 25] := by decide +kernel
theorem dX10_forkLog_60 : decode cX10_forkLog 60 = .ok (.invokevirtual 124, 3) := dk_1182 (dk_g tcX10_forkLog_5 0 rfl) (dk_g tcX10_forkLog_5 1 rfl) (dk_g tcX10_forkLog_5 2 rfl) rfl
theorem dX10_forkLog_63 : decode cX10_forkLog 63 = .ok (.astore 5, 2) := dk_1058 (dk_g tcX10_forkLog_5 3 rfl) (dk_g tcX10_forkLog_5 4 rfl) rfl
theorem dX10_forkLog_65 : decode cX10_forkLog 65 = .ok (.aload 5, 2) := dk_1025 (dk_g tcX10_forkLog_5 5 rfl) (dk_g tcX10_forkLog_5 6 rfl) rfl
theorem dX10_forkLog_67 : decode cX10_forkLog 67 = .ok (.ifnull 13, 3) := dk_2198 (dk_g tcX10_forkLog_5 7 rfl) (dk_g tcX10_forkLog_5 8 rfl) (dk_g tcX10_forkLog_5 9 rfl) rfl rfl
theorem dX10_forkLog_70 : decode cX10_forkLog 70 = .ok (.aload_n 3, 1) := dk_1045 (dk_g tcX10_forkLog_5 10 rfl)
theorem tcX10_forkLog_6 : (cX10_forkLog.data.toList.drop 72).take 12 = [5, 42, 180, 0, 10, 182, 0, 120, 132, 4, 1, 167] := by decide +kernel
theorem dX10_forkLog_71 : decode cX10_forkLog 71 = .ok (.aload 5, 2) := dk_1025 (dk_g tcX10_forkLog_5 11 rfl) (dk_g tcX10_forkLog_6 0 rfl) rfl
theorem dX10_forkLog_73 : decode cX10_forkLog 73 = .ok (.aload_n 0, 1) := dk_1042 (dk_g tcX10_forkLog_6 1 rfl)
theorem dX10_forkLog_74 : decode cX10_forkLog 74 = .ok (.getfield 10, 3) := dk_1180 (dk_g tcX10_forkLog_6 2 rfl) (dk_g tcX10_forkLog_6 3 rfl) (dk_g tcX10_forkLog_6 4 rfl) rfl
theorem dX10_forkLog_77 : decode cX10_forkLog 77 = .ok (.invokevirtual 120, 3) := dk_1182 (dk_g tcX10_forkLog_6 5 rfl) (dk_g tcX10_forkLog_6 6 rfl) (dk_g tcX10_forkLog_6 7 rfl) rfl
theorem dX10_forkLog_80 : decode cX10_forkLog 80 = .ok (.iinc 4 1, 3) := dk_1132 (dk_g tcX10_forkLog_6 8 rfl) (dk_g tcX10_forkLog_6 9 rfl) (dk_g tcX10_forkLog_6 10 rfl) rfl (by decide +kernel)
theorem tcX10_forkLog_7 : (cX10_forkLog.data.toList.drop 84).take 12 = [255, 224, 42, 89, 180, 0, 22, 4, 96, 181, 0, 22] := by decide +kernel
theorem dX10_forkLog_83 : decode cX10_forkLog 83 = .ok (.goto (-32), 3) := dk_1167 (dk_g tcX10_forkLog_6 11 rfl) (dk_g tcX10_forkLog_7 0 rfl) (dk_g tcX10_forkLog_7 1 rfl) (by decide +kernel)
theorem dX10_forkLog_86 : decode cX10_forkLog 86 = .ok (.aload_n 0, 1) := dk_1042 (dk_g tcX10_forkLog_7 2 rfl)
theorem dX10_forkLog_87 : decode cX10_forkLog 87 = .ok (.dup, 1) := dk_1089 (dk_g tcX10_forkLog_7 3 rfl)
theorem dX10_forkLog_88 : decode cX10_forkLog 88 = .ok (.getfield 22, 3) := dk_1180 (dk_g tcX10_forkLog_7 4 rfl) (dk_g tcX10_forkLog_7 5 rfl) (dk_g tcX10_forkLog_7 6 rfl) rfl
theorem dX10_forkLog_91 : decode cX10_forkLog 91 = .ok (.iconst 1, 1) := dk_1004 (dk_g tcX10_forkLog_7 7 rfl)
theorem dX10_forkLog_92 : decode cX10_forkLog 92 = .ok (.iadd, 1) := dk_1096 (dk_g tcX10_forkLog_7 8 rfl)
theorem dX10_forkLog_93 : decode cX10_forkLog 93 = .ok (.putfield 22, 3) := dk_1181 (dk_g tcX10_forkLog_7 9 rfl) (dk_g tcX10_forkLog_7 10 rfl) (dk_g tcX10_forkLog_7 11 rfl) rfl
theorem tcX10_forkLog_8 : (cX10_forkLog.data.toList.drop 96).take 12 = [42, 89, 180, 0, 40, 4, 96, 181, 0, 40, 42, 180] := by decide +kernel
theorem dX10_forkLog_96 : decode cX10_forkLog 96 = .ok (.aload_n 0, 1) := dk_1042 (dk_g tcX10_forkLog_8 0 rfl)
theorem dX10_forkLog_97 : decode cX10_forkLog 97 = .ok (.dup, 1) := dk_1089 (dk_g tcX10_forkLog_8 1 rfl)
theorem dX10_forkLog_98 : decode cX10_forkLog 98 = .ok (.getfield 40, 3) := dk_1180 (dk_g tcX10_forkLog_8 2 rfl) (dk_g tcX10_forkLog_8 3 rfl) (dk_g tcX10_forkLog_8 4 rfl) rfl
theorem dX10_forkLog_101 : decode cX10_forkLog 101 = .ok (.iconst 1, 1) := dk_1004 (dk_g tcX10_forkLog_8 5 rfl)
theorem dX10_forkLog_102 : decode cX10_forkLog 102 = .ok (.iadd, 1) := dk_1096 (dk_g tcX10_forkLog_8 6 rfl)
theorem dX10_forkLog_103 : decode cX10_forkLog 103 = .ok (.putfield 40, 3) := dk_1181 (dk_g tcX10_forkLog_8 7 rfl) (dk_g tcX10_forkLog_8 8 rfl) (dk_g tcX10_forkLog_8 9 rfl) rfl
theorem dX10_forkLog_106 : decode cX10_forkLog 106 = .ok (.aload_n 0, 1) := dk_1042 (dk_g tcX10_forkLog_8 10 rfl)
theorem tcX10_forkLog_9 : (cX10_forkLog.data.toList.drop 108).take 12 = [0, 22, 4, 100, 172] := by decide +kernel
theorem dX10_forkLog_107 : decode cX10_forkLog 107 = .ok (.getfield 22, 3) := dk_1180 (dk_g tcX10_forkLog_8 11 rfl) (dk_g tcX10_forkLog_9 0 rfl) (dk_g tcX10_forkLog_9 1 rfl) rfl
theorem dX10_forkLog_110 : decode cX10_forkLog 110 = .ok (.iconst 1, 1) := dk_1004 (dk_g tcX10_forkLog_9 2 rfl)
theorem dX10_forkLog_111 : decode cX10_forkLog 111 = .ok (.isub, 1) := dk_1100 (dk_g tcX10_forkLog_9 3 rfl)
theorem dX10_forkLog_112 : decode cX10_forkLog 112 = .ok (.ireturn, 1) := dk_1172 (dk_g tcX10_forkLog_9 4 rfl)
theorem tcX10_freezeHead_0 : (cX10_freezeHead.data.toList.drop 0).take 12 = [42, 27, 182, 0, 64, 77, 44, 198, 0, 34, 42, 180] := by decide +kernel
theorem dX10_freezeHead_0 : decode cX10_freezeHead 0 = .ok (.aload_n 0, 1) := dk_1042 (dk_g tcX10_freezeHead_0 0 rfl)
theorem dX10_freezeHead_1 : decode cX10_freezeHead 1 = .ok (.iload_n 1, 1) := dk_1027 (dk_g tcX10_freezeHead_0 1 rfl)
theorem dX10_freezeHead_2 : decode cX10_freezeHead 2 = .ok (.invokevirtual 64, 3) := dk_1182 (dk_g tcX10_freezeHead_0 2 rfl) (dk_g tcX10_freezeHead_0 3 rfl) (dk_g tcX10_freezeHead_0 4 rfl) rfl
theorem dX10_freezeHead_5 : decode cX10_freezeHead 5 = .ok (.astore_n 2, 1) := dk_1077 (dk_g tcX10_freezeHead_0 5 rfl)
theorem dX10_freezeHead_6 : decode cX10_freezeHead 6 = .ok (.aload_n 2, 1) := dk_1044 (dk_g tcX10_freezeHead_0 6 rfl)
theorem dX10_freezeHead_7 : decode cX10_freezeHead 7 = .ok (.ifnull 34, 3) := dk_2198 (dk_g tcX10_freezeHead_0 7 rfl) (dk_g tcX10_freezeHead_0 8 rfl) (dk_g tcX10_freezeHead_0 9 rfl) rfl rfl
theorem dX10_freezeHead_10 : decode cX10_freezeHead 10 = .ok (.aload_n 0, 1) := dk_1042 (dk_g tcX10_freezeHead_0 10 rfl)
theorem tcX10_freezeHead_1 : (cX10_freezeHead.data.toList.drop 12).take 12 = [0, 31, 155, 0, 27, 42, 180, 0, 31, 42, 180, 0] := by decide +kernel
theorem dX10_freezeHead_11 : decode cX10_freezeHead 11 = .ok (.getfield 31, 3) := dk_1180 (dk_g tcX10_freezeHead_0 11 rfl) (dk_g tcX10_freezeHead_1 0 rfl) (dk_g tcX10_freezeHead_1 1 rfl) rfl
theorem dX10_freezeHead_14 : decode cX10_freezeHead 14 = .ok (.ifCond .lt 27, 3) := dk_2155 (dk_g tcX10_freezeHead_1 2 rfl) (dk_g tcX10_freezeHead_1 3 rfl) (dk_g tcX10_freezeHead_1 4 rfl) rfl rfl
theorem dX10_freezeHead_17 : decode cX10_freezeHead 17 = .ok (.aload_n 0, 1) := dk_1042 (dk_g tcX10_freezeHead_1 5 rfl)
theorem dX10_freezeHead_18 : decode cX10_freezeHead 18 = .ok (.getfield 31, 3) := dk_1180 (dk_g tcX10_freezeHead_1 6 rfl) (dk_g tcX10_freezeHead_1 7 rfl) (dk_g tcX10_freezeHead_1 8 rfl) rfl
theorem dX10_freezeHead_21 : decode cX10_freezeHead 21 = .ok (.aload_n 0, 1) := dk_1042 (dk_g tcX10_freezeHead_1 9 rfl)
theorem tcX10_freezeHead_2 : (cX10_freezeHead.data.toList.drop 24).take 12 = [27, 190, 162, 0, 15, 42, 180, 0, 27, 42, 180, 0] := by decide +kernel
theorem dX10_freezeHead_22 : decode cX10_freezeHead 22 = .ok (.getfield 27, 3) := dk_1180 (dk_g tcX10_freezeHead_1 10 rfl) (dk_g tcX10_freezeHead_1 11 rfl) (dk_g tcX10_freezeHead_2 0 rfl) rfl
theorem dX10_freezeHead_25 : decode cX10_freezeHead 25 = .ok (.arraylength, 1) := dk_1190 (dk_g tcX10_freezeHead_2 1 rfl)
theorem dX10_freezeHead_26 : decode cX10_freezeHead 26 = .ok (.if_icmp .ge 15, 3) := dk_2162 (dk_g tcX10_freezeHead_2 2 rfl) (dk_g tcX10_freezeHead_2 3 rfl) (dk_g tcX10_freezeHead_2 4 rfl) rfl rfl
theorem dX10_freezeHead_29 : decode cX10_freezeHead 29 = .ok (.aload_n 0, 1) := dk_1042 (dk_g tcX10_freezeHead_2 5 rfl)
theorem dX10_freezeHead_30 : decode cX10_freezeHead 30 = .ok (.getfield 27, 3) := dk_1180 (dk_g tcX10_freezeHead_2 6 rfl) (dk_g tcX10_freezeHead_2 7 rfl) (dk_g tcX10_freezeHead_2 8 rfl) rfl
theorem dX10_freezeHead_33 : decode cX10_freezeHead 33 = .ok (.aload_n 0, 1) := dk_1042 (dk_g tcX10_freezeHead_2 9 rfl)
theorem tcX10_freezeHead_3 : (cX10_freezeHead.data.toList.drop 36).take 12 = [31, 50, 199, 0, 5, 2, 172, 42, 180, 0, 27, 42] := by decide +kernel
theorem dX10_freezeHead_34 : decode cX10_freezeHead 34 = .ok (.getfield 31, 3) := dk_1180 (dk_g tcX10_freezeHead_2 10 rfl) (dk_g tcX10_freezeHead_2 11 rfl) (dk_g tcX10_freezeHead_3 0 rfl) rfl
theorem dX10_freezeHead_37 : decode cX10_freezeHead 37 = .ok (.aaload, 1) := dk_1050 (dk_g tcX10_freezeHead_3 1 rfl)
theorem dX10_freezeHead_38 : decode cX10_freezeHead 38 = .ok (.ifnonnull 5, 3) := dk_2199 (dk_g tcX10_freezeHead_3 2 rfl) (dk_g tcX10_freezeHead_3 3 rfl) (dk_g tcX10_freezeHead_3 4 rfl) rfl rfl
theorem dX10_freezeHead_41 : decode cX10_freezeHead 41 = .ok (.iconst (-1), 1) := dk_1002 (dk_g tcX10_freezeHead_3 5 rfl)
theorem dX10_freezeHead_42 : decode cX10_freezeHead 42 = .ok (.ireturn, 1) := dk_1172 (dk_g tcX10_freezeHead_3 6 rfl)
theorem dX10_freezeHead_43 : decode cX10_freezeHead 43 = .ok (.aload_n 0, 1) := dk_1042 (dk_g tcX10_freezeHead_3 7 rfl)
theorem dX10_freezeHead_44 : decode cX10_freezeHead 44 = .ok (.getfield 27, 3) := dk_1180 (dk_g tcX10_freezeHead_3 8 rfl) (dk_g tcX10_freezeHead_3 9 rfl) (dk_g tcX10_freezeHead_3 10 rfl) rfl
theorem dX10_freezeHead_47 : decode cX10_freezeHead 47 = .ok (.aload_n 0, 1) := dk_1042 (dk_g tcX10_freezeHead_3 11 rfl)
theorem tcX10_freezeHead_4 : (cX10_freezeHead.data.toList.drop 48).take 12 = [180, 0, 31, 50, 78, 45, 27, 181, 0, 128, 45, 44] := by decide +kernel
theorem dX10_freezeHead_48 : decode cX10_freezeHead 48 = .ok (.getfield 31, 3) := dk_1180 (dk_g tcX10_freezeHead_4 0 rfl) (dk_g tcX10_freezeHead_4 1 rfl) (dk_g tcX10_freezeHead_4 2 rfl) rfl
theorem dX10_freezeHead_51 : decode cX10_freezeHead 51 = .ok (.aaload, 1) := dk_1050 (dk_g tcX10_freezeHead_4 3 rfl)
theorem dX10_freezeHead_52 : decode cX10_freezeHead 52 = .ok (.astore_n 3, 1) := dk_1078 (dk_g tcX10_freezeHead_4 4 rfl)
theorem dX10_freezeHead_53 : decode cX10_freezeHead 53 = .ok (.aload_n 3, 1) := dk_1045 (dk_g tcX10_freezeHead_4 5 rfl)
theorem dX10_freezeHead_54 : decode cX10_freezeHead 54 = .ok (.iload_n 1, 1) := dk_1027 (dk_g tcX10_freezeHead_4 6 rfl)
theorem dX10_freezeHead_55 : decode cX10_freezeHead 55 = .ok (.putfield 128, 3) := dk_1181 (dk_g tcX10_freezeHead_4 7 rfl) (dk_g tcX10_freezeHead_4 8 rfl) (dk_g tcX10_freezeHead_4 9 rfl) rfl
theorem dX10_freezeHead_58 : decode cX10_freezeHead 58 = .ok (.aload_n 3, 1) := dk_1045 (dk_g tcX10_freezeHead_4 10 rfl)
theorem dX10_freezeHead_59 : decode cX10_freezeHead 59 = .ok (.aload_n 2, 1) := dk_1044 (dk_g tcX10_freezeHead_4 11 rfl)
theorem tcX10_freezeHead_5 : (cX10_freezeHead.data.toList.drop 60).take 12 = [180, 0, 68, 181, 0, 131, 45, 42, 44, 44, 180, 0] := by decide +kernel
theorem dX10_freezeHead_60 : decode cX10_freezeHead 60 = .ok (.getfield 68, 3) := dk_1180 (dk_g tcX10_freezeHead_5 0 rfl) (dk_g tcX10_freezeHead_5 1 rfl) (dk_g tcX10_freezeHead_5 2 rfl) rfl
theorem dX10_freezeHead_63 : decode cX10_freezeHead 63 = .ok (.putfield 131, 3) := dk_1181 (dk_g tcX10_freezeHead_5 3 rfl) (dk_g tcX10_freezeHead_5 4 rfl) (dk_g tcX10_freezeHead_5 5 rfl) rfl
theorem dX10_freezeHead_66 : decode cX10_freezeHead 66 = .ok (.aload_n 3, 1) := dk_1045 (dk_g tcX10_freezeHead_5 6 rfl)
theorem dX10_freezeHead_67 : decode cX10_freezeHead 67 = .ok (.aload_n 0, 1) := dk_1042 (dk_g tcX10_freezeHead_5 7 rfl)
theorem dX10_freezeHead_68 : decode cX10_freezeHead 68 = .ok (.aload_n 2, 1) := dk_1044 (dk_g tcX10_freezeHead_5 8 rfl)
theorem dX10_freezeHead_69 : decode cX10_freezeHead 69 = .ok (.aload_n 2, 1) := dk_1044 (dk_g tcX10_freezeHead_5 9 rfl)
theorem tcX10_freezeHead_6 : (cX10_freezeHead.data.toList.drop 72).take 12 = [68, 182, 0, 107, 181, 0, 134, 45, 42, 180, 0, 40] := by decide +kernel
theorem dX10_freezeHead_70 : decode cX10_freezeHead 70 = .ok (.getfield 68, 3) := dk_1180 (dk_g tcX10_freezeHead_5 10 rfl) (dk_g tcX10_freezeHead_5 11 rfl) (dk_g tcX10_freezeHead_6 0 rfl) rfl
theorem dX10_freezeHead_73 : decode cX10_freezeHead 73 = .ok (.invokevirtual 107, 3) := dk_1182 (dk_g tcX10_freezeHead_6 1 rfl) (dk_g tcX10_freezeHead_6 2 rfl) (dk_g tcX10_freezeHead_6 3 rfl) rfl
theorem dX10_freezeHead_76 : decode cX10_freezeHead 76 = .ok (.putfield 134, 3) := dk_1181 (dk_g tcX10_freezeHead_6 4 rfl) (dk_g tcX10_freezeHead_6 5 rfl) (dk_g tcX10_freezeHead_6 6 rfl) rfl
theorem dX10_freezeHead_79 : decode cX10_freezeHead 79 = .ok (.aload_n 3, 1) := dk_1045 (dk_g tcX10_freezeHead_6 7 rfl)
theorem dX10_freezeHead_80 : decode cX10_freezeHead 80 = .ok (.aload_n 0, 1) := dk_1042 (dk_g tcX10_freezeHead_6 8 rfl)
theorem dX10_freezeHead_81 : decode cX10_freezeHead 81 = .ok (.getfield 40, 3) := dk_1180 (dk_g tcX10_freezeHead_6 9 rfl) (dk_g tcX10_freezeHead_6 10 rfl) (dk_g tcX10_freezeHead_6 11 rfl) rfl
theorem tcX10_freezeHead_7 : (cX10_freezeHead.data.toList.drop 84).take 12 = [181, 0, 137, 42, 44, 44, 180, 0, 68, 45, 180, 0] := by decide +kernel
theorem dX10_freezeHead_84 : decode cX10_freezeHead 84 = .ok (.putfield 137, 3) := dk_1181 (dk_g tcX10_freezeHead_7 0 rfl) (dk_g tcX10_freezeHead_7 1 rfl) (dk_g tcX10_freezeHead_7 2 rfl) rfl
theorem dX10_freezeHead_87 : decode cX10_freezeHead 87 = .ok (.aload_n 0, 1) := dk_1042 (dk_g tcX10_freezeHead_7 3 rfl)
theorem dX10_freezeHead_88 : decode cX10_freezeHead 88 = .ok (.aload_n 2, 1) := dk_1044 (dk_g tcX10_freezeHead_7 4 rfl)
theorem dX10_freezeHead_89 : decode cX10_freezeHead 89 = .ok (.aload_n 2, 1) := dk_1044 (dk_g tcX10_freezeHead_7 5 rfl)
theorem dX10_freezeHead_90 : decode cX10_freezeHead 90 = .ok (.getfield 68, 3) := dk_1180 (dk_g tcX10_freezeHead_7 6 rfl) (dk_g tcX10_freezeHead_7 7 rfl) (dk_g tcX10_freezeHead_7 8 rfl) rfl
theorem dX10_freezeHead_93 : decode cX10_freezeHead 93 = .ok (.aload_n 3, 1) := dk_1045 (dk_g tcX10_freezeHead_7 9 rfl)
theorem tcX10_freezeHead_8 : (cX10_freezeHead.data.toList.drop 96).take 12 = [140, 182, 0, 143, 42, 89, 180, 0, 31, 4, 96, 181] := by decide +kernel
theorem dX10_freezeHead_94 : decode cX10_freezeHead 94 = .ok (.getfield 140, 3) := dk_1180 (dk_g tcX10_freezeHead_7 10 rfl) (dk_g tcX10_freezeHead_7 11 rfl) (dk_g tcX10_freezeHead_8 0 rfl) rfl
theorem dX10_freezeHead_97 : decode cX10_freezeHead 97 = .ok (.invokevirtual 143, 3) := dk_1182 (dk_g tcX10_freezeHead_8 1 rfl) (dk_g tcX10_freezeHead_8 2 rfl) (dk_g tcX10_freezeHead_8 3 rfl) rfl
theorem dX10_freezeHead_100 : decode cX10_freezeHead 100 = .ok (.aload_n 0, 1) := dk_1042 (dk_g tcX10_freezeHead_8 4 rfl)
theorem dX10_freezeHead_101 : decode cX10_freezeHead 101 = .ok (.dup, 1) := dk_1089 (dk_g tcX10_freezeHead_8 5 rfl)
theorem dX10_freezeHead_102 : decode cX10_freezeHead 102 = .ok (.getfield 31, 3) := dk_1180 (dk_g tcX10_freezeHead_8 6 rfl) (dk_g tcX10_freezeHead_8 7 rfl) (dk_g tcX10_freezeHead_8 8 rfl) rfl
theorem dX10_freezeHead_105 : decode cX10_freezeHead 105 = .ok (.iconst 1, 1) := dk_1004 (dk_g tcX10_freezeHead_8 9 rfl)
theorem dX10_freezeHead_106 : decode cX10_freezeHead 106 = .ok (.iadd, 1) := dk_1096 (dk_g tcX10_freezeHead_8 10 rfl)
theorem tcX10_freezeHead_9 : (cX10_freezeHead.data.toList.drop 108).take 12 = [0, 31, 42, 89, 180, 0, 40, 4, 96, 181, 0, 40] := by decide +kernel
theorem dX10_freezeHead_107 : decode cX10_freezeHead 107 = .ok (.putfield 31, 3) := dk_1181 (dk_g tcX10_freezeHead_8 11 rfl) (dk_g tcX10_freezeHead_9 0 rfl) (dk_g tcX10_freezeHead_9 1 rfl) rfl
theorem dX10_freezeHead_110 : decode cX10_freezeHead 110 = .ok (.aload_n 0, 1) := dk_1042 (dk_g tcX10_freezeHead_9 2 rfl)
theorem dX10_freezeHead_111 : decode cX10_freezeHead 111 = .ok (.dup, 1) := dk_1089 (dk_g tcX10_freezeHead_9 3 rfl)
theorem dX10_freezeHead_112 : decode cX10_freezeHead 112 = .ok (.getfield 40, 3) := dk_1180 (dk_g tcX10_freezeHead_9 4 rfl) (dk_g tcX10_freezeHead_9 5 rfl) (dk_g tcX10_freezeHead_9 6 rfl) rfl
theorem dX10_freezeHead_115 : decode cX10_freezeHead 115 = .ok (.iconst 1, 1) := dk_1004 (dk_g tcX10_freezeHead_9 7 rfl)
theorem dX10_freezeHead_116 : decode cX10_freezeHead 116 = .ok (.iadd, 1) := dk_1096 (dk_g tcX10_freezeHead_9 8 rfl)
theorem dX10_freezeHead_117 : decode cX10_freezeHead 117 = .ok (.putfield 40, 3) := dk_1181 (dk_g tcX10_freezeHead_9 9 rfl) (dk_g tcX10_freezeHead_9 10 rfl) (dk_g tcX10_freezeHead_9 11 rfl) rfl
theorem tcX10_freezeHead_10 : (cX10_freezeHead.data.toList.drop 120).take 12 = [42, 180, 0, 31, 4, 100, 172] := by decide +kernel
theorem dX10_freezeHead_120 : decode cX10_freezeHead 120 = .ok (.aload_n 0, 1) := dk_1042 (dk_g tcX10_freezeHead_10 0 rfl)
theorem dX10_freezeHead_121 : decode cX10_freezeHead 121 = .ok (.getfield 31, 3) := dk_1180 (dk_g tcX10_freezeHead_10 1 rfl) (dk_g tcX10_freezeHead_10 2 rfl) (dk_g tcX10_freezeHead_10 3 rfl) rfl
theorem dX10_freezeHead_124 : decode cX10_freezeHead 124 = .ok (.iconst 1, 1) := dk_1004 (dk_g tcX10_freezeHead_10 4 rfl)
theorem dX10_freezeHead_125 : decode cX10_freezeHead 125 = .ok (.isub, 1) := dk_1100 (dk_g tcX10_freezeHead_10 5 rfl)
theorem dX10_freezeHead_126 : decode cX10_freezeHead 126 = .ok (.ireturn, 1) := dk_1172 (dk_g tcX10_freezeHead_10 6 rfl)
theorem tcX10_spoilLetter_0 : (cX10_spoilLetter.data.toList.drop 0).take 12 = [43, 28, 29, 21, 4, 42, 180, 0, 10, 182, 0, 147] := by decide +kernel
theorem dX10_spoilLetter_0 : decode cX10_spoilLetter 0 = .ok (.aload_n 1, 1) := dk_1043 (dk_g tcX10_spoilLetter_0 0 rfl)
theorem dX10_spoilLetter_1 : decode cX10_spoilLetter 1 = .ok (.iload_n 2, 1) := dk_1028 (dk_g tcX10_spoilLetter_0 1 rfl)
theorem dX10_spoilLetter_2 : decode cX10_spoilLetter 2 = .ok (.iload_n 3, 1) := dk_1029 (dk_g tcX10_spoilLetter_0 2 rfl)
theorem dX10_spoilLetter_3 : decode cX10_spoilLetter 3 = .ok (.iload 4, 2) := dk_1021 (dk_g tcX10_spoilLetter_0 3 rfl) (dk_g tcX10_spoilLetter_0 4 rfl) rfl
theorem dX10_spoilLetter_5 : decode cX10_spoilLetter 5 = .ok (.aload_n 0, 1) := dk_1042 (dk_g tcX10_spoilLetter_0 5 rfl)
theorem dX10_spoilLetter_6 : decode cX10_spoilLetter 6 = .ok (.getfield 10, 3) := dk_1180 (dk_g tcX10_spoilLetter_0 6 rfl) (dk_g tcX10_spoilLetter_0 7 rfl) (dk_g tcX10_spoilLetter_0 8 rfl) rfl
theorem dX10_spoilLetter_9 : decode cX10_spoilLetter 9 = .ok (.invokevirtual 147, 3) := dk_1182 (dk_g tcX10_spoilLetter_0 9 rfl) (dk_g tcX10_spoilLetter_0 10 rfl) (dk_g tcX10_spoilLetter_0 11 rfl) rfl
theorem tcX10_spoilLetter_1 : (cX10_spoilLetter.data.toList.drop 12).take 12 = [42, 89, 180, 0, 40, 4, 96, 181, 0, 40, 177] := by decide +kernel
theorem dX10_spoilLetter_12 : decode cX10_spoilLetter 12 = .ok (.aload_n 0, 1) := dk_1042 (dk_g tcX10_spoilLetter_1 0 rfl)
theorem dX10_spoilLetter_13 : decode cX10_spoilLetter 13 = .ok (.dup, 1) := dk_1089 (dk_g tcX10_spoilLetter_1 1 rfl)
theorem dX10_spoilLetter_14 : decode cX10_spoilLetter 14 = .ok (.getfield 40, 3) := dk_1180 (dk_g tcX10_spoilLetter_1 2 rfl) (dk_g tcX10_spoilLetter_1 3 rfl) (dk_g tcX10_spoilLetter_1 4 rfl) rfl
theorem dX10_spoilLetter_17 : decode cX10_spoilLetter 17 = .ok (.iconst 1, 1) := dk_1004 (dk_g tcX10_spoilLetter_1 5 rfl)
theorem dX10_spoilLetter_18 : decode cX10_spoilLetter 18 = .ok (.iadd, 1) := dk_1096 (dk_g tcX10_spoilLetter_1 6 rfl)
theorem dX10_spoilLetter_19 : decode cX10_spoilLetter 19 = .ok (.putfield 40, 3) := dk_1181 (dk_g tcX10_spoilLetter_1 7 rfl) (dk_g tcX10_spoilLetter_1 8 rfl) (dk_g tcX10_spoilLetter_1 9 rfl) rfl
theorem dX10_spoilLetter_22 : decode cX10_spoilLetter 22 = .ok (.return_, 1) := dk_1177 (dk_g tcX10_spoilLetter_1 10 rfl)
theorem tcX10_whyGrown_0 : (cX10_whyGrown.data.toList.drop 0).take 12 = [43, 198, 0, 12, 21, 4, 43, 180, 0, 68, 164, 0] := by decide +kernel
theorem dX10_whyGrown_0 : decode cX10_whyGrown 0 = .ok (.aload_n 1, 1) := dk_1043 (dk_g tcX10_whyGrown_0 0 rfl)
theorem dX10_whyGrown_1 : decode cX10_whyGrown 1 = .ok (.ifnull 12, 3) := dk_2198 (dk_g tcX10_whyGrown_0 1 rfl) (dk_g tcX10_whyGrown_0 2 rfl) (dk_g tcX10_whyGrown_0 3 rfl) rfl rfl
theorem dX10_whyGrown_4 : decode cX10_whyGrown 4 = .ok (.iload 4, 2) := dk_1021 (dk_g tcX10_whyGrown_0 4 rfl) (dk_g tcX10_whyGrown_0 5 rfl) rfl
theorem dX10_whyGrown_6 : decode cX10_whyGrown 6 = .ok (.aload_n 1, 1) := dk_1043 (dk_g tcX10_whyGrown_0 6 rfl)
theorem dX10_whyGrown_7 : decode cX10_whyGrown 7 = .ok (.getfield 68, 3) := dk_1180 (dk_g tcX10_whyGrown_0 7 rfl) (dk_g tcX10_whyGrown_0 8 rfl) (dk_g tcX10_whyGrown_0 9 rfl) rfl
theorem tcX10_whyGrown_1 : (cX10_whyGrown.data.toList.drop 12).take 12 = [5, 8, 172, 42, 180, 0, 57, 28, 21, 4, 182, 0] := by decide +kernel
theorem dX10_whyGrown_10 : decode cX10_whyGrown 10 = .ok (.if_icmp .le 5, 3) := dk_2164 (dk_g tcX10_whyGrown_0 10 rfl) (dk_g tcX10_whyGrown_0 11 rfl) (dk_g tcX10_whyGrown_1 0 rfl) rfl rfl
theorem dX10_whyGrown_13 : decode cX10_whyGrown 13 = .ok (.iconst 5, 1) := dk_1008 (dk_g tcX10_whyGrown_1 1 rfl)
theorem dX10_whyGrown_14 : decode cX10_whyGrown 14 = .ok (.ireturn, 1) := dk_1172 (dk_g tcX10_whyGrown_1 2 rfl)
theorem dX10_whyGrown_15 : decode cX10_whyGrown 15 = .ok (.aload_n 0, 1) := dk_1042 (dk_g tcX10_whyGrown_1 3 rfl)
theorem dX10_whyGrown_16 : decode cX10_whyGrown 16 = .ok (.getfield 57, 3) := dk_1180 (dk_g tcX10_whyGrown_1 4 rfl) (dk_g tcX10_whyGrown_1 5 rfl) (dk_g tcX10_whyGrown_1 6 rfl) rfl
theorem dX10_whyGrown_19 : decode cX10_whyGrown 19 = .ok (.iload_n 2, 1) := dk_1028 (dk_g tcX10_whyGrown_1 7 rfl)
theorem dX10_whyGrown_20 : decode cX10_whyGrown 20 = .ok (.iload 4, 2) := dk_1021 (dk_g tcX10_whyGrown_1 8 rfl) (dk_g tcX10_whyGrown_1 9 rfl) rfl
theorem tcX10_whyGrown_2 : (cX10_whyGrown.data.toList.drop 24).take 12 = [151, 42, 42, 180, 0, 57, 43, 42, 180, 0, 50, 182] := by decide +kernel
theorem dX10_whyGrown_22 : decode cX10_whyGrown 22 = .ok (.invokevirtual 151, 3) := dk_1182 (dk_g tcX10_whyGrown_1 10 rfl) (dk_g tcX10_whyGrown_1 11 rfl) (dk_g tcX10_whyGrown_2 0 rfl) rfl
theorem dX10_whyGrown_25 : decode cX10_whyGrown 25 = .ok (.aload_n 0, 1) := dk_1042 (dk_g tcX10_whyGrown_2 1 rfl)
theorem dX10_whyGrown_26 : decode cX10_whyGrown 26 = .ok (.aload_n 0, 1) := dk_1042 (dk_g tcX10_whyGrown_2 2 rfl)
theorem dX10_whyGrown_27 : decode cX10_whyGrown 27 = .ok (.getfield 57, 3) := dk_1180 (dk_g tcX10_whyGrown_2 3 rfl) (dk_g tcX10_whyGrown_2 4 rfl) (dk_g tcX10_whyGrown_2 5 rfl) rfl
theorem dX10_whyGrown_30 : decode cX10_whyGrown 30 = .ok (.aload_n 1, 1) := dk_1043 (dk_g tcX10_whyGrown_2 6 rfl)
theorem dX10_whyGrown_31 : decode cX10_whyGrown 31 = .ok (.aload_n 0, 1) := dk_1042 (dk_g tcX10_whyGrown_2 7 rfl)
theorem dX10_whyGrown_32 : decode cX10_whyGrown 32 = .ok (.getfield 50, 3) := dk_1180 (dk_g tcX10_whyGrown_2 8 rfl) (dk_g tcX10_whyGrown_2 9 rfl) (dk_g tcX10_whyGrown_2 10 rfl) rfl
theorem tcX10_whyGrown_3 : (cX10_whyGrown.data.toList.drop 36).take 12 = [0, 155, 42, 180, 0, 57, 42, 180, 0, 10, 42, 180] := by decide +kernel
theorem dX10_whyGrown_35 : decode cX10_whyGrown 35 = .ok (.invokevirtual 155, 3) := dk_1182 (dk_g tcX10_whyGrown_2 11 rfl) (dk_g tcX10_whyGrown_3 0 rfl) (dk_g tcX10_whyGrown_3 1 rfl) rfl
theorem dX10_whyGrown_38 : decode cX10_whyGrown 38 = .ok (.aload_n 0, 1) := dk_1042 (dk_g tcX10_whyGrown_3 2 rfl)
theorem dX10_whyGrown_39 : decode cX10_whyGrown 39 = .ok (.getfield 57, 3) := dk_1180 (dk_g tcX10_whyGrown_3 3 rfl) (dk_g tcX10_whyGrown_3 4 rfl) (dk_g tcX10_whyGrown_3 5 rfl) rfl
theorem dX10_whyGrown_42 : decode cX10_whyGrown 42 = .ok (.aload_n 0, 1) := dk_1042 (dk_g tcX10_whyGrown_3 6 rfl)
theorem dX10_whyGrown_43 : decode cX10_whyGrown 43 = .ok (.getfield 10, 3) := dk_1180 (dk_g tcX10_whyGrown_3 7 rfl) (dk_g tcX10_whyGrown_3 8 rfl) (dk_g tcX10_whyGrown_3 9 rfl) rfl
theorem dX10_whyGrown_46 : decode cX10_whyGrown 46 = .ok (.aload_n 0, 1) := dk_1042 (dk_g tcX10_whyGrown_3 10 rfl)
theorem tcX10_whyGrown_4 : (cX10_whyGrown.data.toList.drop 48).take 12 = [0, 50, 28, 29, 21, 4, 21, 5, 182, 0, 159, 172] := by decide +kernel
theorem dX10_whyGrown_47 : decode cX10_whyGrown 47 = .ok (.getfield 50, 3) := dk_1180 (dk_g tcX10_whyGrown_3 11 rfl) (dk_g tcX10_whyGrown_4 0 rfl) (dk_g tcX10_whyGrown_4 1 rfl) rfl
theorem dX10_whyGrown_50 : decode cX10_whyGrown 50 = .ok (.iload_n 2, 1) := dk_1028 (dk_g tcX10_whyGrown_4 2 rfl)
theorem dX10_whyGrown_51 : decode cX10_whyGrown 51 = .ok (.iload_n 3, 1) := dk_1029 (dk_g tcX10_whyGrown_4 3 rfl)
theorem dX10_whyGrown_52 : decode cX10_whyGrown 52 = .ok (.iload 4, 2) := dk_1021 (dk_g tcX10_whyGrown_4 4 rfl) (dk_g tcX10_whyGrown_4 5 rfl) rfl
theorem dX10_whyGrown_54 : decode cX10_whyGrown 54 = .ok (.iload 5, 2) := dk_1021 (dk_g tcX10_whyGrown_4 6 rfl) (dk_g tcX10_whyGrown_4 7 rfl) rfl
theorem dX10_whyGrown_56 : decode cX10_whyGrown 56 = .ok (.invokevirtual 159, 3) := dk_1182 (dk_g tcX10_whyGrown_4 8 rfl) (dk_g tcX10_whyGrown_4 9 rfl) (dk_g tcX10_whyGrown_4 10 rfl) rfl
theorem dX10_whyGrown_59 : decode cX10_whyGrown 59 = .ok (.ireturn, 1) := dk_1172 (dk_g tcX10_whyGrown_4 11 rfl)
theorem tcX10_showTo_0 : (cX10_showTo.data.toList.drop 0).take 12 = [43, 199, 0, 5, 2, 172, 42, 44, 29, 182, 0, 107] := by decide +kernel
theorem dX10_showTo_0 : decode cX10_showTo 0 = .ok (.aload_n 1, 1) := dk_1043 (dk_g tcX10_showTo_0 0 rfl)
theorem dX10_showTo_1 : decode cX10_showTo 1 = .ok (.ifnonnull 5, 3) := dk_2199 (dk_g tcX10_showTo_0 1 rfl) (dk_g tcX10_showTo_0 2 rfl) (dk_g tcX10_showTo_0 3 rfl) rfl rfl
theorem dX10_showTo_4 : decode cX10_showTo 4 = .ok (.iconst (-1), 1) := dk_1002 (dk_g tcX10_showTo_0 4 rfl)
theorem dX10_showTo_5 : decode cX10_showTo 5 = .ok (.ireturn, 1) := dk_1172 (dk_g tcX10_showTo_0 5 rfl)
theorem dX10_showTo_6 : decode cX10_showTo 6 = .ok (.aload_n 0, 1) := dk_1042 (dk_g tcX10_showTo_0 6 rfl)
theorem dX10_showTo_7 : decode cX10_showTo 7 = .ok (.aload_n 2, 1) := dk_1044 (dk_g tcX10_showTo_0 7 rfl)
theorem dX10_showTo_8 : decode cX10_showTo 8 = .ok (.iload_n 3, 1) := dk_1029 (dk_g tcX10_showTo_0 8 rfl)
theorem dX10_showTo_9 : decode cX10_showTo 9 = .ok (.invokevirtual 107, 3) := dk_1182 (dk_g tcX10_showTo_0 9 rfl) (dk_g tcX10_showTo_0 10 rfl) (dk_g tcX10_showTo_0 11 rfl) rfl
theorem tcX10_showTo_1 : (cX10_showTo.data.toList.drop 12).take 12 = [54, 4, 29, 43, 180, 0, 163, 161, 0, 7, 4, 167] := by decide +kernel
theorem dX10_showTo_12 : decode cX10_showTo 12 = .ok (.istore 4, 2) := dk_1054 (dk_g tcX10_showTo_1 0 rfl) (dk_g tcX10_showTo_1 1 rfl) rfl
theorem dX10_showTo_14 : decode cX10_showTo 14 = .ok (.iload_n 3, 1) := dk_1029 (dk_g tcX10_showTo_1 2 rfl)
theorem dX10_showTo_15 : decode cX10_showTo 15 = .ok (.aload_n 1, 1) := dk_1043 (dk_g tcX10_showTo_1 3 rfl)
theorem dX10_showTo_16 : decode cX10_showTo 16 = .ok (.getfield 163, 3) := dk_1180 (dk_g tcX10_showTo_1 4 rfl) (dk_g tcX10_showTo_1 5 rfl) (dk_g tcX10_showTo_1 6 rfl) rfl
theorem dX10_showTo_19 : decode cX10_showTo 19 = .ok (.if_icmp .lt 7, 3) := dk_2161 (dk_g tcX10_showTo_1 7 rfl) (dk_g tcX10_showTo_1 8 rfl) (dk_g tcX10_showTo_1 9 rfl) rfl rfl
theorem dX10_showTo_22 : decode cX10_showTo 22 = .ok (.iconst 1, 1) := dk_1004 (dk_g tcX10_showTo_1 10 rfl)
theorem tcX10_showTo_2 : (cX10_showTo.data.toList.drop 24).take 12 = [0, 4, 3, 54, 5, 21, 5, 153, 0, 22, 42, 44] := by decide +kernel
theorem dX10_showTo_23 : decode cX10_showTo 23 = .ok (.goto 4, 3) := dk_2167 (dk_g tcX10_showTo_1 11 rfl) (dk_g tcX10_showTo_2 0 rfl) (dk_g tcX10_showTo_2 1 rfl) rfl rfl
theorem dX10_showTo_26 : decode cX10_showTo 26 = .ok (.iconst 0, 1) := dk_1003 (dk_g tcX10_showTo_2 2 rfl)
theorem dX10_showTo_27 : decode cX10_showTo 27 = .ok (.istore 5, 2) := dk_1054 (dk_g tcX10_showTo_2 3 rfl) (dk_g tcX10_showTo_2 4 rfl) rfl
theorem dX10_showTo_29 : decode cX10_showTo 29 = .ok (.iload 5, 2) := dk_1021 (dk_g tcX10_showTo_2 5 rfl) (dk_g tcX10_showTo_2 6 rfl) rfl
theorem dX10_showTo_31 : decode cX10_showTo 31 = .ok (.ifCond .eq 22, 3) := dk_2153 (dk_g tcX10_showTo_2 7 rfl) (dk_g tcX10_showTo_2 8 rfl) (dk_g tcX10_showTo_2 9 rfl) rfl rfl
theorem dX10_showTo_34 : decode cX10_showTo 34 = .ok (.aload_n 0, 1) := dk_1042 (dk_g tcX10_showTo_2 10 rfl)
theorem dX10_showTo_35 : decode cX10_showTo 35 = .ok (.aload_n 2, 1) := dk_1044 (dk_g tcX10_showTo_2 11 rfl)
theorem tcX10_showTo_3 : (cX10_showTo.data.toList.drop 36).take 12 = [43, 180, 0, 163, 43, 180, 0, 164, 29, 21, 4, 182] := by decide +kernel
theorem dX10_showTo_36 : decode cX10_showTo 36 = .ok (.aload_n 1, 1) := dk_1043 (dk_g tcX10_showTo_3 0 rfl)
theorem dX10_showTo_37 : decode cX10_showTo 37 = .ok (.getfield 163, 3) := dk_1180 (dk_g tcX10_showTo_3 1 rfl) (dk_g tcX10_showTo_3 2 rfl) (dk_g tcX10_showTo_3 3 rfl) rfl
theorem dX10_showTo_40 : decode cX10_showTo 40 = .ok (.aload_n 1, 1) := dk_1043 (dk_g tcX10_showTo_3 4 rfl)
theorem dX10_showTo_41 : decode cX10_showTo 41 = .ok (.getfield 164, 3) := dk_1180 (dk_g tcX10_showTo_3 5 rfl) (dk_g tcX10_showTo_3 6 rfl) (dk_g tcX10_showTo_3 7 rfl) rfl
theorem dX10_showTo_44 : decode cX10_showTo 44 = .ok (.iload_n 3, 1) := dk_1029 (dk_g tcX10_showTo_3 8 rfl)
theorem dX10_showTo_45 : decode cX10_showTo 45 = .ok (.iload 4, 2) := dk_1021 (dk_g tcX10_showTo_3 9 rfl) (dk_g tcX10_showTo_3 10 rfl) rfl
theorem tcX10_showTo_4 : (cX10_showTo.data.toList.drop 48).take 12 = [0, 167, 167, 0, 19, 42, 44, 29, 21, 4, 43, 180] := by decide +kernel
theorem dX10_showTo_47 : decode cX10_showTo 47 = .ok (.invokevirtual 167, 3) := dk_1182 (dk_g tcX10_showTo_3 11 rfl) (dk_g tcX10_showTo_4 0 rfl) (dk_g tcX10_showTo_4 1 rfl) rfl
theorem dX10_showTo_50 : decode cX10_showTo 50 = .ok (.goto 19, 3) := dk_2167 (dk_g tcX10_showTo_4 2 rfl) (dk_g tcX10_showTo_4 3 rfl) (dk_g tcX10_showTo_4 4 rfl) rfl rfl
theorem dX10_showTo_53 : decode cX10_showTo 53 = .ok (.aload_n 0, 1) := dk_1042 (dk_g tcX10_showTo_4 5 rfl)
theorem dX10_showTo_54 : decode cX10_showTo 54 = .ok (.aload_n 2, 1) := dk_1044 (dk_g tcX10_showTo_4 6 rfl)
theorem dX10_showTo_55 : decode cX10_showTo 55 = .ok (.iload_n 3, 1) := dk_1029 (dk_g tcX10_showTo_4 7 rfl)
theorem dX10_showTo_56 : decode cX10_showTo 56 = .ok (.iload 4, 2) := dk_1021 (dk_g tcX10_showTo_4 8 rfl) (dk_g tcX10_showTo_4 9 rfl) rfl
theorem dX10_showTo_58 : decode cX10_showTo 58 = .ok (.aload_n 1, 1) := dk_1043 (dk_g tcX10_showTo_4 10 rfl)
theorem tcX10_showTo_5 : (cX10_showTo.data.toList.drop 60).take 12 = [0, 163, 43, 180, 0, 164, 182, 0, 167, 54, 6, 21] := by decide +kernel
theorem dX10_showTo_59 : decode cX10_showTo 59 = .ok (.getfield 163, 3) := dk_1180 (dk_g tcX10_showTo_4 11 rfl) (dk_g tcX10_showTo_5 0 rfl) (dk_g tcX10_showTo_5 1 rfl) rfl
theorem dX10_showTo_62 : decode cX10_showTo 62 = .ok (.aload_n 1, 1) := dk_1043 (dk_g tcX10_showTo_5 2 rfl)
theorem dX10_showTo_63 : decode cX10_showTo 63 = .ok (.getfield 164, 3) := dk_1180 (dk_g tcX10_showTo_5 3 rfl) (dk_g tcX10_showTo_5 4 rfl) (dk_g tcX10_showTo_5 5 rfl) rfl
theorem dX10_showTo_66 : decode cX10_showTo 66 = .ok (.invokevirtual 167, 3) := dk_1182 (dk_g tcX10_showTo_5 6 rfl) (dk_g tcX10_showTo_5 7 rfl) (dk_g tcX10_showTo_5 8 rfl) rfl
theorem dX10_showTo_69 : decode cX10_showTo 69 = .ok (.istore 6, 2) := dk_1054 (dk_g tcX10_showTo_5 9 rfl) (dk_g tcX10_showTo_5 10 rfl) rfl
theorem tcX10_showTo_6 : (cX10_showTo.data.toList.drop 72).take 12 = [6, 154, 0, 15, 21, 5, 153, 0, 10, 43, 29, 21] := by decide +kernel
theorem dX10_showTo_71 : decode cX10_showTo 71 = .ok (.iload 6, 2) := dk_1021 (dk_g tcX10_showTo_5 11 rfl) (dk_g tcX10_showTo_6 0 rfl) rfl
theorem dX10_showTo_73 : decode cX10_showTo 73 = .ok (.ifCond .ne 15, 3) := dk_2154 (dk_g tcX10_showTo_6 1 rfl) (dk_g tcX10_showTo_6 2 rfl) (dk_g tcX10_showTo_6 3 rfl) rfl rfl
theorem dX10_showTo_76 : decode cX10_showTo 76 = .ok (.iload 5, 2) := dk_1021 (dk_g tcX10_showTo_6 4 rfl) (dk_g tcX10_showTo_6 5 rfl) rfl
theorem dX10_showTo_78 : decode cX10_showTo 78 = .ok (.ifCond .eq 10, 3) := dk_2153 (dk_g tcX10_showTo_6 6 rfl) (dk_g tcX10_showTo_6 7 rfl) (dk_g tcX10_showTo_6 8 rfl) rfl rfl
theorem dX10_showTo_81 : decode cX10_showTo 81 = .ok (.aload_n 1, 1) := dk_1043 (dk_g tcX10_showTo_6 9 rfl)
theorem dX10_showTo_82 : decode cX10_showTo 82 = .ok (.iload_n 3, 1) := dk_1029 (dk_g tcX10_showTo_6 10 rfl)
theorem tcX10_showTo_7 : (cX10_showTo.data.toList.drop 84).take 12 = [4, 182, 0, 171, 43, 21, 6, 182, 0, 174, 43, 89] := by decide +kernel
theorem dX10_showTo_83 : decode cX10_showTo 83 = .ok (.iload 4, 2) := dk_1021 (dk_g tcX10_showTo_6 11 rfl) (dk_g tcX10_showTo_7 0 rfl) rfl
theorem dX10_showTo_85 : decode cX10_showTo 85 = .ok (.invokevirtual 171, 3) := dk_1182 (dk_g tcX10_showTo_7 1 rfl) (dk_g tcX10_showTo_7 2 rfl) (dk_g tcX10_showTo_7 3 rfl) rfl
theorem dX10_showTo_88 : decode cX10_showTo 88 = .ok (.aload_n 1, 1) := dk_1043 (dk_g tcX10_showTo_7 4 rfl)
theorem dX10_showTo_89 : decode cX10_showTo 89 = .ok (.iload 6, 2) := dk_1021 (dk_g tcX10_showTo_7 5 rfl) (dk_g tcX10_showTo_7 6 rfl) rfl
theorem dX10_showTo_91 : decode cX10_showTo 91 = .ok (.invokevirtual 174, 3) := dk_1182 (dk_g tcX10_showTo_7 7 rfl) (dk_g tcX10_showTo_7 8 rfl) (dk_g tcX10_showTo_7 9 rfl) rfl
theorem dX10_showTo_94 : decode cX10_showTo 94 = .ok (.aload_n 1, 1) := dk_1043 (dk_g tcX10_showTo_7 10 rfl)
theorem dX10_showTo_95 : decode cX10_showTo 95 = .ok (.dup, 1) := dk_1089 (dk_g tcX10_showTo_7 11 rfl)
theorem tcX10_showTo_8 : (cX10_showTo.data.toList.drop 96).take 12 = [180, 0, 177, 4, 96, 181, 0, 177, 42, 89, 180, 0] := by decide +kernel
theorem dX10_showTo_96 : decode cX10_showTo 96 = .ok (.getfield 177, 3) := dk_1180 (dk_g tcX10_showTo_8 0 rfl) (dk_g tcX10_showTo_8 1 rfl) (dk_g tcX10_showTo_8 2 rfl) rfl
theorem dX10_showTo_99 : decode cX10_showTo 99 = .ok (.iconst 1, 1) := dk_1004 (dk_g tcX10_showTo_8 3 rfl)
theorem dX10_showTo_100 : decode cX10_showTo 100 = .ok (.iadd, 1) := dk_1096 (dk_g tcX10_showTo_8 4 rfl)
theorem dX10_showTo_101 : decode cX10_showTo 101 = .ok (.putfield 177, 3) := dk_1181 (dk_g tcX10_showTo_8 5 rfl) (dk_g tcX10_showTo_8 6 rfl) (dk_g tcX10_showTo_8 7 rfl) rfl
theorem dX10_showTo_104 : decode cX10_showTo 104 = .ok (.aload_n 0, 1) := dk_1042 (dk_g tcX10_showTo_8 8 rfl)
theorem dX10_showTo_105 : decode cX10_showTo 105 = .ok (.dup, 1) := dk_1089 (dk_g tcX10_showTo_8 9 rfl)
theorem tcX10_showTo_9 : (cX10_showTo.data.toList.drop 108).take 12 = [40, 4, 96, 181, 0, 40, 21, 6, 172] := by decide +kernel
theorem dX10_showTo_106 : decode cX10_showTo 106 = .ok (.getfield 40, 3) := dk_1180 (dk_g tcX10_showTo_8 10 rfl) (dk_g tcX10_showTo_8 11 rfl) (dk_g tcX10_showTo_9 0 rfl) rfl
theorem dX10_showTo_109 : decode cX10_showTo 109 = .ok (.iconst 1, 1) := dk_1004 (dk_g tcX10_showTo_9 1 rfl)
theorem dX10_showTo_110 : decode cX10_showTo 110 = .ok (.iadd, 1) := dk_1096 (dk_g tcX10_showTo_9 2 rfl)
theorem dX10_showTo_111 : decode cX10_showTo 111 = .ok (.putfield 40, 3) := dk_1181 (dk_g tcX10_showTo_9 3 rfl) (dk_g tcX10_showTo_9 4 rfl) (dk_g tcX10_showTo_9 5 rfl) rfl
theorem dX10_showTo_114 : decode cX10_showTo 114 = .ok (.iload 6, 2) := dk_1021 (dk_g tcX10_showTo_9 6 rfl) (dk_g tcX10_showTo_9 7 rfl) rfl
theorem dX10_showTo_116 : decode cX10_showTo 116 = .ok (.ireturn, 1) := dk_1172 (dk_g tcX10_showTo_9 8 rfl)
theorem tcX10_meetBy_0 : (cX10_meetBy.data.toList.drop 0).take 12 = [43, 180, 0, 163, 44, 180, 0, 163, 163, 0, 7, 4] := by decide +kernel
theorem dX10_meetBy_0 : decode cX10_meetBy 0 = .ok (.aload_n 1, 1) := dk_1043 (dk_g tcX10_meetBy_0 0 rfl)
theorem dX10_meetBy_1 : decode cX10_meetBy 1 = .ok (.getfield 163, 3) := dk_1180 (dk_g tcX10_meetBy_0 1 rfl) (dk_g tcX10_meetBy_0 2 rfl) (dk_g tcX10_meetBy_0 3 rfl) rfl
theorem dX10_meetBy_4 : decode cX10_meetBy 4 = .ok (.aload_n 2, 1) := dk_1044 (dk_g tcX10_meetBy_0 4 rfl)
theorem dX10_meetBy_5 : decode cX10_meetBy 5 = .ok (.getfield 163, 3) := dk_1180 (dk_g tcX10_meetBy_0 5 rfl) (dk_g tcX10_meetBy_0 6 rfl) (dk_g tcX10_meetBy_0 7 rfl) rfl
theorem dX10_meetBy_8 : decode cX10_meetBy 8 = .ok (.if_icmp .gt 7, 3) := dk_2163 (dk_g tcX10_meetBy_0 8 rfl) (dk_g tcX10_meetBy_0 9 rfl) (dk_g tcX10_meetBy_0 10 rfl) rfl rfl
theorem dX10_meetBy_11 : decode cX10_meetBy 11 = .ok (.iconst 1, 1) := dk_1004 (dk_g tcX10_meetBy_0 11 rfl)
theorem tcX10_meetBy_1 : (cX10_meetBy.data.toList.drop 12).take 12 = [167, 0, 4, 3, 54, 4, 21, 4, 153, 0, 7, 43] := by decide +kernel
theorem dX10_meetBy_12 : decode cX10_meetBy 12 = .ok (.goto 4, 3) := dk_2167 (dk_g tcX10_meetBy_1 0 rfl) (dk_g tcX10_meetBy_1 1 rfl) (dk_g tcX10_meetBy_1 2 rfl) rfl rfl
theorem dX10_meetBy_15 : decode cX10_meetBy 15 = .ok (.iconst 0, 1) := dk_1003 (dk_g tcX10_meetBy_1 3 rfl)
theorem dX10_meetBy_16 : decode cX10_meetBy 16 = .ok (.istore 4, 2) := dk_1054 (dk_g tcX10_meetBy_1 4 rfl) (dk_g tcX10_meetBy_1 5 rfl) rfl
theorem dX10_meetBy_18 : decode cX10_meetBy 18 = .ok (.iload 4, 2) := dk_1021 (dk_g tcX10_meetBy_1 6 rfl) (dk_g tcX10_meetBy_1 7 rfl) rfl
theorem dX10_meetBy_20 : decode cX10_meetBy 20 = .ok (.ifCond .eq 7, 3) := dk_2153 (dk_g tcX10_meetBy_1 8 rfl) (dk_g tcX10_meetBy_1 9 rfl) (dk_g tcX10_meetBy_1 10 rfl) rfl rfl
theorem dX10_meetBy_23 : decode cX10_meetBy 23 = .ok (.aload_n 1, 1) := dk_1043 (dk_g tcX10_meetBy_1 11 rfl)
theorem tcX10_meetBy_2 : (cX10_meetBy.data.toList.drop 24).take 12 = [167, 0, 4, 44, 58, 5, 21, 4, 153, 0, 7, 44] := by decide +kernel
theorem dX10_meetBy_24 : decode cX10_meetBy 24 = .ok (.goto 4, 3) := dk_2167 (dk_g tcX10_meetBy_2 0 rfl) (dk_g tcX10_meetBy_2 1 rfl) (dk_g tcX10_meetBy_2 2 rfl) rfl rfl
theorem dX10_meetBy_27 : decode cX10_meetBy 27 = .ok (.aload_n 2, 1) := dk_1044 (dk_g tcX10_meetBy_2 3 rfl)
theorem dX10_meetBy_28 : decode cX10_meetBy 28 = .ok (.astore 5, 2) := dk_1058 (dk_g tcX10_meetBy_2 4 rfl) (dk_g tcX10_meetBy_2 5 rfl) rfl
theorem dX10_meetBy_30 : decode cX10_meetBy 30 = .ok (.iload 4, 2) := dk_1021 (dk_g tcX10_meetBy_2 6 rfl) (dk_g tcX10_meetBy_2 7 rfl) rfl
theorem dX10_meetBy_32 : decode cX10_meetBy 32 = .ok (.ifCond .eq 7, 3) := dk_2153 (dk_g tcX10_meetBy_2 8 rfl) (dk_g tcX10_meetBy_2 9 rfl) (dk_g tcX10_meetBy_2 10 rfl) rfl rfl
theorem dX10_meetBy_35 : decode cX10_meetBy 35 = .ok (.aload_n 2, 1) := dk_1044 (dk_g tcX10_meetBy_2 11 rfl)
theorem tcX10_meetBy_3 : (cX10_meetBy.data.toList.drop 36).take 12 = [167, 0, 4, 43, 58, 6, 42, 45, 25, 5, 180, 0] := by decide +kernel
theorem dX10_meetBy_36 : decode cX10_meetBy 36 = .ok (.goto 4, 3) := dk_2167 (dk_g tcX10_meetBy_3 0 rfl) (dk_g tcX10_meetBy_3 1 rfl) (dk_g tcX10_meetBy_3 2 rfl) rfl rfl
theorem dX10_meetBy_39 : decode cX10_meetBy 39 = .ok (.aload_n 1, 1) := dk_1043 (dk_g tcX10_meetBy_3 3 rfl)
theorem dX10_meetBy_40 : decode cX10_meetBy 40 = .ok (.astore 6, 2) := dk_1058 (dk_g tcX10_meetBy_3 4 rfl) (dk_g tcX10_meetBy_3 5 rfl) rfl
theorem dX10_meetBy_42 : decode cX10_meetBy 42 = .ok (.aload_n 0, 1) := dk_1042 (dk_g tcX10_meetBy_3 6 rfl)
theorem dX10_meetBy_43 : decode cX10_meetBy 43 = .ok (.aload_n 3, 1) := dk_1045 (dk_g tcX10_meetBy_3 7 rfl)
theorem dX10_meetBy_44 : decode cX10_meetBy 44 = .ok (.aload 5, 2) := dk_1025 (dk_g tcX10_meetBy_3 8 rfl) (dk_g tcX10_meetBy_3 9 rfl) rfl
theorem tcX10_meetBy_4 : (cX10_meetBy.data.toList.drop 48).take 12 = [163, 25, 5, 180, 0, 164, 25, 6, 180, 0, 163, 25] := by decide +kernel
theorem dX10_meetBy_46 : decode cX10_meetBy 46 = .ok (.getfield 163, 3) := dk_1180 (dk_g tcX10_meetBy_3 10 rfl) (dk_g tcX10_meetBy_3 11 rfl) (dk_g tcX10_meetBy_4 0 rfl) rfl
theorem dX10_meetBy_49 : decode cX10_meetBy 49 = .ok (.aload 5, 2) := dk_1025 (dk_g tcX10_meetBy_4 1 rfl) (dk_g tcX10_meetBy_4 2 rfl) rfl
theorem dX10_meetBy_51 : decode cX10_meetBy 51 = .ok (.getfield 164, 3) := dk_1180 (dk_g tcX10_meetBy_4 3 rfl) (dk_g tcX10_meetBy_4 4 rfl) (dk_g tcX10_meetBy_4 5 rfl) rfl
theorem dX10_meetBy_54 : decode cX10_meetBy 54 = .ok (.aload 6, 2) := dk_1025 (dk_g tcX10_meetBy_4 6 rfl) (dk_g tcX10_meetBy_4 7 rfl) rfl
theorem dX10_meetBy_56 : decode cX10_meetBy 56 = .ok (.getfield 163, 3) := dk_1180 (dk_g tcX10_meetBy_4 8 rfl) (dk_g tcX10_meetBy_4 9 rfl) (dk_g tcX10_meetBy_4 10 rfl) rfl
theorem tcX10_meetBy_5 : (cX10_meetBy.data.toList.drop 60).take 12 = [6, 180, 0, 164, 182, 0, 167, 54, 7, 21, 7, 154] := by decide +kernel
theorem dX10_meetBy_59 : decode cX10_meetBy 59 = .ok (.aload 6, 2) := dk_1025 (dk_g tcX10_meetBy_4 11 rfl) (dk_g tcX10_meetBy_5 0 rfl) rfl
theorem dX10_meetBy_61 : decode cX10_meetBy 61 = .ok (.getfield 164, 3) := dk_1180 (dk_g tcX10_meetBy_5 1 rfl) (dk_g tcX10_meetBy_5 2 rfl) (dk_g tcX10_meetBy_5 3 rfl) rfl
theorem dX10_meetBy_64 : decode cX10_meetBy 64 = .ok (.invokevirtual 167, 3) := dk_1182 (dk_g tcX10_meetBy_5 4 rfl) (dk_g tcX10_meetBy_5 5 rfl) (dk_g tcX10_meetBy_5 6 rfl) rfl
theorem dX10_meetBy_67 : decode cX10_meetBy 67 = .ok (.istore 7, 2) := dk_1054 (dk_g tcX10_meetBy_5 7 rfl) (dk_g tcX10_meetBy_5 8 rfl) rfl
theorem dX10_meetBy_69 : decode cX10_meetBy 69 = .ok (.iload 7, 2) := dk_1021 (dk_g tcX10_meetBy_5 9 rfl) (dk_g tcX10_meetBy_5 10 rfl) rfl
theorem tcX10_meetBy_6 : (cX10_meetBy.data.toList.drop 72).take 12 = [0, 18, 25, 5, 25, 6, 180, 0, 163, 25, 6, 180] := by decide +kernel
theorem dX10_meetBy_71 : decode cX10_meetBy 71 = .ok (.ifCond .ne 18, 3) := dk_2154 (dk_g tcX10_meetBy_5 11 rfl) (dk_g tcX10_meetBy_6 0 rfl) (dk_g tcX10_meetBy_6 1 rfl) rfl rfl
theorem dX10_meetBy_74 : decode cX10_meetBy 74 = .ok (.aload 5, 2) := dk_1025 (dk_g tcX10_meetBy_6 2 rfl) (dk_g tcX10_meetBy_6 3 rfl) rfl
theorem dX10_meetBy_76 : decode cX10_meetBy 76 = .ok (.aload 6, 2) := dk_1025 (dk_g tcX10_meetBy_6 4 rfl) (dk_g tcX10_meetBy_6 5 rfl) rfl
theorem dX10_meetBy_78 : decode cX10_meetBy 78 = .ok (.getfield 163, 3) := dk_1180 (dk_g tcX10_meetBy_6 6 rfl) (dk_g tcX10_meetBy_6 7 rfl) (dk_g tcX10_meetBy_6 8 rfl) rfl
theorem dX10_meetBy_81 : decode cX10_meetBy 81 = .ok (.aload 6, 2) := dk_1025 (dk_g tcX10_meetBy_6 9 rfl) (dk_g tcX10_meetBy_6 10 rfl) rfl
theorem tcX10_meetBy_7 : (cX10_meetBy.data.toList.drop 84).take 12 = [0, 164, 182, 0, 171, 25, 5, 21, 7, 182, 0, 174] := by decide +kernel
theorem dX10_meetBy_83 : decode cX10_meetBy 83 = .ok (.getfield 164, 3) := dk_1180 (dk_g tcX10_meetBy_6 11 rfl) (dk_g tcX10_meetBy_7 0 rfl) (dk_g tcX10_meetBy_7 1 rfl) rfl
theorem dX10_meetBy_86 : decode cX10_meetBy 86 = .ok (.invokevirtual 171, 3) := dk_1182 (dk_g tcX10_meetBy_7 2 rfl) (dk_g tcX10_meetBy_7 3 rfl) (dk_g tcX10_meetBy_7 4 rfl) rfl
theorem dX10_meetBy_89 : decode cX10_meetBy 89 = .ok (.aload 5, 2) := dk_1025 (dk_g tcX10_meetBy_7 5 rfl) (dk_g tcX10_meetBy_7 6 rfl) rfl
theorem dX10_meetBy_91 : decode cX10_meetBy 91 = .ok (.iload 7, 2) := dk_1021 (dk_g tcX10_meetBy_7 7 rfl) (dk_g tcX10_meetBy_7 8 rfl) rfl
theorem dX10_meetBy_93 : decode cX10_meetBy 93 = .ok (.invokevirtual 174, 3) := dk_1182 (dk_g tcX10_meetBy_7 9 rfl) (dk_g tcX10_meetBy_7 10 rfl) (dk_g tcX10_meetBy_7 11 rfl) rfl
theorem tcX10_meetBy_8 : (cX10_meetBy.data.toList.drop 96).take 12 = [25, 6, 21, 7, 182, 0, 174, 42, 89, 180, 0, 40] := by decide +kernel
theorem dX10_meetBy_96 : decode cX10_meetBy 96 = .ok (.aload 6, 2) := dk_1025 (dk_g tcX10_meetBy_8 0 rfl) (dk_g tcX10_meetBy_8 1 rfl) rfl
theorem dX10_meetBy_98 : decode cX10_meetBy 98 = .ok (.iload 7, 2) := dk_1021 (dk_g tcX10_meetBy_8 2 rfl) (dk_g tcX10_meetBy_8 3 rfl) rfl
theorem dX10_meetBy_100 : decode cX10_meetBy 100 = .ok (.invokevirtual 174, 3) := dk_1182 (dk_g tcX10_meetBy_8 4 rfl) (dk_g tcX10_meetBy_8 5 rfl) (dk_g tcX10_meetBy_8 6 rfl) rfl
theorem dX10_meetBy_103 : decode cX10_meetBy 103 = .ok (.aload_n 0, 1) := dk_1042 (dk_g tcX10_meetBy_8 7 rfl)
theorem dX10_meetBy_104 : decode cX10_meetBy 104 = .ok (.dup, 1) := dk_1089 (dk_g tcX10_meetBy_8 8 rfl)
theorem dX10_meetBy_105 : decode cX10_meetBy 105 = .ok (.getfield 40, 3) := dk_1180 (dk_g tcX10_meetBy_8 9 rfl) (dk_g tcX10_meetBy_8 10 rfl) (dk_g tcX10_meetBy_8 11 rfl) rfl
theorem tcX10_meetBy_9 : (cX10_meetBy.data.toList.drop 108).take 12 = [4, 96, 181, 0, 40, 21, 7, 172] := by decide +kernel
theorem dX10_meetBy_108 : decode cX10_meetBy 108 = .ok (.iconst 1, 1) := dk_1004 (dk_g tcX10_meetBy_9 0 rfl)
theorem dX10_meetBy_109 : decode cX10_meetBy 109 = .ok (.iadd, 1) := dk_1096 (dk_g tcX10_meetBy_9 1 rfl)
theorem dX10_meetBy_110 : decode cX10_meetBy 110 = .ok (.putfield 40, 3) := dk_1181 (dk_g tcX10_meetBy_9 2 rfl) (dk_g tcX10_meetBy_9 3 rfl) (dk_g tcX10_meetBy_9 4 rfl) rfl
theorem dX10_meetBy_113 : decode cX10_meetBy 113 = .ok (.iload 7, 2) := dk_1021 (dk_g tcX10_meetBy_9 5 rfl) (dk_g tcX10_meetBy_9 6 rfl) rfl
theorem dX10_meetBy_115 : decode cX10_meetBy 115 = .ok (.ireturn, 1) := dk_1172 (dk_g tcX10_meetBy_9 7 rfl)
theorem tcX10_doAgree_0 : (cX10_doAgree.data.toList.drop 0).take 12 = [43, 198, 0, 7, 44, 199, 0, 5, 3, 172, 3, 62] := by decide +kernel
theorem dX10_doAgree_0 : decode cX10_doAgree 0 = .ok (.aload_n 1, 1) := dk_1043 (dk_g tcX10_doAgree_0 0 rfl)
theorem dX10_doAgree_1 : decode cX10_doAgree 1 = .ok (.ifnull 7, 3) := dk_2198 (dk_g tcX10_doAgree_0 1 rfl) (dk_g tcX10_doAgree_0 2 rfl) (dk_g tcX10_doAgree_0 3 rfl) rfl rfl
theorem dX10_doAgree_4 : decode cX10_doAgree 4 = .ok (.aload_n 2, 1) := dk_1044 (dk_g tcX10_doAgree_0 4 rfl)
theorem dX10_doAgree_5 : decode cX10_doAgree 5 = .ok (.ifnonnull 5, 3) := dk_2199 (dk_g tcX10_doAgree_0 5 rfl) (dk_g tcX10_doAgree_0 6 rfl) (dk_g tcX10_doAgree_0 7 rfl) rfl rfl
theorem dX10_doAgree_8 : decode cX10_doAgree 8 = .ok (.iconst 0, 1) := dk_1003 (dk_g tcX10_doAgree_0 8 rfl)
theorem dX10_doAgree_9 : decode cX10_doAgree 9 = .ok (.ireturn, 1) := dk_1172 (dk_g tcX10_doAgree_0 9 rfl)
theorem dX10_doAgree_10 : decode cX10_doAgree 10 = .ok (.iconst 0, 1) := dk_1003 (dk_g tcX10_doAgree_0 10 rfl)
theorem dX10_doAgree_11 : decode cX10_doAgree 11 = .ok (.istore_n 3, 1) := dk_1062 (dk_g tcX10_doAgree_0 11 rfl)
theorem tcX10_doAgree_1 : (cX10_doAgree.data.toList.drop 12).take 12 = [29, 42, 180, 0, 22, 162, 0, 52, 42, 29, 182, 0] := by decide +kernel
theorem dX10_doAgree_12 : decode cX10_doAgree 12 = .ok (.iload_n 3, 1) := dk_1029 (dk_g tcX10_doAgree_1 0 rfl)
theorem dX10_doAgree_13 : decode cX10_doAgree 13 = .ok (.aload_n 0, 1) := dk_1042 (dk_g tcX10_doAgree_1 1 rfl)
theorem dX10_doAgree_14 : decode cX10_doAgree 14 = .ok (.getfield 22, 3) := dk_1180 (dk_g tcX10_doAgree_1 2 rfl) (dk_g tcX10_doAgree_1 3 rfl) (dk_g tcX10_doAgree_1 4 rfl) rfl
theorem dX10_doAgree_17 : decode cX10_doAgree 17 = .ok (.if_icmp .ge 52, 3) := dk_2162 (dk_g tcX10_doAgree_1 5 rfl) (dk_g tcX10_doAgree_1 6 rfl) (dk_g tcX10_doAgree_1 7 rfl) rfl rfl
theorem dX10_doAgree_20 : decode cX10_doAgree 20 = .ok (.aload_n 0, 1) := dk_1042 (dk_g tcX10_doAgree_1 8 rfl)
theorem dX10_doAgree_21 : decode cX10_doAgree 21 = .ok (.iload_n 3, 1) := dk_1029 (dk_g tcX10_doAgree_1 9 rfl)
theorem tcX10_doAgree_2 : (cX10_doAgree.data.toList.drop 24).take 12 = [64, 58, 4, 42, 25, 4, 43, 180, 0, 163, 43, 180] := by decide +kernel
theorem dX10_doAgree_22 : decode cX10_doAgree 22 = .ok (.invokevirtual 64, 3) := dk_1182 (dk_g tcX10_doAgree_1 10 rfl) (dk_g tcX10_doAgree_1 11 rfl) (dk_g tcX10_doAgree_2 0 rfl) rfl
theorem dX10_doAgree_25 : decode cX10_doAgree 25 = .ok (.astore 4, 2) := dk_1058 (dk_g tcX10_doAgree_2 1 rfl) (dk_g tcX10_doAgree_2 2 rfl) rfl
theorem dX10_doAgree_27 : decode cX10_doAgree 27 = .ok (.aload_n 0, 1) := dk_1042 (dk_g tcX10_doAgree_2 3 rfl)
theorem dX10_doAgree_28 : decode cX10_doAgree 28 = .ok (.aload 4, 2) := dk_1025 (dk_g tcX10_doAgree_2 4 rfl) (dk_g tcX10_doAgree_2 5 rfl) rfl
theorem dX10_doAgree_30 : decode cX10_doAgree 30 = .ok (.aload_n 1, 1) := dk_1043 (dk_g tcX10_doAgree_2 6 rfl)
theorem dX10_doAgree_31 : decode cX10_doAgree 31 = .ok (.getfield 163, 3) := dk_1180 (dk_g tcX10_doAgree_2 7 rfl) (dk_g tcX10_doAgree_2 8 rfl) (dk_g tcX10_doAgree_2 9 rfl) rfl
theorem dX10_doAgree_34 : decode cX10_doAgree 34 = .ok (.aload_n 1, 1) := dk_1043 (dk_g tcX10_doAgree_2 10 rfl)
theorem tcX10_doAgree_3 : (cX10_doAgree.data.toList.drop 36).take 12 = [0, 164, 182, 0, 180, 153, 0, 22, 42, 25, 4, 44] := by decide +kernel
theorem dX10_doAgree_35 : decode cX10_doAgree 35 = .ok (.getfield 164, 3) := dk_1180 (dk_g tcX10_doAgree_2 11 rfl) (dk_g tcX10_doAgree_3 0 rfl) (dk_g tcX10_doAgree_3 1 rfl) rfl
theorem dX10_doAgree_38 : decode cX10_doAgree 38 = .ok (.invokevirtual 180, 3) := dk_1182 (dk_g tcX10_doAgree_3 2 rfl) (dk_g tcX10_doAgree_3 3 rfl) (dk_g tcX10_doAgree_3 4 rfl) rfl
theorem dX10_doAgree_41 : decode cX10_doAgree 41 = .ok (.ifCond .eq 22, 3) := dk_2153 (dk_g tcX10_doAgree_3 5 rfl) (dk_g tcX10_doAgree_3 6 rfl) (dk_g tcX10_doAgree_3 7 rfl) rfl rfl
theorem dX10_doAgree_44 : decode cX10_doAgree 44 = .ok (.aload_n 0, 1) := dk_1042 (dk_g tcX10_doAgree_3 8 rfl)
theorem dX10_doAgree_45 : decode cX10_doAgree 45 = .ok (.aload 4, 2) := dk_1025 (dk_g tcX10_doAgree_3 9 rfl) (dk_g tcX10_doAgree_3 10 rfl) rfl
theorem dX10_doAgree_47 : decode cX10_doAgree 47 = .ok (.aload_n 2, 1) := dk_1044 (dk_g tcX10_doAgree_3 11 rfl)
theorem tcX10_doAgree_4 : (cX10_doAgree.data.toList.drop 48).take 12 = [180, 0, 163, 44, 180, 0, 164, 182, 0, 180, 153, 0] := by decide +kernel
theorem dX10_doAgree_48 : decode cX10_doAgree 48 = .ok (.getfield 163, 3) := dk_1180 (dk_g tcX10_doAgree_4 0 rfl) (dk_g tcX10_doAgree_4 1 rfl) (dk_g tcX10_doAgree_4 2 rfl) rfl
theorem dX10_doAgree_51 : decode cX10_doAgree 51 = .ok (.aload_n 2, 1) := dk_1044 (dk_g tcX10_doAgree_4 3 rfl)
theorem dX10_doAgree_52 : decode cX10_doAgree 52 = .ok (.getfield 164, 3) := dk_1180 (dk_g tcX10_doAgree_4 4 rfl) (dk_g tcX10_doAgree_4 5 rfl) (dk_g tcX10_doAgree_4 6 rfl) rfl
theorem dX10_doAgree_55 : decode cX10_doAgree 55 = .ok (.invokevirtual 180, 3) := dk_1182 (dk_g tcX10_doAgree_4 7 rfl) (dk_g tcX10_doAgree_4 8 rfl) (dk_g tcX10_doAgree_4 9 rfl) rfl
theorem tcX10_doAgree_5 : (cX10_doAgree.data.toList.drop 60).take 12 = [5, 4, 172, 132, 3, 1, 167, 255, 202, 3, 172] := by decide +kernel
theorem dX10_doAgree_58 : decode cX10_doAgree 58 = .ok (.ifCond .eq 5, 3) := dk_2153 (dk_g tcX10_doAgree_4 10 rfl) (dk_g tcX10_doAgree_4 11 rfl) (dk_g tcX10_doAgree_5 0 rfl) rfl rfl
theorem dX10_doAgree_61 : decode cX10_doAgree 61 = .ok (.iconst 1, 1) := dk_1004 (dk_g tcX10_doAgree_5 1 rfl)
theorem dX10_doAgree_62 : decode cX10_doAgree 62 = .ok (.ireturn, 1) := dk_1172 (dk_g tcX10_doAgree_5 2 rfl)
theorem dX10_doAgree_63 : decode cX10_doAgree 63 = .ok (.iinc 3 1, 3) := dk_1132 (dk_g tcX10_doAgree_5 3 rfl) (dk_g tcX10_doAgree_5 4 rfl) (dk_g tcX10_doAgree_5 5 rfl) rfl (by decide +kernel)
theorem dX10_doAgree_66 : decode cX10_doAgree 66 = .ok (.goto (-54), 3) := dk_1167 (dk_g tcX10_doAgree_5 6 rfl) (dk_g tcX10_doAgree_5 7 rfl) (dk_g tcX10_doAgree_5 8 rfl) (by decide +kernel)
theorem dX10_doAgree_69 : decode cX10_doAgree 69 = .ok (.iconst 0, 1) := dk_1003 (dk_g tcX10_doAgree_5 9 rfl)
theorem dX10_doAgree_70 : decode cX10_doAgree 70 = .ok (.ireturn, 1) := dk_1172 (dk_g tcX10_doAgree_5 10 rfl)
theorem tcX10_isSound_0 : (cX10_isSound.data.toList.drop 0).take 12 = [42, 42, 43, 180, 0, 128, 182, 0, 64, 43, 180, 0] := by decide +kernel
theorem dX10_isSound_0 : decode cX10_isSound 0 = .ok (.aload_n 0, 1) := dk_1042 (dk_g tcX10_isSound_0 0 rfl)
theorem dX10_isSound_1 : decode cX10_isSound 1 = .ok (.aload_n 0, 1) := dk_1042 (dk_g tcX10_isSound_0 1 rfl)
theorem dX10_isSound_2 : decode cX10_isSound 2 = .ok (.aload_n 1, 1) := dk_1043 (dk_g tcX10_isSound_0 2 rfl)
theorem dX10_isSound_3 : decode cX10_isSound 3 = .ok (.getfield 128, 3) := dk_1180 (dk_g tcX10_isSound_0 3 rfl) (dk_g tcX10_isSound_0 4 rfl) (dk_g tcX10_isSound_0 5 rfl) rfl
theorem dX10_isSound_6 : decode cX10_isSound 6 = .ok (.invokevirtual 64, 3) := dk_1182 (dk_g tcX10_isSound_0 6 rfl) (dk_g tcX10_isSound_0 7 rfl) (dk_g tcX10_isSound_0 8 rfl) rfl
theorem dX10_isSound_9 : decode cX10_isSound 9 = .ok (.aload_n 1, 1) := dk_1043 (dk_g tcX10_isSound_0 9 rfl)
theorem tcX10_isSound_1 : (cX10_isSound.data.toList.drop 12).take 12 = [131, 43, 180, 0, 134, 182, 0, 180, 172] := by decide +kernel
theorem dX10_isSound_10 : decode cX10_isSound 10 = .ok (.getfield 131, 3) := dk_1180 (dk_g tcX10_isSound_0 10 rfl) (dk_g tcX10_isSound_0 11 rfl) (dk_g tcX10_isSound_1 0 rfl) rfl
theorem dX10_isSound_13 : decode cX10_isSound 13 = .ok (.aload_n 1, 1) := dk_1043 (dk_g tcX10_isSound_1 1 rfl)
theorem dX10_isSound_14 : decode cX10_isSound 14 = .ok (.getfield 134, 3) := dk_1180 (dk_g tcX10_isSound_1 2 rfl) (dk_g tcX10_isSound_1 3 rfl) (dk_g tcX10_isSound_1 4 rfl) rfl
theorem dX10_isSound_17 : decode cX10_isSound 17 = .ok (.invokevirtual 180, 3) := dk_1182 (dk_g tcX10_isSound_1 5 rfl) (dk_g tcX10_isSound_1 6 rfl) (dk_g tcX10_isSound_1 7 rfl) rfl
theorem dX10_isSound_20 : decode cX10_isSound 20 = .ok (.ireturn, 1) := dk_1172 (dk_g tcX10_isSound_1 8 rfl)
theorem tcX10_sickBits_0 : (cX10_sickBits.data.toList.drop 0).take 12 = [42, 42, 43, 180, 0, 128, 182, 0, 64, 43, 180, 0] := by decide +kernel
theorem dX10_sickBits_0 : decode cX10_sickBits 0 = .ok (.aload_n 0, 1) := dk_1042 (dk_g tcX10_sickBits_0 0 rfl)
theorem dX10_sickBits_1 : decode cX10_sickBits 1 = .ok (.aload_n 0, 1) := dk_1042 (dk_g tcX10_sickBits_0 1 rfl)
theorem dX10_sickBits_2 : decode cX10_sickBits 2 = .ok (.aload_n 1, 1) := dk_1043 (dk_g tcX10_sickBits_0 2 rfl)
theorem dX10_sickBits_3 : decode cX10_sickBits 3 = .ok (.getfield 128, 3) := dk_1180 (dk_g tcX10_sickBits_0 3 rfl) (dk_g tcX10_sickBits_0 4 rfl) (dk_g tcX10_sickBits_0 5 rfl) rfl
theorem dX10_sickBits_6 : decode cX10_sickBits 6 = .ok (.invokevirtual 64, 3) := dk_1182 (dk_g tcX10_sickBits_0 6 rfl) (dk_g tcX10_sickBits_0 7 rfl) (dk_g tcX10_sickBits_0 8 rfl) rfl
theorem dX10_sickBits_9 : decode cX10_sickBits 9 = .ok (.aload_n 1, 1) := dk_1043 (dk_g tcX10_sickBits_0 9 rfl)
theorem tcX10_sickBits_1 : (cX10_sickBits.data.toList.drop 12).take 12 = [131, 44, 182, 0, 143, 3, 62, 3, 54, 4, 21, 4] := by decide +kernel
theorem dX10_sickBits_10 : decode cX10_sickBits 10 = .ok (.getfield 131, 3) := dk_1180 (dk_g tcX10_sickBits_0 10 rfl) (dk_g tcX10_sickBits_0 11 rfl) (dk_g tcX10_sickBits_1 0 rfl) rfl
theorem dX10_sickBits_13 : decode cX10_sickBits 13 = .ok (.aload_n 2, 1) := dk_1044 (dk_g tcX10_sickBits_1 1 rfl)
theorem dX10_sickBits_14 : decode cX10_sickBits 14 = .ok (.invokevirtual 143, 3) := dk_1182 (dk_g tcX10_sickBits_1 2 rfl) (dk_g tcX10_sickBits_1 3 rfl) (dk_g tcX10_sickBits_1 4 rfl) rfl
theorem dX10_sickBits_17 : decode cX10_sickBits 17 = .ok (.iconst 0, 1) := dk_1003 (dk_g tcX10_sickBits_1 5 rfl)
theorem dX10_sickBits_18 : decode cX10_sickBits 18 = .ok (.istore_n 3, 1) := dk_1062 (dk_g tcX10_sickBits_1 6 rfl)
theorem dX10_sickBits_19 : decode cX10_sickBits 19 = .ok (.iconst 0, 1) := dk_1003 (dk_g tcX10_sickBits_1 7 rfl)
theorem dX10_sickBits_20 : decode cX10_sickBits 20 = .ok (.istore 4, 2) := dk_1054 (dk_g tcX10_sickBits_1 8 rfl) (dk_g tcX10_sickBits_1 9 rfl) rfl
theorem dX10_sickBits_22 : decode cX10_sickBits 22 = .ok (.iload 4, 2) := dk_1021 (dk_g tcX10_sickBits_1 10 rfl) (dk_g tcX10_sickBits_1 11 rfl) rfl
theorem tcX10_sickBits_2 : (cX10_sickBits.data.toList.drop 24).take 12 = [44, 180, 0, 184, 162, 0, 41, 21, 4, 16, 31, 162] := by decide +kernel
theorem dX10_sickBits_24 : decode cX10_sickBits 24 = .ok (.aload_n 2, 1) := dk_1044 (dk_g tcX10_sickBits_2 0 rfl)
theorem dX10_sickBits_25 : decode cX10_sickBits 25 = .ok (.getfield 184, 3) := dk_1180 (dk_g tcX10_sickBits_2 1 rfl) (dk_g tcX10_sickBits_2 2 rfl) (dk_g tcX10_sickBits_2 3 rfl) rfl
theorem dX10_sickBits_28 : decode cX10_sickBits 28 = .ok (.if_icmp .ge 41, 3) := dk_2162 (dk_g tcX10_sickBits_2 4 rfl) (dk_g tcX10_sickBits_2 5 rfl) (dk_g tcX10_sickBits_2 6 rfl) rfl rfl
theorem dX10_sickBits_31 : decode cX10_sickBits 31 = .ok (.iload 4, 2) := dk_1021 (dk_g tcX10_sickBits_2 7 rfl) (dk_g tcX10_sickBits_2 8 rfl) rfl
theorem dX10_sickBits_33 : decode cX10_sickBits 33 = .ok (.bipush 31, 2) := dk_1016 (dk_g tcX10_sickBits_2 9 rfl) (dk_g tcX10_sickBits_2 10 rfl) (by decide +kernel)
theorem tcX10_sickBits_3 : (cX10_sickBits.data.toList.drop 36).take 12 = [0, 34, 44, 21, 4, 182, 0, 185, 43, 180, 0, 140] := by decide +kernel
theorem dX10_sickBits_35 : decode cX10_sickBits 35 = .ok (.if_icmp .ge 34, 3) := dk_2162 (dk_g tcX10_sickBits_2 11 rfl) (dk_g tcX10_sickBits_3 0 rfl) (dk_g tcX10_sickBits_3 1 rfl) rfl rfl
theorem dX10_sickBits_38 : decode cX10_sickBits 38 = .ok (.aload_n 2, 1) := dk_1044 (dk_g tcX10_sickBits_3 2 rfl)
theorem dX10_sickBits_39 : decode cX10_sickBits 39 = .ok (.iload 4, 2) := dk_1021 (dk_g tcX10_sickBits_3 3 rfl) (dk_g tcX10_sickBits_3 4 rfl) rfl
theorem dX10_sickBits_41 : decode cX10_sickBits 41 = .ok (.invokevirtual 185, 3) := dk_1182 (dk_g tcX10_sickBits_3 5 rfl) (dk_g tcX10_sickBits_3 6 rfl) (dk_g tcX10_sickBits_3 7 rfl) rfl
theorem dX10_sickBits_44 : decode cX10_sickBits 44 = .ok (.aload_n 1, 1) := dk_1043 (dk_g tcX10_sickBits_3 8 rfl)
theorem dX10_sickBits_45 : decode cX10_sickBits 45 = .ok (.getfield 140, 3) := dk_1180 (dk_g tcX10_sickBits_3 9 rfl) (dk_g tcX10_sickBits_3 10 rfl) (dk_g tcX10_sickBits_3 11 rfl) rfl
theorem tcX10_sickBits_4 : (cX10_sickBits.data.toList.drop 48).take 12 = [21, 4, 182, 0, 185, 159, 0, 10, 29, 4, 21, 4] := by decide +kernel
theorem dX10_sickBits_48 : decode cX10_sickBits 48 = .ok (.iload 4, 2) := dk_1021 (dk_g tcX10_sickBits_4 0 rfl) (dk_g tcX10_sickBits_4 1 rfl) rfl
theorem dX10_sickBits_50 : decode cX10_sickBits 50 = .ok (.invokevirtual 185, 3) := dk_1182 (dk_g tcX10_sickBits_4 2 rfl) (dk_g tcX10_sickBits_4 3 rfl) (dk_g tcX10_sickBits_4 4 rfl) rfl
theorem dX10_sickBits_53 : decode cX10_sickBits 53 = .ok (.if_icmp .eq 10, 3) := dk_2159 (dk_g tcX10_sickBits_4 5 rfl) (dk_g tcX10_sickBits_4 6 rfl) (dk_g tcX10_sickBits_4 7 rfl) rfl rfl
theorem dX10_sickBits_56 : decode cX10_sickBits 56 = .ok (.iload_n 3, 1) := dk_1029 (dk_g tcX10_sickBits_4 8 rfl)
theorem dX10_sickBits_57 : decode cX10_sickBits 57 = .ok (.iconst 1, 1) := dk_1004 (dk_g tcX10_sickBits_4 9 rfl)
theorem dX10_sickBits_58 : decode cX10_sickBits 58 = .ok (.iload 4, 2) := dk_1021 (dk_g tcX10_sickBits_4 10 rfl) (dk_g tcX10_sickBits_4 11 rfl) rfl
theorem tcX10_sickBits_5 : (cX10_sickBits.data.toList.drop 60).take 12 = [120, 128, 62, 132, 4, 1, 167, 255, 212, 29, 172] := by decide +kernel
theorem dX10_sickBits_60 : decode cX10_sickBits 60 = .ok (.ishl, 1) := dk_1120 (dk_g tcX10_sickBits_5 0 rfl)
theorem dX10_sickBits_61 : decode cX10_sickBits 61 = .ok (.ior, 1) := dk_1128 (dk_g tcX10_sickBits_5 1 rfl)
theorem dX10_sickBits_62 : decode cX10_sickBits 62 = .ok (.istore_n 3, 1) := dk_1062 (dk_g tcX10_sickBits_5 2 rfl)
theorem dX10_sickBits_63 : decode cX10_sickBits 63 = .ok (.iinc 4 1, 3) := dk_1132 (dk_g tcX10_sickBits_5 3 rfl) (dk_g tcX10_sickBits_5 4 rfl) (dk_g tcX10_sickBits_5 5 rfl) rfl (by decide +kernel)
theorem dX10_sickBits_66 : decode cX10_sickBits 66 = .ok (.goto (-44), 3) := dk_1167 (dk_g tcX10_sickBits_5 6 rfl) (dk_g tcX10_sickBits_5 7 rfl) (dk_g tcX10_sickBits_5 8 rfl) (by decide +kernel)
theorem dX10_sickBits_69 : decode cX10_sickBits 69 = .ok (.iload_n 3, 1) := dk_1029 (dk_g tcX10_sickBits_5 9 rfl)
theorem dX10_sickBits_70 : decode cX10_sickBits 70 = .ok (.ireturn, 1) := dk_1172 (dk_g tcX10_sickBits_5 10 rfl)
theorem tcX10_countUnsound_0 : (cX10_countUnsound.data.toList.drop 0).take 12 = [3, 61, 3, 62, 29, 42, 180, 0, 31, 162, 0, 42] := by decide +kernel
theorem dX10_countUnsound_0 : decode cX10_countUnsound 0 = .ok (.iconst 0, 1) := dk_1003 (dk_g tcX10_countUnsound_0 0 rfl)
theorem dX10_countUnsound_1 : decode cX10_countUnsound 1 = .ok (.istore_n 2, 1) := dk_1061 (dk_g tcX10_countUnsound_0 1 rfl)
theorem dX10_countUnsound_2 : decode cX10_countUnsound 2 = .ok (.iconst 0, 1) := dk_1003 (dk_g tcX10_countUnsound_0 2 rfl)
theorem dX10_countUnsound_3 : decode cX10_countUnsound 3 = .ok (.istore_n 3, 1) := dk_1062 (dk_g tcX10_countUnsound_0 3 rfl)
theorem dX10_countUnsound_4 : decode cX10_countUnsound 4 = .ok (.iload_n 3, 1) := dk_1029 (dk_g tcX10_countUnsound_0 4 rfl)
theorem dX10_countUnsound_5 : decode cX10_countUnsound 5 = .ok (.aload_n 0, 1) := dk_1042 (dk_g tcX10_countUnsound_0 5 rfl)
theorem dX10_countUnsound_6 : decode cX10_countUnsound 6 = .ok (.getfield 31, 3) := dk_1180 (dk_g tcX10_countUnsound_0 6 rfl) (dk_g tcX10_countUnsound_0 7 rfl) (dk_g tcX10_countUnsound_0 8 rfl) rfl
theorem dX10_countUnsound_9 : decode cX10_countUnsound 9 = .ok (.if_icmp .ge 42, 3) := dk_2162 (dk_g tcX10_countUnsound_0 9 rfl) (dk_g tcX10_countUnsound_0 10 rfl) (dk_g tcX10_countUnsound_0 11 rfl) rfl rfl
theorem tcX10_countUnsound_1 : (cX10_countUnsound.data.toList.drop 12).take 12 = [42, 29, 182, 0, 188, 58, 4, 25, 4, 198, 0, 24] := by decide +kernel
theorem dX10_countUnsound_12 : decode cX10_countUnsound 12 = .ok (.aload_n 0, 1) := dk_1042 (dk_g tcX10_countUnsound_1 0 rfl)
theorem dX10_countUnsound_13 : decode cX10_countUnsound 13 = .ok (.iload_n 3, 1) := dk_1029 (dk_g tcX10_countUnsound_1 1 rfl)
theorem dX10_countUnsound_14 : decode cX10_countUnsound 14 = .ok (.invokevirtual 188, 3) := dk_1182 (dk_g tcX10_countUnsound_1 2 rfl) (dk_g tcX10_countUnsound_1 3 rfl) (dk_g tcX10_countUnsound_1 4 rfl) rfl
theorem dX10_countUnsound_17 : decode cX10_countUnsound 17 = .ok (.astore 4, 2) := dk_1058 (dk_g tcX10_countUnsound_1 5 rfl) (dk_g tcX10_countUnsound_1 6 rfl) rfl
theorem dX10_countUnsound_19 : decode cX10_countUnsound 19 = .ok (.aload 4, 2) := dk_1025 (dk_g tcX10_countUnsound_1 7 rfl) (dk_g tcX10_countUnsound_1 8 rfl) rfl
theorem dX10_countUnsound_21 : decode cX10_countUnsound 21 = .ok (.ifnull 24, 3) := dk_2198 (dk_g tcX10_countUnsound_1 9 rfl) (dk_g tcX10_countUnsound_1 10 rfl) (dk_g tcX10_countUnsound_1 11 rfl) rfl rfl
theorem tcX10_countUnsound_2 : (cX10_countUnsound.data.toList.drop 24).take 12 = [25, 4, 180, 0, 128, 27, 160, 0, 15, 42, 25, 4] := by decide +kernel
theorem dX10_countUnsound_24 : decode cX10_countUnsound 24 = .ok (.aload 4, 2) := dk_1025 (dk_g tcX10_countUnsound_2 0 rfl) (dk_g tcX10_countUnsound_2 1 rfl) rfl
theorem dX10_countUnsound_26 : decode cX10_countUnsound 26 = .ok (.getfield 128, 3) := dk_1180 (dk_g tcX10_countUnsound_2 2 rfl) (dk_g tcX10_countUnsound_2 3 rfl) (dk_g tcX10_countUnsound_2 4 rfl) rfl
theorem dX10_countUnsound_29 : decode cX10_countUnsound 29 = .ok (.iload_n 1, 1) := dk_1027 (dk_g tcX10_countUnsound_2 5 rfl)
theorem dX10_countUnsound_30 : decode cX10_countUnsound 30 = .ok (.if_icmp .ne 15, 3) := dk_2160 (dk_g tcX10_countUnsound_2 6 rfl) (dk_g tcX10_countUnsound_2 7 rfl) (dk_g tcX10_countUnsound_2 8 rfl) rfl rfl
theorem dX10_countUnsound_33 : decode cX10_countUnsound 33 = .ok (.aload_n 0, 1) := dk_1042 (dk_g tcX10_countUnsound_2 9 rfl)
theorem dX10_countUnsound_34 : decode cX10_countUnsound 34 = .ok (.aload 4, 2) := dk_1025 (dk_g tcX10_countUnsound_2 10 rfl) (dk_g tcX10_countUnsound_2 11 rfl) rfl
theorem tcX10_countUnsound_3 : (cX10_countUnsound.data.toList.drop 36).take 12 = [182, 0, 192, 154, 0, 6, 132, 2, 1, 132, 3, 1] := by decide +kernel
theorem dX10_countUnsound_36 : decode cX10_countUnsound 36 = .ok (.invokevirtual 192, 3) := dk_1182 (dk_g tcX10_countUnsound_3 0 rfl) (dk_g tcX10_countUnsound_3 1 rfl) (dk_g tcX10_countUnsound_3 2 rfl) rfl
theorem dX10_countUnsound_39 : decode cX10_countUnsound 39 = .ok (.ifCond .ne 6, 3) := dk_2154 (dk_g tcX10_countUnsound_3 3 rfl) (dk_g tcX10_countUnsound_3 4 rfl) (dk_g tcX10_countUnsound_3 5 rfl) rfl rfl
theorem dX10_countUnsound_42 : decode cX10_countUnsound 42 = .ok (.iinc 2 1, 3) := dk_1132 (dk_g tcX10_countUnsound_3 6 rfl) (dk_g tcX10_countUnsound_3 7 rfl) (dk_g tcX10_countUnsound_3 8 rfl) rfl (by decide +kernel)
theorem dX10_countUnsound_45 : decode cX10_countUnsound 45 = .ok (.iinc 3 1, 3) := dk_1132 (dk_g tcX10_countUnsound_3 9 rfl) (dk_g tcX10_countUnsound_3 10 rfl) (dk_g tcX10_countUnsound_3 11 rfl) rfl (by decide +kernel)
theorem tcX10_countUnsound_4 : (cX10_countUnsound.data.toList.drop 48).take 12 = [167, 255, 212, 28, 172] := by decide +kernel
theorem dX10_countUnsound_48 : decode cX10_countUnsound 48 = .ok (.goto (-44), 3) := dk_1167 (dk_g tcX10_countUnsound_4 0 rfl) (dk_g tcX10_countUnsound_4 1 rfl) (dk_g tcX10_countUnsound_4 2 rfl) (by decide +kernel)
theorem dX10_countUnsound_51 : decode cX10_countUnsound 51 = .ok (.iload_n 2, 1) := dk_1028 (dk_g tcX10_countUnsound_4 3 rfl)
theorem dX10_countUnsound_52 : decode cX10_countUnsound 52 = .ok (.ireturn, 1) := dk_1172 (dk_g tcX10_countUnsound_4 4 rfl)
theorem tcX10_leastUnsound_0 : (cX10_leastUnsound.data.toList.drop 0).take 12 = [2, 61, 3, 62, 29, 42, 180, 0, 31, 162, 0, 59] := by decide +kernel
theorem dX10_leastUnsound_0 : decode cX10_leastUnsound 0 = .ok (.iconst (-1), 1) := dk_1002 (dk_g tcX10_leastUnsound_0 0 rfl)
theorem dX10_leastUnsound_1 : decode cX10_leastUnsound 1 = .ok (.istore_n 2, 1) := dk_1061 (dk_g tcX10_leastUnsound_0 1 rfl)
theorem dX10_leastUnsound_2 : decode cX10_leastUnsound 2 = .ok (.iconst 0, 1) := dk_1003 (dk_g tcX10_leastUnsound_0 2 rfl)
theorem dX10_leastUnsound_3 : decode cX10_leastUnsound 3 = .ok (.istore_n 3, 1) := dk_1062 (dk_g tcX10_leastUnsound_0 3 rfl)
theorem dX10_leastUnsound_4 : decode cX10_leastUnsound 4 = .ok (.iload_n 3, 1) := dk_1029 (dk_g tcX10_leastUnsound_0 4 rfl)
theorem dX10_leastUnsound_5 : decode cX10_leastUnsound 5 = .ok (.aload_n 0, 1) := dk_1042 (dk_g tcX10_leastUnsound_0 5 rfl)
theorem dX10_leastUnsound_6 : decode cX10_leastUnsound 6 = .ok (.getfield 31, 3) := dk_1180 (dk_g tcX10_leastUnsound_0 6 rfl) (dk_g tcX10_leastUnsound_0 7 rfl) (dk_g tcX10_leastUnsound_0 8 rfl) rfl
theorem dX10_leastUnsound_9 : decode cX10_leastUnsound 9 = .ok (.if_icmp .ge 59, 3) := dk_2162 (dk_g tcX10_leastUnsound_0 9 rfl) (dk_g tcX10_leastUnsound_0 10 rfl) (dk_g tcX10_leastUnsound_0 11 rfl) rfl rfl
theorem tcX10_leastUnsound_1 : (cX10_leastUnsound.data.toList.drop 12).take 12 = [42, 29, 182, 0, 188, 58, 4, 25, 4, 198, 0, 41] := by decide +kernel
theorem dX10_leastUnsound_12 : decode cX10_leastUnsound 12 = .ok (.aload_n 0, 1) := dk_1042 (dk_g tcX10_leastUnsound_1 0 rfl)
theorem dX10_leastUnsound_13 : decode cX10_leastUnsound 13 = .ok (.iload_n 3, 1) := dk_1029 (dk_g tcX10_leastUnsound_1 1 rfl)
theorem dX10_leastUnsound_14 : decode cX10_leastUnsound 14 = .ok (.invokevirtual 188, 3) := dk_1182 (dk_g tcX10_leastUnsound_1 2 rfl) (dk_g tcX10_leastUnsound_1 3 rfl) (dk_g tcX10_leastUnsound_1 4 rfl) rfl
theorem dX10_leastUnsound_17 : decode cX10_leastUnsound 17 = .ok (.astore 4, 2) := dk_1058 (dk_g tcX10_leastUnsound_1 5 rfl) (dk_g tcX10_leastUnsound_1 6 rfl) rfl
theorem dX10_leastUnsound_19 : decode cX10_leastUnsound 19 = .ok (.aload 4, 2) := dk_1025 (dk_g tcX10_leastUnsound_1 7 rfl) (dk_g tcX10_leastUnsound_1 8 rfl) rfl
theorem dX10_leastUnsound_21 : decode cX10_leastUnsound 21 = .ok (.ifnull 41, 3) := dk_2198 (dk_g tcX10_leastUnsound_1 9 rfl) (dk_g tcX10_leastUnsound_1 10 rfl) (dk_g tcX10_leastUnsound_1 11 rfl) rfl rfl
theorem tcX10_leastUnsound_2 : (cX10_leastUnsound.data.toList.drop 24).take 12 = [25, 4, 180, 0, 128, 27, 160, 0, 32, 42, 25, 4] := by decide +kernel
theorem dX10_leastUnsound_24 : decode cX10_leastUnsound 24 = .ok (.aload 4, 2) := dk_1025 (dk_g tcX10_leastUnsound_2 0 rfl) (dk_g tcX10_leastUnsound_2 1 rfl) rfl
theorem dX10_leastUnsound_26 : decode cX10_leastUnsound 26 = .ok (.getfield 128, 3) := dk_1180 (dk_g tcX10_leastUnsound_2 2 rfl) (dk_g tcX10_leastUnsound_2 3 rfl) (dk_g tcX10_leastUnsound_2 4 rfl) rfl
theorem dX10_leastUnsound_29 : decode cX10_leastUnsound 29 = .ok (.iload_n 1, 1) := dk_1027 (dk_g tcX10_leastUnsound_2 5 rfl)
theorem dX10_leastUnsound_30 : decode cX10_leastUnsound 30 = .ok (.if_icmp .ne 32, 3) := dk_2160 (dk_g tcX10_leastUnsound_2 6 rfl) (dk_g tcX10_leastUnsound_2 7 rfl) (dk_g tcX10_leastUnsound_2 8 rfl) rfl rfl
theorem dX10_leastUnsound_33 : decode cX10_leastUnsound 33 = .ok (.aload_n 0, 1) := dk_1042 (dk_g tcX10_leastUnsound_2 9 rfl)
theorem dX10_leastUnsound_34 : decode cX10_leastUnsound 34 = .ok (.aload 4, 2) := dk_1025 (dk_g tcX10_leastUnsound_2 10 rfl) (dk_g tcX10_leastUnsound_2 11 rfl) rfl
theorem tcX10_leastUnsound_3 : (cX10_leastUnsound.data.toList.drop 36).take 12 = [182, 0, 192, 154, 0, 23, 28, 2, 159, 0, 12, 25] := by decide +kernel
theorem dX10_leastUnsound_36 : decode cX10_leastUnsound 36 = .ok (.invokevirtual 192, 3) := dk_1182 (dk_g tcX10_leastUnsound_3 0 rfl) (dk_g tcX10_leastUnsound_3 1 rfl) (dk_g tcX10_leastUnsound_3 2 rfl) rfl
theorem dX10_leastUnsound_39 : decode cX10_leastUnsound 39 = .ok (.ifCond .ne 23, 3) := dk_2154 (dk_g tcX10_leastUnsound_3 3 rfl) (dk_g tcX10_leastUnsound_3 4 rfl) (dk_g tcX10_leastUnsound_3 5 rfl) rfl rfl
theorem dX10_leastUnsound_42 : decode cX10_leastUnsound 42 = .ok (.iload_n 2, 1) := dk_1028 (dk_g tcX10_leastUnsound_3 6 rfl)
theorem dX10_leastUnsound_43 : decode cX10_leastUnsound 43 = .ok (.iconst (-1), 1) := dk_1002 (dk_g tcX10_leastUnsound_3 7 rfl)
theorem dX10_leastUnsound_44 : decode cX10_leastUnsound 44 = .ok (.if_icmp .eq 12, 3) := dk_2159 (dk_g tcX10_leastUnsound_3 8 rfl) (dk_g tcX10_leastUnsound_3 9 rfl) (dk_g tcX10_leastUnsound_3 10 rfl) rfl rfl
theorem tcX10_leastUnsound_4 : (cX10_leastUnsound.data.toList.drop 48).take 12 = [4, 180, 0, 131, 28, 162, 0, 9, 25, 4, 180, 0] := by decide +kernel
theorem dX10_leastUnsound_47 : decode cX10_leastUnsound 47 = .ok (.aload 4, 2) := dk_1025 (dk_g tcX10_leastUnsound_3 11 rfl) (dk_g tcX10_leastUnsound_4 0 rfl) rfl
theorem dX10_leastUnsound_49 : decode cX10_leastUnsound 49 = .ok (.getfield 131, 3) := dk_1180 (dk_g tcX10_leastUnsound_4 1 rfl) (dk_g tcX10_leastUnsound_4 2 rfl) (dk_g tcX10_leastUnsound_4 3 rfl) rfl
theorem dX10_leastUnsound_52 : decode cX10_leastUnsound 52 = .ok (.iload_n 2, 1) := dk_1028 (dk_g tcX10_leastUnsound_4 4 rfl)
theorem dX10_leastUnsound_53 : decode cX10_leastUnsound 53 = .ok (.if_icmp .ge 9, 3) := dk_2162 (dk_g tcX10_leastUnsound_4 5 rfl) (dk_g tcX10_leastUnsound_4 6 rfl) (dk_g tcX10_leastUnsound_4 7 rfl) rfl rfl
theorem dX10_leastUnsound_56 : decode cX10_leastUnsound 56 = .ok (.aload 4, 2) := dk_1025 (dk_g tcX10_leastUnsound_4 8 rfl) (dk_g tcX10_leastUnsound_4 9 rfl) rfl
theorem tcX10_leastUnsound_5 : (cX10_leastUnsound.data.toList.drop 60).take 12 = [131, 61, 132, 3, 1, 167, 255, 195, 28, 172] := by decide +kernel
theorem dX10_leastUnsound_58 : decode cX10_leastUnsound 58 = .ok (.getfield 131, 3) := dk_1180 (dk_g tcX10_leastUnsound_4 10 rfl) (dk_g tcX10_leastUnsound_4 11 rfl) (dk_g tcX10_leastUnsound_5 0 rfl) rfl
theorem dX10_leastUnsound_61 : decode cX10_leastUnsound 61 = .ok (.istore_n 2, 1) := dk_1061 (dk_g tcX10_leastUnsound_5 1 rfl)
theorem dX10_leastUnsound_62 : decode cX10_leastUnsound 62 = .ok (.iinc 3 1, 3) := dk_1132 (dk_g tcX10_leastUnsound_5 2 rfl) (dk_g tcX10_leastUnsound_5 3 rfl) (dk_g tcX10_leastUnsound_5 4 rfl) rfl (by decide +kernel)
theorem dX10_leastUnsound_65 : decode cX10_leastUnsound 65 = .ok (.goto (-61), 3) := dk_1167 (dk_g tcX10_leastUnsound_5 5 rfl) (dk_g tcX10_leastUnsound_5 6 rfl) (dk_g tcX10_leastUnsound_5 7 rfl) (by decide +kernel)
theorem dX10_leastUnsound_68 : decode cX10_leastUnsound 68 = .ok (.iload_n 2, 1) := dk_1028 (dk_g tcX10_leastUnsound_5 8 rfl)
theorem dX10_leastUnsound_69 : decode cX10_leastUnsound 69 = .ok (.ireturn, 1) := dk_1172 (dk_g tcX10_leastUnsound_5 9 rfl)
theorem tcX10_greatestSoundBelow_0 : (cX10_greatestSoundBelow.data.toList.drop 0).take 12 = [3, 62, 3, 54, 4, 21, 4, 42, 180, 0, 31, 162] := by decide +kernel
theorem dX10_greatestSoundBelow_0 : decode cX10_greatestSoundBelow 0 = .ok (.iconst 0, 1) := dk_1003 (dk_g tcX10_greatestSoundBelow_0 0 rfl)
theorem dX10_greatestSoundBelow_1 : decode cX10_greatestSoundBelow 1 = .ok (.istore_n 3, 1) := dk_1062 (dk_g tcX10_greatestSoundBelow_0 1 rfl)
theorem dX10_greatestSoundBelow_2 : decode cX10_greatestSoundBelow 2 = .ok (.iconst 0, 1) := dk_1003 (dk_g tcX10_greatestSoundBelow_0 2 rfl)
theorem dX10_greatestSoundBelow_3 : decode cX10_greatestSoundBelow 3 = .ok (.istore 4, 2) := dk_1054 (dk_g tcX10_greatestSoundBelow_0 3 rfl) (dk_g tcX10_greatestSoundBelow_0 4 rfl) rfl
theorem dX10_greatestSoundBelow_5 : decode cX10_greatestSoundBelow 5 = .ok (.iload 4, 2) := dk_1021 (dk_g tcX10_greatestSoundBelow_0 5 rfl) (dk_g tcX10_greatestSoundBelow_0 6 rfl) rfl
theorem dX10_greatestSoundBelow_7 : decode cX10_greatestSoundBelow 7 = .ok (.aload_n 0, 1) := dk_1042 (dk_g tcX10_greatestSoundBelow_0 7 rfl)
theorem dX10_greatestSoundBelow_8 : decode cX10_greatestSoundBelow 8 = .ok (.getfield 31, 3) := dk_1180 (dk_g tcX10_greatestSoundBelow_0 8 rfl) (dk_g tcX10_greatestSoundBelow_0 9 rfl) (dk_g tcX10_greatestSoundBelow_0 10 rfl) rfl
theorem tcX10_greatestSoundBelow_1 : (cX10_greatestSoundBelow.data.toList.drop 12).take 12 = [0, 59, 42, 21, 4, 182, 0, 188, 58, 5, 25, 5] := by decide +kernel
theorem dX10_greatestSoundBelow_11 : decode cX10_greatestSoundBelow 11 = .ok (.if_icmp .ge 59, 3) := dk_2162 (dk_g tcX10_greatestSoundBelow_0 11 rfl) (dk_g tcX10_greatestSoundBelow_1 0 rfl) (dk_g tcX10_greatestSoundBelow_1 1 rfl) rfl rfl
theorem dX10_greatestSoundBelow_14 : decode cX10_greatestSoundBelow 14 = .ok (.aload_n 0, 1) := dk_1042 (dk_g tcX10_greatestSoundBelow_1 2 rfl)
theorem dX10_greatestSoundBelow_15 : decode cX10_greatestSoundBelow 15 = .ok (.iload 4, 2) := dk_1021 (dk_g tcX10_greatestSoundBelow_1 3 rfl) (dk_g tcX10_greatestSoundBelow_1 4 rfl) rfl
theorem dX10_greatestSoundBelow_17 : decode cX10_greatestSoundBelow 17 = .ok (.invokevirtual 188, 3) := dk_1182 (dk_g tcX10_greatestSoundBelow_1 5 rfl) (dk_g tcX10_greatestSoundBelow_1 6 rfl) (dk_g tcX10_greatestSoundBelow_1 7 rfl) rfl
theorem dX10_greatestSoundBelow_20 : decode cX10_greatestSoundBelow 20 = .ok (.astore 5, 2) := dk_1058 (dk_g tcX10_greatestSoundBelow_1 8 rfl) (dk_g tcX10_greatestSoundBelow_1 9 rfl) rfl
theorem dX10_greatestSoundBelow_22 : decode cX10_greatestSoundBelow 22 = .ok (.aload 5, 2) := dk_1025 (dk_g tcX10_greatestSoundBelow_1 10 rfl) (dk_g tcX10_greatestSoundBelow_1 11 rfl) rfl
theorem tcX10_greatestSoundBelow_2 : (cX10_greatestSoundBelow.data.toList.drop 24).take 12 = [198, 0, 40, 25, 5, 180, 0, 128, 27, 160, 0, 31] := by decide +kernel
theorem dX10_greatestSoundBelow_24 : decode cX10_greatestSoundBelow 24 = .ok (.ifnull 40, 3) := dk_2198 (dk_g tcX10_greatestSoundBelow_2 0 rfl) (dk_g tcX10_greatestSoundBelow_2 1 rfl) (dk_g tcX10_greatestSoundBelow_2 2 rfl) rfl rfl
theorem dX10_greatestSoundBelow_27 : decode cX10_greatestSoundBelow 27 = .ok (.aload 5, 2) := dk_1025 (dk_g tcX10_greatestSoundBelow_2 3 rfl) (dk_g tcX10_greatestSoundBelow_2 4 rfl) rfl
theorem dX10_greatestSoundBelow_29 : decode cX10_greatestSoundBelow 29 = .ok (.getfield 128, 3) := dk_1180 (dk_g tcX10_greatestSoundBelow_2 5 rfl) (dk_g tcX10_greatestSoundBelow_2 6 rfl) (dk_g tcX10_greatestSoundBelow_2 7 rfl) rfl
theorem dX10_greatestSoundBelow_32 : decode cX10_greatestSoundBelow 32 = .ok (.iload_n 1, 1) := dk_1027 (dk_g tcX10_greatestSoundBelow_2 8 rfl)
theorem dX10_greatestSoundBelow_33 : decode cX10_greatestSoundBelow 33 = .ok (.if_icmp .ne 31, 3) := dk_2160 (dk_g tcX10_greatestSoundBelow_2 9 rfl) (dk_g tcX10_greatestSoundBelow_2 10 rfl) (dk_g tcX10_greatestSoundBelow_2 11 rfl) rfl rfl
theorem tcX10_greatestSoundBelow_3 : (cX10_greatestSoundBelow.data.toList.drop 36).take 12 = [25, 5, 180, 0, 131, 28, 162, 0, 22, 42, 25, 5] := by decide +kernel
theorem dX10_greatestSoundBelow_36 : decode cX10_greatestSoundBelow 36 = .ok (.aload 5, 2) := dk_1025 (dk_g tcX10_greatestSoundBelow_3 0 rfl) (dk_g tcX10_greatestSoundBelow_3 1 rfl) rfl
theorem dX10_greatestSoundBelow_38 : decode cX10_greatestSoundBelow 38 = .ok (.getfield 131, 3) := dk_1180 (dk_g tcX10_greatestSoundBelow_3 2 rfl) (dk_g tcX10_greatestSoundBelow_3 3 rfl) (dk_g tcX10_greatestSoundBelow_3 4 rfl) rfl
theorem dX10_greatestSoundBelow_41 : decode cX10_greatestSoundBelow 41 = .ok (.iload_n 2, 1) := dk_1028 (dk_g tcX10_greatestSoundBelow_3 5 rfl)
theorem dX10_greatestSoundBelow_42 : decode cX10_greatestSoundBelow 42 = .ok (.if_icmp .ge 22, 3) := dk_2162 (dk_g tcX10_greatestSoundBelow_3 6 rfl) (dk_g tcX10_greatestSoundBelow_3 7 rfl) (dk_g tcX10_greatestSoundBelow_3 8 rfl) rfl rfl
theorem dX10_greatestSoundBelow_45 : decode cX10_greatestSoundBelow 45 = .ok (.aload_n 0, 1) := dk_1042 (dk_g tcX10_greatestSoundBelow_3 9 rfl)
theorem dX10_greatestSoundBelow_46 : decode cX10_greatestSoundBelow 46 = .ok (.aload 5, 2) := dk_1025 (dk_g tcX10_greatestSoundBelow_3 10 rfl) (dk_g tcX10_greatestSoundBelow_3 11 rfl) rfl
theorem tcX10_greatestSoundBelow_4 : (cX10_greatestSoundBelow.data.toList.drop 48).take 12 = [182, 0, 192, 153, 0, 13, 29, 25, 5, 180, 0, 131] := by decide +kernel
theorem dX10_greatestSoundBelow_48 : decode cX10_greatestSoundBelow 48 = .ok (.invokevirtual 192, 3) := dk_1182 (dk_g tcX10_greatestSoundBelow_4 0 rfl) (dk_g tcX10_greatestSoundBelow_4 1 rfl) (dk_g tcX10_greatestSoundBelow_4 2 rfl) rfl
theorem dX10_greatestSoundBelow_51 : decode cX10_greatestSoundBelow 51 = .ok (.ifCond .eq 13, 3) := dk_2153 (dk_g tcX10_greatestSoundBelow_4 3 rfl) (dk_g tcX10_greatestSoundBelow_4 4 rfl) (dk_g tcX10_greatestSoundBelow_4 5 rfl) rfl rfl
theorem dX10_greatestSoundBelow_54 : decode cX10_greatestSoundBelow 54 = .ok (.iload_n 3, 1) := dk_1029 (dk_g tcX10_greatestSoundBelow_4 6 rfl)
theorem dX10_greatestSoundBelow_55 : decode cX10_greatestSoundBelow 55 = .ok (.aload 5, 2) := dk_1025 (dk_g tcX10_greatestSoundBelow_4 7 rfl) (dk_g tcX10_greatestSoundBelow_4 8 rfl) rfl
theorem dX10_greatestSoundBelow_57 : decode cX10_greatestSoundBelow 57 = .ok (.getfield 131, 3) := dk_1180 (dk_g tcX10_greatestSoundBelow_4 9 rfl) (dk_g tcX10_greatestSoundBelow_4 10 rfl) (dk_g tcX10_greatestSoundBelow_4 11 rfl) rfl
theorem tcX10_greatestSoundBelow_5 : (cX10_greatestSoundBelow.data.toList.drop 60).take 12 = [184, 0, 196, 62, 132, 4, 1, 167, 255, 194, 29, 172] := by decide +kernel
theorem dX10_greatestSoundBelow_60 : decode cX10_greatestSoundBelow 60 = .ok (.invokestatic 196, 3) := dk_1184 (dk_g tcX10_greatestSoundBelow_5 0 rfl) (dk_g tcX10_greatestSoundBelow_5 1 rfl) (dk_g tcX10_greatestSoundBelow_5 2 rfl) rfl
theorem dX10_greatestSoundBelow_63 : decode cX10_greatestSoundBelow 63 = .ok (.istore_n 3, 1) := dk_1062 (dk_g tcX10_greatestSoundBelow_5 3 rfl)
theorem dX10_greatestSoundBelow_64 : decode cX10_greatestSoundBelow 64 = .ok (.iinc 4 1, 3) := dk_1132 (dk_g tcX10_greatestSoundBelow_5 4 rfl) (dk_g tcX10_greatestSoundBelow_5 5 rfl) (dk_g tcX10_greatestSoundBelow_5 6 rfl) rfl (by decide +kernel)
theorem dX10_greatestSoundBelow_67 : decode cX10_greatestSoundBelow 67 = .ok (.goto (-62), 3) := dk_1167 (dk_g tcX10_greatestSoundBelow_5 7 rfl) (dk_g tcX10_greatestSoundBelow_5 8 rfl) (dk_g tcX10_greatestSoundBelow_5 9 rfl) (by decide +kernel)
theorem dX10_greatestSoundBelow_70 : decode cX10_greatestSoundBelow 70 = .ok (.iload_n 3, 1) := dk_1029 (dk_g tcX10_greatestSoundBelow_5 10 rfl)
theorem dX10_greatestSoundBelow_71 : decode cX10_greatestSoundBelow 71 = .ok (.ireturn, 1) := dk_1172 (dk_g tcX10_greatestSoundBelow_5 11 rfl)
theorem tcX10_leastFrozenAbove_0 : (cX10_leastFrozenAbove.data.toList.drop 0).take 12 = [2, 62, 3, 54, 4, 21, 4, 42, 180, 0, 31, 162] := by decide +kernel
theorem dX10_leastFrozenAbove_0 : decode cX10_leastFrozenAbove 0 = .ok (.iconst (-1), 1) := dk_1002 (dk_g tcX10_leastFrozenAbove_0 0 rfl)
theorem dX10_leastFrozenAbove_1 : decode cX10_leastFrozenAbove 1 = .ok (.istore_n 3, 1) := dk_1062 (dk_g tcX10_leastFrozenAbove_0 1 rfl)
theorem dX10_leastFrozenAbove_2 : decode cX10_leastFrozenAbove 2 = .ok (.iconst 0, 1) := dk_1003 (dk_g tcX10_leastFrozenAbove_0 2 rfl)
theorem dX10_leastFrozenAbove_3 : decode cX10_leastFrozenAbove 3 = .ok (.istore 4, 2) := dk_1054 (dk_g tcX10_leastFrozenAbove_0 3 rfl) (dk_g tcX10_leastFrozenAbove_0 4 rfl) rfl
theorem dX10_leastFrozenAbove_5 : decode cX10_leastFrozenAbove 5 = .ok (.iload 4, 2) := dk_1021 (dk_g tcX10_leastFrozenAbove_0 5 rfl) (dk_g tcX10_leastFrozenAbove_0 6 rfl) rfl
theorem dX10_leastFrozenAbove_7 : decode cX10_leastFrozenAbove 7 = .ok (.aload_n 0, 1) := dk_1042 (dk_g tcX10_leastFrozenAbove_0 7 rfl)
theorem dX10_leastFrozenAbove_8 : decode cX10_leastFrozenAbove 8 = .ok (.getfield 31, 3) := dk_1180 (dk_g tcX10_leastFrozenAbove_0 8 rfl) (dk_g tcX10_leastFrozenAbove_0 9 rfl) (dk_g tcX10_leastFrozenAbove_0 10 rfl) rfl
theorem tcX10_leastFrozenAbove_1 : (cX10_leastFrozenAbove.data.toList.drop 12).take 12 = [0, 60, 42, 21, 4, 182, 0, 188, 58, 5, 25, 5] := by decide +kernel
theorem dX10_leastFrozenAbove_11 : decode cX10_leastFrozenAbove 11 = .ok (.if_icmp .ge 60, 3) := dk_2162 (dk_g tcX10_leastFrozenAbove_0 11 rfl) (dk_g tcX10_leastFrozenAbove_1 0 rfl) (dk_g tcX10_leastFrozenAbove_1 1 rfl) rfl rfl
theorem dX10_leastFrozenAbove_14 : decode cX10_leastFrozenAbove 14 = .ok (.aload_n 0, 1) := dk_1042 (dk_g tcX10_leastFrozenAbove_1 2 rfl)
theorem dX10_leastFrozenAbove_15 : decode cX10_leastFrozenAbove 15 = .ok (.iload 4, 2) := dk_1021 (dk_g tcX10_leastFrozenAbove_1 3 rfl) (dk_g tcX10_leastFrozenAbove_1 4 rfl) rfl
theorem dX10_leastFrozenAbove_17 : decode cX10_leastFrozenAbove 17 = .ok (.invokevirtual 188, 3) := dk_1182 (dk_g tcX10_leastFrozenAbove_1 5 rfl) (dk_g tcX10_leastFrozenAbove_1 6 rfl) (dk_g tcX10_leastFrozenAbove_1 7 rfl) rfl
theorem dX10_leastFrozenAbove_20 : decode cX10_leastFrozenAbove 20 = .ok (.astore 5, 2) := dk_1058 (dk_g tcX10_leastFrozenAbove_1 8 rfl) (dk_g tcX10_leastFrozenAbove_1 9 rfl) rfl
theorem dX10_leastFrozenAbove_22 : decode cX10_leastFrozenAbove 22 = .ok (.aload 5, 2) := dk_1025 (dk_g tcX10_leastFrozenAbove_1 10 rfl) (dk_g tcX10_leastFrozenAbove_1 11 rfl) rfl
theorem tcX10_leastFrozenAbove_2 : (cX10_leastFrozenAbove.data.toList.drop 24).take 12 = [198, 0, 41, 25, 5, 180, 0, 128, 27, 160, 0, 32] := by decide +kernel
theorem dX10_leastFrozenAbove_24 : decode cX10_leastFrozenAbove 24 = .ok (.ifnull 41, 3) := dk_2198 (dk_g tcX10_leastFrozenAbove_2 0 rfl) (dk_g tcX10_leastFrozenAbove_2 1 rfl) (dk_g tcX10_leastFrozenAbove_2 2 rfl) rfl rfl
theorem dX10_leastFrozenAbove_27 : decode cX10_leastFrozenAbove 27 = .ok (.aload 5, 2) := dk_1025 (dk_g tcX10_leastFrozenAbove_2 3 rfl) (dk_g tcX10_leastFrozenAbove_2 4 rfl) rfl
theorem dX10_leastFrozenAbove_29 : decode cX10_leastFrozenAbove 29 = .ok (.getfield 128, 3) := dk_1180 (dk_g tcX10_leastFrozenAbove_2 5 rfl) (dk_g tcX10_leastFrozenAbove_2 6 rfl) (dk_g tcX10_leastFrozenAbove_2 7 rfl) rfl
theorem dX10_leastFrozenAbove_32 : decode cX10_leastFrozenAbove 32 = .ok (.iload_n 1, 1) := dk_1027 (dk_g tcX10_leastFrozenAbove_2 8 rfl)
theorem dX10_leastFrozenAbove_33 : decode cX10_leastFrozenAbove 33 = .ok (.if_icmp .ne 32, 3) := dk_2160 (dk_g tcX10_leastFrozenAbove_2 9 rfl) (dk_g tcX10_leastFrozenAbove_2 10 rfl) (dk_g tcX10_leastFrozenAbove_2 11 rfl) rfl rfl
theorem tcX10_leastFrozenAbove_3 : (cX10_leastFrozenAbove.data.toList.drop 36).take 12 = [25, 5, 180, 0, 131, 28, 164, 0, 23, 29, 2, 159] := by decide +kernel
theorem dX10_leastFrozenAbove_36 : decode cX10_leastFrozenAbove 36 = .ok (.aload 5, 2) := dk_1025 (dk_g tcX10_leastFrozenAbove_3 0 rfl) (dk_g tcX10_leastFrozenAbove_3 1 rfl) rfl
theorem dX10_leastFrozenAbove_38 : decode cX10_leastFrozenAbove 38 = .ok (.getfield 131, 3) := dk_1180 (dk_g tcX10_leastFrozenAbove_3 2 rfl) (dk_g tcX10_leastFrozenAbove_3 3 rfl) (dk_g tcX10_leastFrozenAbove_3 4 rfl) rfl
theorem dX10_leastFrozenAbove_41 : decode cX10_leastFrozenAbove 41 = .ok (.iload_n 2, 1) := dk_1028 (dk_g tcX10_leastFrozenAbove_3 5 rfl)
theorem dX10_leastFrozenAbove_42 : decode cX10_leastFrozenAbove 42 = .ok (.if_icmp .le 23, 3) := dk_2164 (dk_g tcX10_leastFrozenAbove_3 6 rfl) (dk_g tcX10_leastFrozenAbove_3 7 rfl) (dk_g tcX10_leastFrozenAbove_3 8 rfl) rfl rfl
theorem dX10_leastFrozenAbove_45 : decode cX10_leastFrozenAbove 45 = .ok (.iload_n 3, 1) := dk_1029 (dk_g tcX10_leastFrozenAbove_3 9 rfl)
theorem dX10_leastFrozenAbove_46 : decode cX10_leastFrozenAbove 46 = .ok (.iconst (-1), 1) := dk_1002 (dk_g tcX10_leastFrozenAbove_3 10 rfl)
theorem tcX10_leastFrozenAbove_4 : (cX10_leastFrozenAbove.data.toList.drop 48).take 12 = [0, 12, 25, 5, 180, 0, 131, 29, 162, 0, 9, 25] := by decide +kernel
theorem dX10_leastFrozenAbove_47 : decode cX10_leastFrozenAbove 47 = .ok (.if_icmp .eq 12, 3) := dk_2159 (dk_g tcX10_leastFrozenAbove_3 11 rfl) (dk_g tcX10_leastFrozenAbove_4 0 rfl) (dk_g tcX10_leastFrozenAbove_4 1 rfl) rfl rfl
theorem dX10_leastFrozenAbove_50 : decode cX10_leastFrozenAbove 50 = .ok (.aload 5, 2) := dk_1025 (dk_g tcX10_leastFrozenAbove_4 2 rfl) (dk_g tcX10_leastFrozenAbove_4 3 rfl) rfl
theorem dX10_leastFrozenAbove_52 : decode cX10_leastFrozenAbove 52 = .ok (.getfield 131, 3) := dk_1180 (dk_g tcX10_leastFrozenAbove_4 4 rfl) (dk_g tcX10_leastFrozenAbove_4 5 rfl) (dk_g tcX10_leastFrozenAbove_4 6 rfl) rfl
theorem dX10_leastFrozenAbove_55 : decode cX10_leastFrozenAbove 55 = .ok (.iload_n 3, 1) := dk_1029 (dk_g tcX10_leastFrozenAbove_4 7 rfl)
theorem dX10_leastFrozenAbove_56 : decode cX10_leastFrozenAbove 56 = .ok (.if_icmp .ge 9, 3) := dk_2162 (dk_g tcX10_leastFrozenAbove_4 8 rfl) (dk_g tcX10_leastFrozenAbove_4 9 rfl) (dk_g tcX10_leastFrozenAbove_4 10 rfl) rfl rfl
theorem tcX10_leastFrozenAbove_5 : (cX10_leastFrozenAbove.data.toList.drop 60).take 12 = [5, 180, 0, 131, 62, 132, 4, 1, 167, 255, 193, 29] := by decide +kernel
theorem dX10_leastFrozenAbove_59 : decode cX10_leastFrozenAbove 59 = .ok (.aload 5, 2) := dk_1025 (dk_g tcX10_leastFrozenAbove_4 11 rfl) (dk_g tcX10_leastFrozenAbove_5 0 rfl) rfl
theorem dX10_leastFrozenAbove_61 : decode cX10_leastFrozenAbove 61 = .ok (.getfield 131, 3) := dk_1180 (dk_g tcX10_leastFrozenAbove_5 1 rfl) (dk_g tcX10_leastFrozenAbove_5 2 rfl) (dk_g tcX10_leastFrozenAbove_5 3 rfl) rfl
theorem dX10_leastFrozenAbove_64 : decode cX10_leastFrozenAbove 64 = .ok (.istore_n 3, 1) := dk_1062 (dk_g tcX10_leastFrozenAbove_5 4 rfl)
theorem dX10_leastFrozenAbove_65 : decode cX10_leastFrozenAbove 65 = .ok (.iinc 4 1, 3) := dk_1132 (dk_g tcX10_leastFrozenAbove_5 5 rfl) (dk_g tcX10_leastFrozenAbove_5 6 rfl) (dk_g tcX10_leastFrozenAbove_5 7 rfl) rfl (by decide +kernel)
theorem dX10_leastFrozenAbove_68 : decode cX10_leastFrozenAbove 68 = .ok (.goto (-63), 3) := dk_1167 (dk_g tcX10_leastFrozenAbove_5 8 rfl) (dk_g tcX10_leastFrozenAbove_5 9 rfl) (dk_g tcX10_leastFrozenAbove_5 10 rfl) (by decide +kernel)
theorem dX10_leastFrozenAbove_71 : decode cX10_leastFrozenAbove 71 = .ok (.iload_n 3, 1) := dk_1029 (dk_g tcX10_leastFrozenAbove_5 11 rfl)
theorem tcX10_leastFrozenAbove_6 : (cX10_leastFrozenAbove.data.toList.drop 72).take 12 = [172] := by decide +kernel
theorem dX10_leastFrozenAbove_72 : decode cX10_leastFrozenAbove 72 = .ok (.ireturn, 1) := dk_1172 (dk_g tcX10_leastFrozenAbove_6 0 rfl)
theorem tcX10_partingEntry_0 : (cX10_partingEntry.data.toList.drop 0).take 12 = [43, 180, 0, 68, 44, 180, 0, 68, 184, 0, 82, 62] := by decide +kernel
theorem dX10_partingEntry_0 : decode cX10_partingEntry 0 = .ok (.aload_n 1, 1) := dk_1043 (dk_g tcX10_partingEntry_0 0 rfl)
theorem dX10_partingEntry_1 : decode cX10_partingEntry 1 = .ok (.getfield 68, 3) := dk_1180 (dk_g tcX10_partingEntry_0 1 rfl) (dk_g tcX10_partingEntry_0 2 rfl) (dk_g tcX10_partingEntry_0 3 rfl) rfl
theorem dX10_partingEntry_4 : decode cX10_partingEntry 4 = .ok (.aload_n 2, 1) := dk_1044 (dk_g tcX10_partingEntry_0 4 rfl)
theorem dX10_partingEntry_5 : decode cX10_partingEntry 5 = .ok (.getfield 68, 3) := dk_1180 (dk_g tcX10_partingEntry_0 5 rfl) (dk_g tcX10_partingEntry_0 6 rfl) (dk_g tcX10_partingEntry_0 7 rfl) rfl
theorem dX10_partingEntry_8 : decode cX10_partingEntry 8 = .ok (.invokestatic 82, 3) := dk_1184 (dk_g tcX10_partingEntry_0 8 rfl) (dk_g tcX10_partingEntry_0 9 rfl) (dk_g tcX10_partingEntry_0 10 rfl) rfl
theorem dX10_partingEntry_11 : decode cX10_partingEntry 11 = .ok (.istore_n 3, 1) := dk_1062 (dk_g tcX10_partingEntry_0 11 rfl)
theorem tcX10_partingEntry_1 : (cX10_partingEntry.data.toList.drop 12).take 12 = [42, 43, 29, 182, 0, 107, 42, 44, 29, 182, 0, 107] := by decide +kernel
theorem dX10_partingEntry_12 : decode cX10_partingEntry 12 = .ok (.aload_n 0, 1) := dk_1042 (dk_g tcX10_partingEntry_1 0 rfl)
theorem dX10_partingEntry_13 : decode cX10_partingEntry 13 = .ok (.aload_n 1, 1) := dk_1043 (dk_g tcX10_partingEntry_1 1 rfl)
theorem dX10_partingEntry_14 : decode cX10_partingEntry 14 = .ok (.iload_n 3, 1) := dk_1029 (dk_g tcX10_partingEntry_1 2 rfl)
theorem dX10_partingEntry_15 : decode cX10_partingEntry 15 = .ok (.invokevirtual 107, 3) := dk_1182 (dk_g tcX10_partingEntry_1 3 rfl) (dk_g tcX10_partingEntry_1 4 rfl) (dk_g tcX10_partingEntry_1 5 rfl) rfl
theorem dX10_partingEntry_18 : decode cX10_partingEntry 18 = .ok (.aload_n 0, 1) := dk_1042 (dk_g tcX10_partingEntry_1 6 rfl)
theorem dX10_partingEntry_19 : decode cX10_partingEntry 19 = .ok (.aload_n 2, 1) := dk_1044 (dk_g tcX10_partingEntry_1 7 rfl)
theorem dX10_partingEntry_20 : decode cX10_partingEntry 20 = .ok (.iload_n 3, 1) := dk_1029 (dk_g tcX10_partingEntry_1 8 rfl)
theorem dX10_partingEntry_21 : decode cX10_partingEntry 21 = .ok (.invokevirtual 107, 3) := dk_1182 (dk_g tcX10_partingEntry_1 9 rfl) (dk_g tcX10_partingEntry_1 10 rfl) (dk_g tcX10_partingEntry_1 11 rfl) rfl
theorem tcX10_partingEntry_2 : (cX10_partingEntry.data.toList.drop 24).take 12 = [160, 0, 20, 43, 180, 0, 68, 44, 180, 0, 68, 160] := by decide +kernel
theorem dX10_partingEntry_24 : decode cX10_partingEntry 24 = .ok (.if_icmp .ne 20, 3) := dk_2160 (dk_g tcX10_partingEntry_2 0 rfl) (dk_g tcX10_partingEntry_2 1 rfl) (dk_g tcX10_partingEntry_2 2 rfl) rfl rfl
theorem dX10_partingEntry_27 : decode cX10_partingEntry 27 = .ok (.aload_n 1, 1) := dk_1043 (dk_g tcX10_partingEntry_2 3 rfl)
theorem dX10_partingEntry_28 : decode cX10_partingEntry 28 = .ok (.getfield 68, 3) := dk_1180 (dk_g tcX10_partingEntry_2 4 rfl) (dk_g tcX10_partingEntry_2 5 rfl) (dk_g tcX10_partingEntry_2 6 rfl) rfl
theorem dX10_partingEntry_31 : decode cX10_partingEntry 31 = .ok (.aload_n 2, 1) := dk_1044 (dk_g tcX10_partingEntry_2 7 rfl)
theorem dX10_partingEntry_32 : decode cX10_partingEntry 32 = .ok (.getfield 68, 3) := dk_1180 (dk_g tcX10_partingEntry_2 8 rfl) (dk_g tcX10_partingEntry_2 9 rfl) (dk_g tcX10_partingEntry_2 10 rfl) rfl
theorem tcX10_partingEntry_3 : (cX10_partingEntry.data.toList.drop 36).take 12 = [0, 7, 2, 167, 0, 4, 29, 172, 42, 43, 44, 29] := by decide +kernel
theorem dX10_partingEntry_35 : decode cX10_partingEntry 35 = .ok (.if_icmp .ne 7, 3) := dk_2160 (dk_g tcX10_partingEntry_2 11 rfl) (dk_g tcX10_partingEntry_3 0 rfl) (dk_g tcX10_partingEntry_3 1 rfl) rfl rfl
theorem dX10_partingEntry_38 : decode cX10_partingEntry 38 = .ok (.iconst (-1), 1) := dk_1002 (dk_g tcX10_partingEntry_3 2 rfl)
theorem dX10_partingEntry_39 : decode cX10_partingEntry 39 = .ok (.goto 4, 3) := dk_2167 (dk_g tcX10_partingEntry_3 3 rfl) (dk_g tcX10_partingEntry_3 4 rfl) (dk_g tcX10_partingEntry_3 5 rfl) rfl rfl
theorem dX10_partingEntry_42 : decode cX10_partingEntry 42 = .ok (.iload_n 3, 1) := dk_1029 (dk_g tcX10_partingEntry_3 6 rfl)
theorem dX10_partingEntry_43 : decode cX10_partingEntry 43 = .ok (.ireturn, 1) := dk_1172 (dk_g tcX10_partingEntry_3 7 rfl)
theorem dX10_partingEntry_44 : decode cX10_partingEntry 44 = .ok (.aload_n 0, 1) := dk_1042 (dk_g tcX10_partingEntry_3 8 rfl)
theorem dX10_partingEntry_45 : decode cX10_partingEntry 45 = .ok (.aload_n 1, 1) := dk_1043 (dk_g tcX10_partingEntry_3 9 rfl)
theorem dX10_partingEntry_46 : decode cX10_partingEntry 46 = .ok (.aload_n 2, 1) := dk_1044 (dk_g tcX10_partingEntry_3 10 rfl)
theorem dX10_partingEntry_47 : decode cX10_partingEntry 47 = .ok (.iload_n 3, 1) := dk_1029 (dk_g tcX10_partingEntry_3 11 rfl)
theorem tcX10_partingEntry_4 : (cX10_partingEntry.data.toList.drop 48).take 12 = [3, 182, 0, 199, 172] := by decide +kernel
theorem dX10_partingEntry_48 : decode cX10_partingEntry 48 = .ok (.iconst 0, 1) := dk_1003 (dk_g tcX10_partingEntry_4 0 rfl)
theorem dX10_partingEntry_49 : decode cX10_partingEntry 49 = .ok (.invokevirtual 199, 3) := dk_1182 (dk_g tcX10_partingEntry_4 1 rfl) (dk_g tcX10_partingEntry_4 2 rfl) (dk_g tcX10_partingEntry_4 3 rfl) rfl
theorem dX10_partingEntry_52 : decode cX10_partingEntry 52 = .ok (.ireturn, 1) := dk_1172 (dk_g tcX10_partingEntry_4 4 rfl)
theorem tcX10_partingCompared_0 : (cX10_partingCompared.data.toList.drop 0).take 12 = [43, 180, 0, 68, 44, 180, 0, 68, 184, 0, 82, 62] := by decide +kernel
theorem dX10_partingCompared_0 : decode cX10_partingCompared 0 = .ok (.aload_n 1, 1) := dk_1043 (dk_g tcX10_partingCompared_0 0 rfl)
theorem dX10_partingCompared_1 : decode cX10_partingCompared 1 = .ok (.getfield 68, 3) := dk_1180 (dk_g tcX10_partingCompared_0 1 rfl) (dk_g tcX10_partingCompared_0 2 rfl) (dk_g tcX10_partingCompared_0 3 rfl) rfl
theorem dX10_partingCompared_4 : decode cX10_partingCompared 4 = .ok (.aload_n 2, 1) := dk_1044 (dk_g tcX10_partingCompared_0 4 rfl)
theorem dX10_partingCompared_5 : decode cX10_partingCompared 5 = .ok (.getfield 68, 3) := dk_1180 (dk_g tcX10_partingCompared_0 5 rfl) (dk_g tcX10_partingCompared_0 6 rfl) (dk_g tcX10_partingCompared_0 7 rfl) rfl
theorem dX10_partingCompared_8 : decode cX10_partingCompared 8 = .ok (.invokestatic 82, 3) := dk_1184 (dk_g tcX10_partingCompared_0 8 rfl) (dk_g tcX10_partingCompared_0 9 rfl) (dk_g tcX10_partingCompared_0 10 rfl) rfl
theorem dX10_partingCompared_11 : decode cX10_partingCompared 11 = .ok (.istore_n 3, 1) := dk_1062 (dk_g tcX10_partingCompared_0 11 rfl)
theorem tcX10_partingCompared_1 : (cX10_partingCompared.data.toList.drop 12).take 12 = [42, 43, 29, 182, 0, 107, 42, 44, 29, 182, 0, 107] := by decide +kernel
theorem dX10_partingCompared_12 : decode cX10_partingCompared 12 = .ok (.aload_n 0, 1) := dk_1042 (dk_g tcX10_partingCompared_1 0 rfl)
theorem dX10_partingCompared_13 : decode cX10_partingCompared 13 = .ok (.aload_n 1, 1) := dk_1043 (dk_g tcX10_partingCompared_1 1 rfl)
theorem dX10_partingCompared_14 : decode cX10_partingCompared 14 = .ok (.iload_n 3, 1) := dk_1029 (dk_g tcX10_partingCompared_1 2 rfl)
theorem dX10_partingCompared_15 : decode cX10_partingCompared 15 = .ok (.invokevirtual 107, 3) := dk_1182 (dk_g tcX10_partingCompared_1 3 rfl) (dk_g tcX10_partingCompared_1 4 rfl) (dk_g tcX10_partingCompared_1 5 rfl) rfl
theorem dX10_partingCompared_18 : decode cX10_partingCompared 18 = .ok (.aload_n 0, 1) := dk_1042 (dk_g tcX10_partingCompared_1 6 rfl)
theorem dX10_partingCompared_19 : decode cX10_partingCompared 19 = .ok (.aload_n 2, 1) := dk_1044 (dk_g tcX10_partingCompared_1 7 rfl)
theorem dX10_partingCompared_20 : decode cX10_partingCompared 20 = .ok (.iload_n 3, 1) := dk_1029 (dk_g tcX10_partingCompared_1 8 rfl)
theorem dX10_partingCompared_21 : decode cX10_partingCompared 21 = .ok (.invokevirtual 107, 3) := dk_1182 (dk_g tcX10_partingCompared_1 9 rfl) (dk_g tcX10_partingCompared_1 10 rfl) (dk_g tcX10_partingCompared_1 11 rfl) rfl
theorem tcX10_partingCompared_2 : (cX10_partingCompared.data.toList.drop 24).take 12 = [160, 0, 7, 3, 167, 0, 11, 42, 43, 44, 29, 4] := by decide +kernel
theorem dX10_partingCompared_24 : decode cX10_partingCompared 24 = .ok (.if_icmp .ne 7, 3) := dk_2160 (dk_g tcX10_partingCompared_2 0 rfl) (dk_g tcX10_partingCompared_2 1 rfl) (dk_g tcX10_partingCompared_2 2 rfl) rfl rfl
theorem dX10_partingCompared_27 : decode cX10_partingCompared 27 = .ok (.iconst 0, 1) := dk_1003 (dk_g tcX10_partingCompared_2 3 rfl)
theorem dX10_partingCompared_28 : decode cX10_partingCompared 28 = .ok (.goto 11, 3) := dk_2167 (dk_g tcX10_partingCompared_2 4 rfl) (dk_g tcX10_partingCompared_2 5 rfl) (dk_g tcX10_partingCompared_2 6 rfl) rfl rfl
theorem dX10_partingCompared_31 : decode cX10_partingCompared 31 = .ok (.aload_n 0, 1) := dk_1042 (dk_g tcX10_partingCompared_2 7 rfl)
theorem dX10_partingCompared_32 : decode cX10_partingCompared 32 = .ok (.aload_n 1, 1) := dk_1043 (dk_g tcX10_partingCompared_2 8 rfl)
theorem dX10_partingCompared_33 : decode cX10_partingCompared 33 = .ok (.aload_n 2, 1) := dk_1044 (dk_g tcX10_partingCompared_2 9 rfl)
theorem dX10_partingCompared_34 : decode cX10_partingCompared 34 = .ok (.iload_n 3, 1) := dk_1029 (dk_g tcX10_partingCompared_2 10 rfl)
theorem dX10_partingCompared_35 : decode cX10_partingCompared 35 = .ok (.iconst 1, 1) := dk_1004 (dk_g tcX10_partingCompared_2 11 rfl)
theorem tcX10_partingCompared_3 : (cX10_partingCompared.data.toList.drop 36).take 12 = [182, 0, 199, 172] := by decide +kernel
theorem dX10_partingCompared_36 : decode cX10_partingCompared 36 = .ok (.invokevirtual 199, 3) := dk_1182 (dk_g tcX10_partingCompared_3 0 rfl) (dk_g tcX10_partingCompared_3 1 rfl) (dk_g tcX10_partingCompared_3 2 rfl) rfl
theorem dX10_partingCompared_39 : decode cX10_partingCompared 39 = .ok (.ireturn, 1) := dk_1172 (dk_g tcX10_partingCompared_3 3 rfl)
theorem tcX10_partingTrees_0 : (cX10_partingTrees.data.toList.drop 0).take 12 = [3, 54, 5, 29, 54, 6, 3, 54, 7, 3, 54, 8] := by decide +kernel
theorem dX10_partingTrees_0 : decode cX10_partingTrees 0 = .ok (.iconst 0, 1) := dk_1003 (dk_g tcX10_partingTrees_0 0 rfl)
theorem dX10_partingTrees_1 : decode cX10_partingTrees 1 = .ok (.istore 5, 2) := dk_1054 (dk_g tcX10_partingTrees_0 1 rfl) (dk_g tcX10_partingTrees_0 2 rfl) rfl
theorem dX10_partingTrees_3 : decode cX10_partingTrees 3 = .ok (.iload_n 3, 1) := dk_1029 (dk_g tcX10_partingTrees_0 3 rfl)
theorem dX10_partingTrees_4 : decode cX10_partingTrees 4 = .ok (.istore 6, 2) := dk_1054 (dk_g tcX10_partingTrees_0 4 rfl) (dk_g tcX10_partingTrees_0 5 rfl) rfl
theorem dX10_partingTrees_6 : decode cX10_partingTrees 6 = .ok (.iconst 0, 1) := dk_1003 (dk_g tcX10_partingTrees_0 6 rfl)
theorem dX10_partingTrees_7 : decode cX10_partingTrees 7 = .ok (.istore 7, 2) := dk_1054 (dk_g tcX10_partingTrees_0 7 rfl) (dk_g tcX10_partingTrees_0 8 rfl) rfl
theorem dX10_partingTrees_9 : decode cX10_partingTrees 9 = .ok (.iconst 0, 1) := dk_1003 (dk_g tcX10_partingTrees_0 9 rfl)
theorem dX10_partingTrees_10 : decode cX10_partingTrees 10 = .ok (.istore 8, 2) := dk_1054 (dk_g tcX10_partingTrees_0 10 rfl) (dk_g tcX10_partingTrees_0 11 rfl) rfl
theorem tcX10_partingTrees_1 : (cX10_partingTrees.data.toList.drop 12).take 12 = [21, 8, 16, 40, 162, 0, 67, 21, 6, 4, 164, 0] := by decide +kernel
theorem dX10_partingTrees_12 : decode cX10_partingTrees 12 = .ok (.iload 8, 2) := dk_1021 (dk_g tcX10_partingTrees_1 0 rfl) (dk_g tcX10_partingTrees_1 1 rfl) rfl
theorem dX10_partingTrees_14 : decode cX10_partingTrees 14 = .ok (.bipush 40, 2) := dk_1016 (dk_g tcX10_partingTrees_1 2 rfl) (dk_g tcX10_partingTrees_1 3 rfl) (by decide +kernel)
theorem dX10_partingTrees_16 : decode cX10_partingTrees 16 = .ok (.if_icmp .ge 67, 3) := dk_2162 (dk_g tcX10_partingTrees_1 4 rfl) (dk_g tcX10_partingTrees_1 5 rfl) (dk_g tcX10_partingTrees_1 6 rfl) rfl rfl
theorem dX10_partingTrees_19 : decode cX10_partingTrees 19 = .ok (.iload 6, 2) := dk_1021 (dk_g tcX10_partingTrees_1 7 rfl) (dk_g tcX10_partingTrees_1 8 rfl) rfl
theorem dX10_partingTrees_21 : decode cX10_partingTrees 21 = .ok (.iconst 1, 1) := dk_1004 (dk_g tcX10_partingTrees_1 9 rfl)
theorem tcX10_partingTrees_2 : (cX10_partingTrees.data.toList.drop 24).take 12 = [61, 21, 6, 184, 0, 203, 54, 9, 132, 7, 1, 42] := by decide +kernel
theorem dX10_partingTrees_22 : decode cX10_partingTrees 22 = .ok (.if_icmp .le 61, 3) := dk_2164 (dk_g tcX10_partingTrees_1 10 rfl) (dk_g tcX10_partingTrees_1 11 rfl) (dk_g tcX10_partingTrees_2 0 rfl) rfl rfl
theorem dX10_partingTrees_25 : decode cX10_partingTrees 25 = .ok (.iload 6, 2) := dk_1021 (dk_g tcX10_partingTrees_2 1 rfl) (dk_g tcX10_partingTrees_2 2 rfl) rfl
theorem dX10_partingTrees_27 : decode cX10_partingTrees 27 = .ok (.invokestatic 203, 3) := dk_1184 (dk_g tcX10_partingTrees_2 3 rfl) (dk_g tcX10_partingTrees_2 4 rfl) (dk_g tcX10_partingTrees_2 5 rfl) rfl
theorem dX10_partingTrees_30 : decode cX10_partingTrees 30 = .ok (.istore 9, 2) := dk_1054 (dk_g tcX10_partingTrees_2 6 rfl) (dk_g tcX10_partingTrees_2 7 rfl) rfl
theorem dX10_partingTrees_32 : decode cX10_partingTrees 32 = .ok (.iinc 7 1, 3) := dk_1132 (dk_g tcX10_partingTrees_2 8 rfl) (dk_g tcX10_partingTrees_2 9 rfl) (dk_g tcX10_partingTrees_2 10 rfl) rfl (by decide +kernel)
theorem dX10_partingTrees_35 : decode cX10_partingTrees 35 = .ok (.aload_n 0, 1) := dk_1042 (dk_g tcX10_partingTrees_2 11 rfl)
theorem tcX10_partingTrees_3 : (cX10_partingTrees.data.toList.drop 36).take 12 = [43, 21, 5, 21, 9, 182, 0, 100, 42, 44, 21, 5] := by decide +kernel
theorem dX10_partingTrees_36 : decode cX10_partingTrees 36 = .ok (.aload_n 1, 1) := dk_1043 (dk_g tcX10_partingTrees_3 0 rfl)
theorem dX10_partingTrees_37 : decode cX10_partingTrees 37 = .ok (.iload 5, 2) := dk_1021 (dk_g tcX10_partingTrees_3 1 rfl) (dk_g tcX10_partingTrees_3 2 rfl) rfl
theorem dX10_partingTrees_39 : decode cX10_partingTrees 39 = .ok (.iload 9, 2) := dk_1021 (dk_g tcX10_partingTrees_3 3 rfl) (dk_g tcX10_partingTrees_3 4 rfl) rfl
theorem dX10_partingTrees_41 : decode cX10_partingTrees 41 = .ok (.invokevirtual 100, 3) := dk_1182 (dk_g tcX10_partingTrees_3 5 rfl) (dk_g tcX10_partingTrees_3 6 rfl) (dk_g tcX10_partingTrees_3 7 rfl) rfl
theorem dX10_partingTrees_44 : decode cX10_partingTrees 44 = .ok (.aload_n 0, 1) := dk_1042 (dk_g tcX10_partingTrees_3 8 rfl)
theorem dX10_partingTrees_45 : decode cX10_partingTrees 45 = .ok (.aload_n 2, 1) := dk_1044 (dk_g tcX10_partingTrees_3 9 rfl)
theorem dX10_partingTrees_46 : decode cX10_partingTrees 46 = .ok (.iload 5, 2) := dk_1021 (dk_g tcX10_partingTrees_3 10 rfl) (dk_g tcX10_partingTrees_3 11 rfl) rfl
theorem tcX10_partingTrees_4 : (cX10_partingTrees.data.toList.drop 48).take 12 = [21, 9, 182, 0, 100, 159, 0, 10, 21, 9, 54, 6] := by decide +kernel
theorem dX10_partingTrees_48 : decode cX10_partingTrees 48 = .ok (.iload 9, 2) := dk_1021 (dk_g tcX10_partingTrees_4 0 rfl) (dk_g tcX10_partingTrees_4 1 rfl) rfl
theorem dX10_partingTrees_50 : decode cX10_partingTrees 50 = .ok (.invokevirtual 100, 3) := dk_1182 (dk_g tcX10_partingTrees_4 2 rfl) (dk_g tcX10_partingTrees_4 3 rfl) (dk_g tcX10_partingTrees_4 4 rfl) rfl
theorem dX10_partingTrees_53 : decode cX10_partingTrees 53 = .ok (.if_icmp .eq 10, 3) := dk_2159 (dk_g tcX10_partingTrees_4 5 rfl) (dk_g tcX10_partingTrees_4 6 rfl) (dk_g tcX10_partingTrees_4 7 rfl) rfl rfl
theorem dX10_partingTrees_56 : decode cX10_partingTrees 56 = .ok (.iload 9, 2) := dk_1021 (dk_g tcX10_partingTrees_4 8 rfl) (dk_g tcX10_partingTrees_4 9 rfl) rfl
theorem dX10_partingTrees_58 : decode cX10_partingTrees 58 = .ok (.istore 6, 2) := dk_1054 (dk_g tcX10_partingTrees_4 10 rfl) (dk_g tcX10_partingTrees_4 11 rfl) rfl
theorem tcX10_partingTrees_5 : (cX10_partingTrees.data.toList.drop 60).take 12 = [167, 0, 17, 21, 5, 21, 9, 96, 54, 5, 21, 6] := by decide +kernel
theorem dX10_partingTrees_60 : decode cX10_partingTrees 60 = .ok (.goto 17, 3) := dk_2167 (dk_g tcX10_partingTrees_5 0 rfl) (dk_g tcX10_partingTrees_5 1 rfl) (dk_g tcX10_partingTrees_5 2 rfl) rfl rfl
theorem dX10_partingTrees_63 : decode cX10_partingTrees 63 = .ok (.iload 5, 2) := dk_1021 (dk_g tcX10_partingTrees_5 3 rfl) (dk_g tcX10_partingTrees_5 4 rfl) rfl
theorem dX10_partingTrees_65 : decode cX10_partingTrees 65 = .ok (.iload 9, 2) := dk_1021 (dk_g tcX10_partingTrees_5 5 rfl) (dk_g tcX10_partingTrees_5 6 rfl) rfl
theorem dX10_partingTrees_67 : decode cX10_partingTrees 67 = .ok (.iadd, 1) := dk_1096 (dk_g tcX10_partingTrees_5 7 rfl)
theorem dX10_partingTrees_68 : decode cX10_partingTrees 68 = .ok (.istore 5, 2) := dk_1054 (dk_g tcX10_partingTrees_5 8 rfl) (dk_g tcX10_partingTrees_5 9 rfl) rfl
theorem dX10_partingTrees_70 : decode cX10_partingTrees 70 = .ok (.iload 6, 2) := dk_1021 (dk_g tcX10_partingTrees_5 10 rfl) (dk_g tcX10_partingTrees_5 11 rfl) rfl
theorem tcX10_partingTrees_6 : (cX10_partingTrees.data.toList.drop 72).take 12 = [21, 9, 100, 54, 6, 132, 8, 1, 167, 255, 188, 21] := by decide +kernel
theorem dX10_partingTrees_72 : decode cX10_partingTrees 72 = .ok (.iload 9, 2) := dk_1021 (dk_g tcX10_partingTrees_6 0 rfl) (dk_g tcX10_partingTrees_6 1 rfl) rfl
theorem dX10_partingTrees_74 : decode cX10_partingTrees 74 = .ok (.isub, 1) := dk_1100 (dk_g tcX10_partingTrees_6 2 rfl)
theorem dX10_partingTrees_75 : decode cX10_partingTrees 75 = .ok (.istore 6, 2) := dk_1054 (dk_g tcX10_partingTrees_6 3 rfl) (dk_g tcX10_partingTrees_6 4 rfl) rfl
theorem dX10_partingTrees_77 : decode cX10_partingTrees 77 = .ok (.iinc 8 1, 3) := dk_1132 (dk_g tcX10_partingTrees_6 5 rfl) (dk_g tcX10_partingTrees_6 6 rfl) (dk_g tcX10_partingTrees_6 7 rfl) rfl (by decide +kernel)
theorem dX10_partingTrees_80 : decode cX10_partingTrees 80 = .ok (.goto (-68), 3) := dk_1167 (dk_g tcX10_partingTrees_6 8 rfl) (dk_g tcX10_partingTrees_6 9 rfl) (dk_g tcX10_partingTrees_6 10 rfl) (by decide +kernel)
theorem tcX10_partingTrees_7 : (cX10_partingTrees.data.toList.drop 84).take 12 = [4, 153, 0, 8, 21, 7, 167, 0, 5, 21, 5, 172] := by decide +kernel
theorem dX10_partingTrees_83 : decode cX10_partingTrees 83 = .ok (.iload 4, 2) := dk_1021 (dk_g tcX10_partingTrees_6 11 rfl) (dk_g tcX10_partingTrees_7 0 rfl) rfl
theorem dX10_partingTrees_85 : decode cX10_partingTrees 85 = .ok (.ifCond .eq 8, 3) := dk_2153 (dk_g tcX10_partingTrees_7 1 rfl) (dk_g tcX10_partingTrees_7 2 rfl) (dk_g tcX10_partingTrees_7 3 rfl) rfl rfl
theorem dX10_partingTrees_88 : decode cX10_partingTrees 88 = .ok (.iload 7, 2) := dk_1021 (dk_g tcX10_partingTrees_7 4 rfl) (dk_g tcX10_partingTrees_7 5 rfl) rfl
theorem dX10_partingTrees_90 : decode cX10_partingTrees 90 = .ok (.goto 5, 3) := dk_2167 (dk_g tcX10_partingTrees_7 6 rfl) (dk_g tcX10_partingTrees_7 7 rfl) (dk_g tcX10_partingTrees_7 8 rfl) rfl rfl
theorem dX10_partingTrees_93 : decode cX10_partingTrees 93 = .ok (.iload 5, 2) := dk_1021 (dk_g tcX10_partingTrees_7 9 rfl) (dk_g tcX10_partingTrees_7 10 rfl) rfl
theorem dX10_partingTrees_95 : decode cX10_partingTrees 95 = .ok (.ireturn, 1) := dk_1172 (dk_g tcX10_partingTrees_7 11 rfl)
theorem tcJ6_highestOneBit_0f7a4_0 : (cJ6_highestOneBit_0f7a4.data.toList.drop 0).take 12 = [26, 18, 127, 26, 184, 0, 51, 124, 126, 172] := by decide +kernel
theorem dJ6_highestOneBit_0f7a4_0 : decode cJ6_highestOneBit_0f7a4 0 = .ok (.iload_n 0, 1) := dk_1026 (dk_g tcJ6_highestOneBit_0f7a4_0 0 rfl)
theorem dJ6_highestOneBit_0f7a4_1 : decode cJ6_highestOneBit_0f7a4 1 = .ok (.ldc 127, 2) := dk_1018 (dk_g tcJ6_highestOneBit_0f7a4_0 1 rfl) (dk_g tcJ6_highestOneBit_0f7a4_0 2 rfl) rfl
theorem dJ6_highestOneBit_0f7a4_3 : decode cJ6_highestOneBit_0f7a4 3 = .ok (.iload_n 0, 1) := dk_1026 (dk_g tcJ6_highestOneBit_0f7a4_0 3 rfl)
theorem dJ6_highestOneBit_0f7a4_4 : decode cJ6_highestOneBit_0f7a4 4 = .ok (.invokestatic 51, 3) := dk_1184 (dk_g tcJ6_highestOneBit_0f7a4_0 4 rfl) (dk_g tcJ6_highestOneBit_0f7a4_0 5 rfl) (dk_g tcJ6_highestOneBit_0f7a4_0 6 rfl) rfl
theorem dJ6_highestOneBit_0f7a4_7 : decode cJ6_highestOneBit_0f7a4 7 = .ok (.iushr, 1) := dk_1124 (dk_g tcJ6_highestOneBit_0f7a4_0 7 rfl)
theorem dJ6_highestOneBit_0f7a4_8 : decode cJ6_highestOneBit_0f7a4 8 = .ok (.iand, 1) := dk_1126 (dk_g tcJ6_highestOneBit_0f7a4_0 8 rfl)
theorem dJ6_highestOneBit_0f7a4_9 : decode cJ6_highestOneBit_0f7a4 9 = .ok (.ireturn, 1) := dk_1172 (dk_g tcJ6_highestOneBit_0f7a4_0 9 rfl)
theorem tcJ6_numberOfLeadingZeros_0f7a4_0 : (cJ6_numberOfLeadingZeros_0f7a4.data.toList.drop 0).take 12 = [26, 157, 0, 14, 26, 154, 0, 8, 16, 32, 167, 0] := by decide +kernel
theorem dJ6_numberOfLeadingZeros_0f7a4_0 : decode cJ6_numberOfLeadingZeros_0f7a4 0 = .ok (.iload_n 0, 1) := dk_1026 (dk_g tcJ6_numberOfLeadingZeros_0f7a4_0 0 rfl)
theorem dJ6_numberOfLeadingZeros_0f7a4_1 : decode cJ6_numberOfLeadingZeros_0f7a4 1 = .ok (.ifCond .gt 14, 3) := dk_2157 (dk_g tcJ6_numberOfLeadingZeros_0f7a4_0 1 rfl) (dk_g tcJ6_numberOfLeadingZeros_0f7a4_0 2 rfl) (dk_g tcJ6_numberOfLeadingZeros_0f7a4_0 3 rfl) rfl rfl
theorem dJ6_numberOfLeadingZeros_0f7a4_4 : decode cJ6_numberOfLeadingZeros_0f7a4 4 = .ok (.iload_n 0, 1) := dk_1026 (dk_g tcJ6_numberOfLeadingZeros_0f7a4_0 4 rfl)
theorem dJ6_numberOfLeadingZeros_0f7a4_5 : decode cJ6_numberOfLeadingZeros_0f7a4 5 = .ok (.ifCond .ne 8, 3) := dk_2154 (dk_g tcJ6_numberOfLeadingZeros_0f7a4_0 5 rfl) (dk_g tcJ6_numberOfLeadingZeros_0f7a4_0 6 rfl) (dk_g tcJ6_numberOfLeadingZeros_0f7a4_0 7 rfl) rfl rfl
theorem dJ6_numberOfLeadingZeros_0f7a4_8 : decode cJ6_numberOfLeadingZeros_0f7a4 8 = .ok (.bipush 32, 2) := dk_1016 (dk_g tcJ6_numberOfLeadingZeros_0f7a4_0 8 rfl) (dk_g tcJ6_numberOfLeadingZeros_0f7a4_0 9 rfl) (by decide +kernel)
theorem tcJ6_numberOfLeadingZeros_0f7a4_1 : (cJ6_numberOfLeadingZeros_0f7a4.data.toList.drop 12).take 12 = [4, 3, 172, 16, 31, 60, 26, 19, 1, 8, 161, 0] := by decide +kernel
theorem dJ6_numberOfLeadingZeros_0f7a4_10 : decode cJ6_numberOfLeadingZeros_0f7a4 10 = .ok (.goto 4, 3) := dk_2167 (dk_g tcJ6_numberOfLeadingZeros_0f7a4_0 10 rfl) (dk_g tcJ6_numberOfLeadingZeros_0f7a4_0 11 rfl) (dk_g tcJ6_numberOfLeadingZeros_0f7a4_1 0 rfl) rfl rfl
theorem dJ6_numberOfLeadingZeros_0f7a4_13 : decode cJ6_numberOfLeadingZeros_0f7a4 13 = .ok (.iconst 0, 1) := dk_1003 (dk_g tcJ6_numberOfLeadingZeros_0f7a4_1 1 rfl)
theorem dJ6_numberOfLeadingZeros_0f7a4_14 : decode cJ6_numberOfLeadingZeros_0f7a4 14 = .ok (.ireturn, 1) := dk_1172 (dk_g tcJ6_numberOfLeadingZeros_0f7a4_1 2 rfl)
theorem dJ6_numberOfLeadingZeros_0f7a4_15 : decode cJ6_numberOfLeadingZeros_0f7a4 15 = .ok (.bipush 31, 2) := dk_1016 (dk_g tcJ6_numberOfLeadingZeros_0f7a4_1 3 rfl) (dk_g tcJ6_numberOfLeadingZeros_0f7a4_1 4 rfl) (by decide +kernel)
theorem dJ6_numberOfLeadingZeros_0f7a4_17 : decode cJ6_numberOfLeadingZeros_0f7a4 17 = .ok (.istore_n 1, 1) := dk_1060 (dk_g tcJ6_numberOfLeadingZeros_0f7a4_1 5 rfl)
theorem dJ6_numberOfLeadingZeros_0f7a4_18 : decode cJ6_numberOfLeadingZeros_0f7a4 18 = .ok (.iload_n 0, 1) := dk_1026 (dk_g tcJ6_numberOfLeadingZeros_0f7a4_1 6 rfl)
theorem dJ6_numberOfLeadingZeros_0f7a4_19 : decode cJ6_numberOfLeadingZeros_0f7a4 19 = .ok (.ldc_w 264, 3) := dk_1019 (dk_g tcJ6_numberOfLeadingZeros_0f7a4_1 7 rfl) (dk_g tcJ6_numberOfLeadingZeros_0f7a4_1 8 rfl) (dk_g tcJ6_numberOfLeadingZeros_0f7a4_1 9 rfl) rfl
theorem tcJ6_numberOfLeadingZeros_0f7a4_2 : (cJ6_numberOfLeadingZeros_0f7a4.data.toList.drop 24).take 12 = [11, 132, 1, 240, 26, 16, 16, 124, 59, 26, 17, 1] := by decide +kernel
theorem dJ6_numberOfLeadingZeros_0f7a4_22 : decode cJ6_numberOfLeadingZeros_0f7a4 22 = .ok (.if_icmp .lt 11, 3) := dk_2161 (dk_g tcJ6_numberOfLeadingZeros_0f7a4_1 10 rfl) (dk_g tcJ6_numberOfLeadingZeros_0f7a4_1 11 rfl) (dk_g tcJ6_numberOfLeadingZeros_0f7a4_2 0 rfl) rfl rfl
theorem dJ6_numberOfLeadingZeros_0f7a4_25 : decode cJ6_numberOfLeadingZeros_0f7a4 25 = .ok (.iinc 1 (-16), 3) := dk_1132 (dk_g tcJ6_numberOfLeadingZeros_0f7a4_2 1 rfl) (dk_g tcJ6_numberOfLeadingZeros_0f7a4_2 2 rfl) (dk_g tcJ6_numberOfLeadingZeros_0f7a4_2 3 rfl) rfl (by decide +kernel)
theorem dJ6_numberOfLeadingZeros_0f7a4_28 : decode cJ6_numberOfLeadingZeros_0f7a4 28 = .ok (.iload_n 0, 1) := dk_1026 (dk_g tcJ6_numberOfLeadingZeros_0f7a4_2 4 rfl)
theorem dJ6_numberOfLeadingZeros_0f7a4_29 : decode cJ6_numberOfLeadingZeros_0f7a4 29 = .ok (.bipush 16, 2) := dk_1016 (dk_g tcJ6_numberOfLeadingZeros_0f7a4_2 5 rfl) (dk_g tcJ6_numberOfLeadingZeros_0f7a4_2 6 rfl) (by decide +kernel)
theorem dJ6_numberOfLeadingZeros_0f7a4_31 : decode cJ6_numberOfLeadingZeros_0f7a4 31 = .ok (.iushr, 1) := dk_1124 (dk_g tcJ6_numberOfLeadingZeros_0f7a4_2 7 rfl)
theorem dJ6_numberOfLeadingZeros_0f7a4_32 : decode cJ6_numberOfLeadingZeros_0f7a4 32 = .ok (.istore_n 0, 1) := dk_1059 (dk_g tcJ6_numberOfLeadingZeros_0f7a4_2 8 rfl)
theorem dJ6_numberOfLeadingZeros_0f7a4_33 : decode cJ6_numberOfLeadingZeros_0f7a4 33 = .ok (.iload_n 0, 1) := dk_1026 (dk_g tcJ6_numberOfLeadingZeros_0f7a4_2 9 rfl)
theorem tcJ6_numberOfLeadingZeros_0f7a4_3 : (cJ6_numberOfLeadingZeros_0f7a4.data.toList.drop 36).take 12 = [0, 161, 0, 11, 132, 1, 248, 26, 16, 8, 124, 59] := by decide +kernel
theorem dJ6_numberOfLeadingZeros_0f7a4_34 : decode cJ6_numberOfLeadingZeros_0f7a4 34 = .ok (.sipush 256, 3) := dk_2017 (dk_g tcJ6_numberOfLeadingZeros_0f7a4_2 10 rfl) (dk_g tcJ6_numberOfLeadingZeros_0f7a4_2 11 rfl) (dk_g tcJ6_numberOfLeadingZeros_0f7a4_3 0 rfl) rfl rfl
theorem dJ6_numberOfLeadingZeros_0f7a4_37 : decode cJ6_numberOfLeadingZeros_0f7a4 37 = .ok (.if_icmp .lt 11, 3) := dk_2161 (dk_g tcJ6_numberOfLeadingZeros_0f7a4_3 1 rfl) (dk_g tcJ6_numberOfLeadingZeros_0f7a4_3 2 rfl) (dk_g tcJ6_numberOfLeadingZeros_0f7a4_3 3 rfl) rfl rfl
theorem dJ6_numberOfLeadingZeros_0f7a4_40 : decode cJ6_numberOfLeadingZeros_0f7a4 40 = .ok (.iinc 1 (-8), 3) := dk_1132 (dk_g tcJ6_numberOfLeadingZeros_0f7a4_3 4 rfl) (dk_g tcJ6_numberOfLeadingZeros_0f7a4_3 5 rfl) (dk_g tcJ6_numberOfLeadingZeros_0f7a4_3 6 rfl) rfl (by decide +kernel)
theorem dJ6_numberOfLeadingZeros_0f7a4_43 : decode cJ6_numberOfLeadingZeros_0f7a4 43 = .ok (.iload_n 0, 1) := dk_1026 (dk_g tcJ6_numberOfLeadingZeros_0f7a4_3 7 rfl)
theorem dJ6_numberOfLeadingZeros_0f7a4_44 : decode cJ6_numberOfLeadingZeros_0f7a4 44 = .ok (.bipush 8, 2) := dk_1016 (dk_g tcJ6_numberOfLeadingZeros_0f7a4_3 8 rfl) (dk_g tcJ6_numberOfLeadingZeros_0f7a4_3 9 rfl) (by decide +kernel)
theorem dJ6_numberOfLeadingZeros_0f7a4_46 : decode cJ6_numberOfLeadingZeros_0f7a4 46 = .ok (.iushr, 1) := dk_1124 (dk_g tcJ6_numberOfLeadingZeros_0f7a4_3 10 rfl)
theorem dJ6_numberOfLeadingZeros_0f7a4_47 : decode cJ6_numberOfLeadingZeros_0f7a4 47 = .ok (.istore_n 0, 1) := dk_1059 (dk_g tcJ6_numberOfLeadingZeros_0f7a4_3 11 rfl)
theorem tcJ6_numberOfLeadingZeros_0f7a4_4 : (cJ6_numberOfLeadingZeros_0f7a4.data.toList.drop 48).take 12 = [26, 16, 16, 161, 0, 10, 132, 1, 252, 26, 7, 124] := by decide +kernel
theorem dJ6_numberOfLeadingZeros_0f7a4_48 : decode cJ6_numberOfLeadingZeros_0f7a4 48 = .ok (.iload_n 0, 1) := dk_1026 (dk_g tcJ6_numberOfLeadingZeros_0f7a4_4 0 rfl)
theorem dJ6_numberOfLeadingZeros_0f7a4_49 : decode cJ6_numberOfLeadingZeros_0f7a4 49 = .ok (.bipush 16, 2) := dk_1016 (dk_g tcJ6_numberOfLeadingZeros_0f7a4_4 1 rfl) (dk_g tcJ6_numberOfLeadingZeros_0f7a4_4 2 rfl) (by decide +kernel)
theorem dJ6_numberOfLeadingZeros_0f7a4_51 : decode cJ6_numberOfLeadingZeros_0f7a4 51 = .ok (.if_icmp .lt 10, 3) := dk_2161 (dk_g tcJ6_numberOfLeadingZeros_0f7a4_4 3 rfl) (dk_g tcJ6_numberOfLeadingZeros_0f7a4_4 4 rfl) (dk_g tcJ6_numberOfLeadingZeros_0f7a4_4 5 rfl) rfl rfl
theorem dJ6_numberOfLeadingZeros_0f7a4_54 : decode cJ6_numberOfLeadingZeros_0f7a4 54 = .ok (.iinc 1 (-4), 3) := dk_1132 (dk_g tcJ6_numberOfLeadingZeros_0f7a4_4 6 rfl) (dk_g tcJ6_numberOfLeadingZeros_0f7a4_4 7 rfl) (dk_g tcJ6_numberOfLeadingZeros_0f7a4_4 8 rfl) rfl (by decide +kernel)
theorem dJ6_numberOfLeadingZeros_0f7a4_57 : decode cJ6_numberOfLeadingZeros_0f7a4 57 = .ok (.iload_n 0, 1) := dk_1026 (dk_g tcJ6_numberOfLeadingZeros_0f7a4_4 9 rfl)
theorem dJ6_numberOfLeadingZeros_0f7a4_58 : decode cJ6_numberOfLeadingZeros_0f7a4 58 = .ok (.iconst 4, 1) := dk_1007 (dk_g tcJ6_numberOfLeadingZeros_0f7a4_4 10 rfl)
theorem dJ6_numberOfLeadingZeros_0f7a4_59 : decode cJ6_numberOfLeadingZeros_0f7a4 59 = .ok (.iushr, 1) := dk_1124 (dk_g tcJ6_numberOfLeadingZeros_0f7a4_4 11 rfl)
theorem tcJ6_numberOfLeadingZeros_0f7a4_5 : (cJ6_numberOfLeadingZeros_0f7a4.data.toList.drop 60).take 12 = [59, 26, 7, 161, 0, 10, 132, 1, 254, 26, 5, 124] := by decide +kernel
theorem dJ6_numberOfLeadingZeros_0f7a4_60 : decode cJ6_numberOfLeadingZeros_0f7a4 60 = .ok (.istore_n 0, 1) := dk_1059 (dk_g tcJ6_numberOfLeadingZeros_0f7a4_5 0 rfl)
theorem dJ6_numberOfLeadingZeros_0f7a4_61 : decode cJ6_numberOfLeadingZeros_0f7a4 61 = .ok (.iload_n 0, 1) := dk_1026 (dk_g tcJ6_numberOfLeadingZeros_0f7a4_5 1 rfl)
theorem dJ6_numberOfLeadingZeros_0f7a4_62 : decode cJ6_numberOfLeadingZeros_0f7a4 62 = .ok (.iconst 4, 1) := dk_1007 (dk_g tcJ6_numberOfLeadingZeros_0f7a4_5 2 rfl)
theorem dJ6_numberOfLeadingZeros_0f7a4_63 : decode cJ6_numberOfLeadingZeros_0f7a4 63 = .ok (.if_icmp .lt 10, 3) := dk_2161 (dk_g tcJ6_numberOfLeadingZeros_0f7a4_5 3 rfl) (dk_g tcJ6_numberOfLeadingZeros_0f7a4_5 4 rfl) (dk_g tcJ6_numberOfLeadingZeros_0f7a4_5 5 rfl) rfl rfl
theorem dJ6_numberOfLeadingZeros_0f7a4_66 : decode cJ6_numberOfLeadingZeros_0f7a4 66 = .ok (.iinc 1 (-2), 3) := dk_1132 (dk_g tcJ6_numberOfLeadingZeros_0f7a4_5 6 rfl) (dk_g tcJ6_numberOfLeadingZeros_0f7a4_5 7 rfl) (dk_g tcJ6_numberOfLeadingZeros_0f7a4_5 8 rfl) rfl (by decide +kernel)
theorem dJ6_numberOfLeadingZeros_0f7a4_69 : decode cJ6_numberOfLeadingZeros_0f7a4 69 = .ok (.iload_n 0, 1) := dk_1026 (dk_g tcJ6_numberOfLeadingZeros_0f7a4_5 9 rfl)
theorem dJ6_numberOfLeadingZeros_0f7a4_70 : decode cJ6_numberOfLeadingZeros_0f7a4 70 = .ok (.iconst 2, 1) := dk_1005 (dk_g tcJ6_numberOfLeadingZeros_0f7a4_5 10 rfl)
theorem dJ6_numberOfLeadingZeros_0f7a4_71 : decode cJ6_numberOfLeadingZeros_0f7a4 71 = .ok (.iushr, 1) := dk_1124 (dk_g tcJ6_numberOfLeadingZeros_0f7a4_5 11 rfl)
theorem tcJ6_numberOfLeadingZeros_0f7a4_6 : (cJ6_numberOfLeadingZeros_0f7a4.data.toList.drop 72).take 12 = [59, 27, 26, 4, 124, 100, 172] := by decide +kernel
theorem dJ6_numberOfLeadingZeros_0f7a4_72 : decode cJ6_numberOfLeadingZeros_0f7a4 72 = .ok (.istore_n 0, 1) := dk_1059 (dk_g tcJ6_numberOfLeadingZeros_0f7a4_6 0 rfl)
theorem dJ6_numberOfLeadingZeros_0f7a4_73 : decode cJ6_numberOfLeadingZeros_0f7a4 73 = .ok (.iload_n 1, 1) := dk_1027 (dk_g tcJ6_numberOfLeadingZeros_0f7a4_6 1 rfl)
theorem dJ6_numberOfLeadingZeros_0f7a4_74 : decode cJ6_numberOfLeadingZeros_0f7a4 74 = .ok (.iload_n 0, 1) := dk_1026 (dk_g tcJ6_numberOfLeadingZeros_0f7a4_6 2 rfl)
theorem dJ6_numberOfLeadingZeros_0f7a4_75 : decode cJ6_numberOfLeadingZeros_0f7a4 75 = .ok (.iconst 1, 1) := dk_1004 (dk_g tcJ6_numberOfLeadingZeros_0f7a4_6 3 rfl)
theorem dJ6_numberOfLeadingZeros_0f7a4_76 : decode cJ6_numberOfLeadingZeros_0f7a4 76 = .ok (.iushr, 1) := dk_1124 (dk_g tcJ6_numberOfLeadingZeros_0f7a4_6 4 rfl)
theorem dJ6_numberOfLeadingZeros_0f7a4_77 : decode cJ6_numberOfLeadingZeros_0f7a4 77 = .ok (.isub, 1) := dk_1100 (dk_g tcJ6_numberOfLeadingZeros_0f7a4_6 5 rfl)
theorem dJ6_numberOfLeadingZeros_0f7a4_78 : decode cJ6_numberOfLeadingZeros_0f7a4 78 = .ok (.ireturn, 1) := dk_1172 (dk_g tcJ6_numberOfLeadingZeros_0f7a4_6 6 rfl)
theorem tcJ6_bitCount_0f7a4_0 : (cJ6_bitCount_0f7a4.data.toList.drop 0).take 12 = [26, 26, 4, 124, 19, 1, 9, 126, 100, 59, 26, 19] := by decide +kernel
theorem dJ6_bitCount_0f7a4_0 : decode cJ6_bitCount_0f7a4 0 = .ok (.iload_n 0, 1) := dk_1026 (dk_g tcJ6_bitCount_0f7a4_0 0 rfl)
theorem dJ6_bitCount_0f7a4_1 : decode cJ6_bitCount_0f7a4 1 = .ok (.iload_n 0, 1) := dk_1026 (dk_g tcJ6_bitCount_0f7a4_0 1 rfl)
theorem dJ6_bitCount_0f7a4_2 : decode cJ6_bitCount_0f7a4 2 = .ok (.iconst 1, 1) := dk_1004 (dk_g tcJ6_bitCount_0f7a4_0 2 rfl)
theorem dJ6_bitCount_0f7a4_3 : decode cJ6_bitCount_0f7a4 3 = .ok (.iushr, 1) := dk_1124 (dk_g tcJ6_bitCount_0f7a4_0 3 rfl)
theorem dJ6_bitCount_0f7a4_4 : decode cJ6_bitCount_0f7a4 4 = .ok (.ldc_w 265, 3) := dk_1019 (dk_g tcJ6_bitCount_0f7a4_0 4 rfl) (dk_g tcJ6_bitCount_0f7a4_0 5 rfl) (dk_g tcJ6_bitCount_0f7a4_0 6 rfl) rfl
theorem dJ6_bitCount_0f7a4_7 : decode cJ6_bitCount_0f7a4 7 = .ok (.iand, 1) := dk_1126 (dk_g tcJ6_bitCount_0f7a4_0 7 rfl)
theorem dJ6_bitCount_0f7a4_8 : decode cJ6_bitCount_0f7a4 8 = .ok (.isub, 1) := dk_1100 (dk_g tcJ6_bitCount_0f7a4_0 8 rfl)
theorem dJ6_bitCount_0f7a4_9 : decode cJ6_bitCount_0f7a4 9 = .ok (.istore_n 0, 1) := dk_1059 (dk_g tcJ6_bitCount_0f7a4_0 9 rfl)
theorem dJ6_bitCount_0f7a4_10 : decode cJ6_bitCount_0f7a4 10 = .ok (.iload_n 0, 1) := dk_1026 (dk_g tcJ6_bitCount_0f7a4_0 10 rfl)
theorem tcJ6_bitCount_0f7a4_1 : (cJ6_bitCount_0f7a4.data.toList.drop 12).take 12 = [1, 10, 126, 26, 5, 124, 19, 1, 10, 126, 96, 59] := by decide +kernel
theorem dJ6_bitCount_0f7a4_11 : decode cJ6_bitCount_0f7a4 11 = .ok (.ldc_w 266, 3) := dk_1019 (dk_g tcJ6_bitCount_0f7a4_0 11 rfl) (dk_g tcJ6_bitCount_0f7a4_1 0 rfl) (dk_g tcJ6_bitCount_0f7a4_1 1 rfl) rfl
theorem dJ6_bitCount_0f7a4_14 : decode cJ6_bitCount_0f7a4 14 = .ok (.iand, 1) := dk_1126 (dk_g tcJ6_bitCount_0f7a4_1 2 rfl)
theorem dJ6_bitCount_0f7a4_15 : decode cJ6_bitCount_0f7a4 15 = .ok (.iload_n 0, 1) := dk_1026 (dk_g tcJ6_bitCount_0f7a4_1 3 rfl)
theorem dJ6_bitCount_0f7a4_16 : decode cJ6_bitCount_0f7a4 16 = .ok (.iconst 2, 1) := dk_1005 (dk_g tcJ6_bitCount_0f7a4_1 4 rfl)
theorem dJ6_bitCount_0f7a4_17 : decode cJ6_bitCount_0f7a4 17 = .ok (.iushr, 1) := dk_1124 (dk_g tcJ6_bitCount_0f7a4_1 5 rfl)
theorem dJ6_bitCount_0f7a4_18 : decode cJ6_bitCount_0f7a4 18 = .ok (.ldc_w 266, 3) := dk_1019 (dk_g tcJ6_bitCount_0f7a4_1 6 rfl) (dk_g tcJ6_bitCount_0f7a4_1 7 rfl) (dk_g tcJ6_bitCount_0f7a4_1 8 rfl) rfl
theorem dJ6_bitCount_0f7a4_21 : decode cJ6_bitCount_0f7a4 21 = .ok (.iand, 1) := dk_1126 (dk_g tcJ6_bitCount_0f7a4_1 9 rfl)
theorem dJ6_bitCount_0f7a4_22 : decode cJ6_bitCount_0f7a4 22 = .ok (.iadd, 1) := dk_1096 (dk_g tcJ6_bitCount_0f7a4_1 10 rfl)
theorem dJ6_bitCount_0f7a4_23 : decode cJ6_bitCount_0f7a4 23 = .ok (.istore_n 0, 1) := dk_1059 (dk_g tcJ6_bitCount_0f7a4_1 11 rfl)
theorem tcJ6_bitCount_0f7a4_2 : (cJ6_bitCount_0f7a4.data.toList.drop 24).take 12 = [26, 26, 7, 124, 96, 19, 1, 11, 126, 59, 26, 26] := by decide +kernel
theorem dJ6_bitCount_0f7a4_24 : decode cJ6_bitCount_0f7a4 24 = .ok (.iload_n 0, 1) := dk_1026 (dk_g tcJ6_bitCount_0f7a4_2 0 rfl)
theorem dJ6_bitCount_0f7a4_25 : decode cJ6_bitCount_0f7a4 25 = .ok (.iload_n 0, 1) := dk_1026 (dk_g tcJ6_bitCount_0f7a4_2 1 rfl)
theorem dJ6_bitCount_0f7a4_26 : decode cJ6_bitCount_0f7a4 26 = .ok (.iconst 4, 1) := dk_1007 (dk_g tcJ6_bitCount_0f7a4_2 2 rfl)
theorem dJ6_bitCount_0f7a4_27 : decode cJ6_bitCount_0f7a4 27 = .ok (.iushr, 1) := dk_1124 (dk_g tcJ6_bitCount_0f7a4_2 3 rfl)
theorem dJ6_bitCount_0f7a4_28 : decode cJ6_bitCount_0f7a4 28 = .ok (.iadd, 1) := dk_1096 (dk_g tcJ6_bitCount_0f7a4_2 4 rfl)
theorem dJ6_bitCount_0f7a4_29 : decode cJ6_bitCount_0f7a4 29 = .ok (.ldc_w 267, 3) := dk_1019 (dk_g tcJ6_bitCount_0f7a4_2 5 rfl) (dk_g tcJ6_bitCount_0f7a4_2 6 rfl) (dk_g tcJ6_bitCount_0f7a4_2 7 rfl) rfl
theorem dJ6_bitCount_0f7a4_32 : decode cJ6_bitCount_0f7a4 32 = .ok (.iand, 1) := dk_1126 (dk_g tcJ6_bitCount_0f7a4_2 8 rfl)
theorem dJ6_bitCount_0f7a4_33 : decode cJ6_bitCount_0f7a4 33 = .ok (.istore_n 0, 1) := dk_1059 (dk_g tcJ6_bitCount_0f7a4_2 9 rfl)
theorem dJ6_bitCount_0f7a4_34 : decode cJ6_bitCount_0f7a4 34 = .ok (.iload_n 0, 1) := dk_1026 (dk_g tcJ6_bitCount_0f7a4_2 10 rfl)
theorem dJ6_bitCount_0f7a4_35 : decode cJ6_bitCount_0f7a4 35 = .ok (.iload_n 0, 1) := dk_1026 (dk_g tcJ6_bitCount_0f7a4_2 11 rfl)
theorem tcJ6_bitCount_0f7a4_3 : (cJ6_bitCount_0f7a4.data.toList.drop 36).take 12 = [16, 8, 124, 96, 59, 26, 26, 16, 16, 124, 96, 59] := by decide +kernel
theorem dJ6_bitCount_0f7a4_36 : decode cJ6_bitCount_0f7a4 36 = .ok (.bipush 8, 2) := dk_1016 (dk_g tcJ6_bitCount_0f7a4_3 0 rfl) (dk_g tcJ6_bitCount_0f7a4_3 1 rfl) (by decide +kernel)
theorem dJ6_bitCount_0f7a4_38 : decode cJ6_bitCount_0f7a4 38 = .ok (.iushr, 1) := dk_1124 (dk_g tcJ6_bitCount_0f7a4_3 2 rfl)
theorem dJ6_bitCount_0f7a4_39 : decode cJ6_bitCount_0f7a4 39 = .ok (.iadd, 1) := dk_1096 (dk_g tcJ6_bitCount_0f7a4_3 3 rfl)
theorem dJ6_bitCount_0f7a4_40 : decode cJ6_bitCount_0f7a4 40 = .ok (.istore_n 0, 1) := dk_1059 (dk_g tcJ6_bitCount_0f7a4_3 4 rfl)
theorem dJ6_bitCount_0f7a4_41 : decode cJ6_bitCount_0f7a4 41 = .ok (.iload_n 0, 1) := dk_1026 (dk_g tcJ6_bitCount_0f7a4_3 5 rfl)
theorem dJ6_bitCount_0f7a4_42 : decode cJ6_bitCount_0f7a4 42 = .ok (.iload_n 0, 1) := dk_1026 (dk_g tcJ6_bitCount_0f7a4_3 6 rfl)
theorem dJ6_bitCount_0f7a4_43 : decode cJ6_bitCount_0f7a4 43 = .ok (.bipush 16, 2) := dk_1016 (dk_g tcJ6_bitCount_0f7a4_3 7 rfl) (dk_g tcJ6_bitCount_0f7a4_3 8 rfl) (by decide +kernel)
theorem dJ6_bitCount_0f7a4_45 : decode cJ6_bitCount_0f7a4 45 = .ok (.iushr, 1) := dk_1124 (dk_g tcJ6_bitCount_0f7a4_3 9 rfl)
theorem dJ6_bitCount_0f7a4_46 : decode cJ6_bitCount_0f7a4 46 = .ok (.iadd, 1) := dk_1096 (dk_g tcJ6_bitCount_0f7a4_3 10 rfl)
theorem dJ6_bitCount_0f7a4_47 : decode cJ6_bitCount_0f7a4 47 = .ok (.istore_n 0, 1) := dk_1059 (dk_g tcJ6_bitCount_0f7a4_3 11 rfl)
theorem tcJ6_bitCount_0f7a4_4 : (cJ6_bitCount_0f7a4.data.toList.drop 48).take 12 = [26, 16, 63, 126, 172] := by decide +kernel
theorem dJ6_bitCount_0f7a4_48 : decode cJ6_bitCount_0f7a4 48 = .ok (.iload_n 0, 1) := dk_1026 (dk_g tcJ6_bitCount_0f7a4_4 0 rfl)
theorem dJ6_bitCount_0f7a4_49 : decode cJ6_bitCount_0f7a4 49 = .ok (.bipush 63, 2) := dk_1016 (dk_g tcJ6_bitCount_0f7a4_4 1 rfl) (dk_g tcJ6_bitCount_0f7a4_4 2 rfl) (by decide +kernel)
theorem dJ6_bitCount_0f7a4_51 : decode cJ6_bitCount_0f7a4 51 = .ok (.iand, 1) := dk_1126 (dk_g tcJ6_bitCount_0f7a4_4 3 rfl)
theorem dJ6_bitCount_0f7a4_52 : decode cJ6_bitCount_0f7a4 52 = .ok (.ireturn, 1) := dk_1172 (dk_g tcJ6_bitCount_0f7a4_4 4 rfl)
theorem tcJ9_floorMod_f86c9_0 : (cJ9_floorMod_f86c9.data.toList.drop 0).take 12 = [30, 32, 113, 55, 4, 30, 32, 131, 9, 148, 156, 0] := by decide +kernel
theorem dJ9_floorMod_f86c9_0 : decode cJ9_floorMod_f86c9 0 = .ok (.lload_n 0, 1) := dk_1030 (dk_g tcJ9_floorMod_f86c9_0 0 rfl)
theorem dJ9_floorMod_f86c9_1 : decode cJ9_floorMod_f86c9 1 = .ok (.lload_n 2, 1) := dk_1032 (dk_g tcJ9_floorMod_f86c9_0 1 rfl)
theorem dJ9_floorMod_f86c9_2 : decode cJ9_floorMod_f86c9 2 = .ok (.lrem, 1) := dk_1113 (dk_g tcJ9_floorMod_f86c9_0 2 rfl)
theorem dJ9_floorMod_f86c9_3 : decode cJ9_floorMod_f86c9 3 = .ok (.lstore 4, 2) := dk_1055 (dk_g tcJ9_floorMod_f86c9_0 3 rfl) (dk_g tcJ9_floorMod_f86c9_0 4 rfl) rfl
theorem dJ9_floorMod_f86c9_5 : decode cJ9_floorMod_f86c9 5 = .ok (.lload_n 0, 1) := dk_1030 (dk_g tcJ9_floorMod_f86c9_0 5 rfl)
theorem dJ9_floorMod_f86c9_6 : decode cJ9_floorMod_f86c9 6 = .ok (.lload_n 2, 1) := dk_1032 (dk_g tcJ9_floorMod_f86c9_0 6 rfl)
theorem dJ9_floorMod_f86c9_7 : decode cJ9_floorMod_f86c9 7 = .ok (.lxor, 1) := dk_1131 (dk_g tcJ9_floorMod_f86c9_0 7 rfl)
theorem dJ9_floorMod_f86c9_8 : decode cJ9_floorMod_f86c9 8 = .ok (.lconst 0, 1) := dk_1009 (dk_g tcJ9_floorMod_f86c9_0 8 rfl)
theorem dJ9_floorMod_f86c9_9 : decode cJ9_floorMod_f86c9 9 = .ok (.lcmp, 1) := dk_1148 (dk_g tcJ9_floorMod_f86c9_0 9 rfl)
theorem tcJ9_floorMod_f86c9_1 : (cJ9_floorMod_f86c9.data.toList.drop 12).take 12 = [15, 22, 4, 9, 148, 153, 0, 8, 22, 4, 32, 97] := by decide +kernel
theorem dJ9_floorMod_f86c9_10 : decode cJ9_floorMod_f86c9 10 = .ok (.ifCond .ge 15, 3) := dk_2156 (dk_g tcJ9_floorMod_f86c9_0 10 rfl) (dk_g tcJ9_floorMod_f86c9_0 11 rfl) (dk_g tcJ9_floorMod_f86c9_1 0 rfl) rfl rfl
theorem dJ9_floorMod_f86c9_13 : decode cJ9_floorMod_f86c9 13 = .ok (.lload 4, 2) := dk_1022 (dk_g tcJ9_floorMod_f86c9_1 1 rfl) (dk_g tcJ9_floorMod_f86c9_1 2 rfl) rfl
theorem dJ9_floorMod_f86c9_15 : decode cJ9_floorMod_f86c9 15 = .ok (.lconst 0, 1) := dk_1009 (dk_g tcJ9_floorMod_f86c9_1 3 rfl)
theorem dJ9_floorMod_f86c9_16 : decode cJ9_floorMod_f86c9 16 = .ok (.lcmp, 1) := dk_1148 (dk_g tcJ9_floorMod_f86c9_1 4 rfl)
theorem dJ9_floorMod_f86c9_17 : decode cJ9_floorMod_f86c9 17 = .ok (.ifCond .eq 8, 3) := dk_2153 (dk_g tcJ9_floorMod_f86c9_1 5 rfl) (dk_g tcJ9_floorMod_f86c9_1 6 rfl) (dk_g tcJ9_floorMod_f86c9_1 7 rfl) rfl rfl
theorem dJ9_floorMod_f86c9_20 : decode cJ9_floorMod_f86c9 20 = .ok (.lload 4, 2) := dk_1022 (dk_g tcJ9_floorMod_f86c9_1 8 rfl) (dk_g tcJ9_floorMod_f86c9_1 9 rfl) rfl
theorem dJ9_floorMod_f86c9_22 : decode cJ9_floorMod_f86c9 22 = .ok (.lload_n 2, 1) := dk_1032 (dk_g tcJ9_floorMod_f86c9_1 10 rfl)
theorem dJ9_floorMod_f86c9_23 : decode cJ9_floorMod_f86c9 23 = .ok (.ladd, 1) := dk_1097 (dk_g tcJ9_floorMod_f86c9_1 11 rfl)
theorem tcJ9_floorMod_f86c9_2 : (cJ9_floorMod_f86c9.data.toList.drop 24).take 12 = [173, 22, 4, 173] := by decide +kernel
theorem dJ9_floorMod_f86c9_24 : decode cJ9_floorMod_f86c9 24 = .ok (.lreturn, 1) := dk_1173 (dk_g tcJ9_floorMod_f86c9_2 0 rfl)
theorem dJ9_floorMod_f86c9_25 : decode cJ9_floorMod_f86c9 25 = .ok (.lload 4, 2) := dk_1022 (dk_g tcJ9_floorMod_f86c9_2 1 rfl) (dk_g tcJ9_floorMod_f86c9_2 2 rfl) rfl
theorem dJ9_floorMod_f86c9_27 : decode cJ9_floorMod_f86c9 27 = .ok (.lreturn, 1) := dk_1173 (dk_g tcJ9_floorMod_f86c9_2 3 rfl)
theorem tcJ9_max_7cf53_0 : (cJ9_max_7cf53.data.toList.drop 0).take 12 = [26, 27, 161, 0, 7, 26, 167, 0, 4, 27, 172] := by decide +kernel
theorem dJ9_max_7cf53_0 : decode cJ9_max_7cf53 0 = .ok (.iload_n 0, 1) := dk_1026 (dk_g tcJ9_max_7cf53_0 0 rfl)
theorem dJ9_max_7cf53_1 : decode cJ9_max_7cf53 1 = .ok (.iload_n 1, 1) := dk_1027 (dk_g tcJ9_max_7cf53_0 1 rfl)
theorem dJ9_max_7cf53_2 : decode cJ9_max_7cf53 2 = .ok (.if_icmp .lt 7, 3) := dk_2161 (dk_g tcJ9_max_7cf53_0 2 rfl) (dk_g tcJ9_max_7cf53_0 3 rfl) (dk_g tcJ9_max_7cf53_0 4 rfl) rfl rfl
theorem dJ9_max_7cf53_5 : decode cJ9_max_7cf53 5 = .ok (.iload_n 0, 1) := dk_1026 (dk_g tcJ9_max_7cf53_0 5 rfl)
theorem dJ9_max_7cf53_6 : decode cJ9_max_7cf53 6 = .ok (.goto 4, 3) := dk_2167 (dk_g tcJ9_max_7cf53_0 6 rfl) (dk_g tcJ9_max_7cf53_0 7 rfl) (dk_g tcJ9_max_7cf53_0 8 rfl) rfl rfl
theorem dJ9_max_7cf53_9 : decode cJ9_max_7cf53 9 = .ok (.iload_n 1, 1) := dk_1027 (dk_g tcJ9_max_7cf53_0 9 rfl)
theorem dJ9_max_7cf53_10 : decode cJ9_max_7cf53 10 = .ok (.ireturn, 1) := dk_1172 (dk_g tcJ9_max_7cf53_0 10 rfl)
theorem tcJ9_min_7cf53_0 : (cJ9_min_7cf53.data.toList.drop 0).take 12 = [26, 27, 163, 0, 7, 26, 167, 0, 4, 27, 172] := by decide +kernel
theorem dJ9_min_7cf53_0 : decode cJ9_min_7cf53 0 = .ok (.iload_n 0, 1) := dk_1026 (dk_g tcJ9_min_7cf53_0 0 rfl)
theorem dJ9_min_7cf53_1 : decode cJ9_min_7cf53 1 = .ok (.iload_n 1, 1) := dk_1027 (dk_g tcJ9_min_7cf53_0 1 rfl)
theorem dJ9_min_7cf53_2 : decode cJ9_min_7cf53 2 = .ok (.if_icmp .gt 7, 3) := dk_2163 (dk_g tcJ9_min_7cf53_0 2 rfl) (dk_g tcJ9_min_7cf53_0 3 rfl) (dk_g tcJ9_min_7cf53_0 4 rfl) rfl rfl
theorem dJ9_min_7cf53_5 : decode cJ9_min_7cf53 5 = .ok (.iload_n 0, 1) := dk_1026 (dk_g tcJ9_min_7cf53_0 5 rfl)
theorem dJ9_min_7cf53_6 : decode cJ9_min_7cf53 6 = .ok (.goto 4, 3) := dk_2167 (dk_g tcJ9_min_7cf53_0 6 rfl) (dk_g tcJ9_min_7cf53_0 7 rfl) (dk_g tcJ9_min_7cf53_0 8 rfl) rfl rfl
theorem dJ9_min_7cf53_9 : decode cJ9_min_7cf53 9 = .ok (.iload_n 1, 1) := dk_1027 (dk_g tcJ9_min_7cf53_0 9 rfl)
theorem dJ9_min_7cf53_10 : decode cJ9_min_7cf53 10 = .ok (.ireturn, 1) := dk_1172 (dk_g tcJ9_min_7cf53_0 10 rfl)
theorem tcJ0_length_8abf5_0 : (cJ0_length_8abf5.data.toList.drop 0).take 12 = [42, 180, 0, 9, 190, 42, 182, 1, 79, 122, 172] := by decide +kernel
theorem dJ0_length_8abf5_0 : decode cJ0_length_8abf5 0 = .ok (.aload_n 0, 1) := dk_1042 (dk_g tcJ0_length_8abf5_0 0 rfl)
theorem dJ0_length_8abf5_1 : decode cJ0_length_8abf5 1 = .ok (.getfield 9, 3) := dk_1180 (dk_g tcJ0_length_8abf5_0 1 rfl) (dk_g tcJ0_length_8abf5_0 2 rfl) (dk_g tcJ0_length_8abf5_0 3 rfl) rfl
theorem dJ0_length_8abf5_4 : decode cJ0_length_8abf5 4 = .ok (.arraylength, 1) := dk_1190 (dk_g tcJ0_length_8abf5_0 4 rfl)
theorem dJ0_length_8abf5_5 : decode cJ0_length_8abf5 5 = .ok (.aload_n 0, 1) := dk_1042 (dk_g tcJ0_length_8abf5_0 5 rfl)
theorem dJ0_length_8abf5_6 : decode cJ0_length_8abf5 6 = .ok (.invokevirtual 335, 3) := dk_1182 (dk_g tcJ0_length_8abf5_0 6 rfl) (dk_g tcJ0_length_8abf5_0 7 rfl) (dk_g tcJ0_length_8abf5_0 8 rfl) rfl
theorem dJ0_length_8abf5_9 : decode cJ0_length_8abf5 9 = .ok (.ishr, 1) := dk_1122 (dk_g tcJ0_length_8abf5_0 9 rfl)
theorem dJ0_length_8abf5_10 : decode cJ0_length_8abf5 10 = .ok (.ireturn, 1) := dk_1172 (dk_g tcJ0_length_8abf5_0 10 rfl)
theorem tcJ0_charAt_5068e_0 : (cJ0_charAt_5068e.data.toList.drop 0).take 12 = [42, 182, 1, 236, 153, 0, 12, 42, 180, 0, 9, 27] := by decide +kernel
theorem dJ0_charAt_5068e_0 : decode cJ0_charAt_5068e 0 = .ok (.aload_n 0, 1) := dk_1042 (dk_g tcJ0_charAt_5068e_0 0 rfl)
theorem dJ0_charAt_5068e_1 : decode cJ0_charAt_5068e 1 = .ok (.invokevirtual 492, 3) := dk_1182 (dk_g tcJ0_charAt_5068e_0 1 rfl) (dk_g tcJ0_charAt_5068e_0 2 rfl) (dk_g tcJ0_charAt_5068e_0 3 rfl) rfl
theorem dJ0_charAt_5068e_4 : decode cJ0_charAt_5068e 4 = .ok (.ifCond .eq 12, 3) := dk_2153 (dk_g tcJ0_charAt_5068e_0 4 rfl) (dk_g tcJ0_charAt_5068e_0 5 rfl) (dk_g tcJ0_charAt_5068e_0 6 rfl) rfl rfl
theorem dJ0_charAt_5068e_7 : decode cJ0_charAt_5068e 7 = .ok (.aload_n 0, 1) := dk_1042 (dk_g tcJ0_charAt_5068e_0 7 rfl)
theorem dJ0_charAt_5068e_8 : decode cJ0_charAt_5068e 8 = .ok (.getfield 9, 3) := dk_1180 (dk_g tcJ0_charAt_5068e_0 8 rfl) (dk_g tcJ0_charAt_5068e_0 9 rfl) (dk_g tcJ0_charAt_5068e_0 10 rfl) rfl
theorem dJ0_charAt_5068e_11 : decode cJ0_charAt_5068e 11 = .ok (.iload_n 1, 1) := dk_1027 (dk_g tcJ0_charAt_5068e_0 11 rfl)
theorem tcJ0_charAt_5068e_1 : (cJ0_charAt_5068e.data.toList.drop 12).take 12 = [184, 1, 239, 172, 42, 180, 0, 9, 27, 184, 1, 242] := by decide +kernel
theorem dJ0_charAt_5068e_12 : decode cJ0_charAt_5068e 12 = .ok (.invokestatic 495, 3) := dk_1184 (dk_g tcJ0_charAt_5068e_1 0 rfl) (dk_g tcJ0_charAt_5068e_1 1 rfl) (dk_g tcJ0_charAt_5068e_1 2 rfl) rfl
theorem dJ0_charAt_5068e_15 : decode cJ0_charAt_5068e 15 = .ok (.ireturn, 1) := dk_1172 (dk_g tcJ0_charAt_5068e_1 3 rfl)
theorem tcJ0_coder_7d493_0 : (cJ0_coder_7d493.data.toList.drop 0).take 12 = [178, 0, 38, 153, 0, 10, 42, 180, 0, 15, 167, 0] := by decide +kernel
theorem dJ0_coder_7d493_0 : decode cJ0_coder_7d493 0 = .ok (.getstatic 38, 3) := dk_1178 (dk_g tcJ0_coder_7d493_0 0 rfl) (dk_g tcJ0_coder_7d493_0 1 rfl) (dk_g tcJ0_coder_7d493_0 2 rfl) rfl
theorem dJ0_coder_7d493_3 : decode cJ0_coder_7d493 3 = .ok (.ifCond .eq 10, 3) := dk_2153 (dk_g tcJ0_coder_7d493_0 3 rfl) (dk_g tcJ0_coder_7d493_0 4 rfl) (dk_g tcJ0_coder_7d493_0 5 rfl) rfl rfl
theorem dJ0_coder_7d493_6 : decode cJ0_coder_7d493 6 = .ok (.aload_n 0, 1) := dk_1042 (dk_g tcJ0_coder_7d493_0 6 rfl)
theorem dJ0_coder_7d493_7 : decode cJ0_coder_7d493 7 = .ok (.getfield 15, 3) := dk_1180 (dk_g tcJ0_coder_7d493_0 7 rfl) (dk_g tcJ0_coder_7d493_0 8 rfl) (dk_g tcJ0_coder_7d493_0 9 rfl) rfl
theorem tcJ0_coder_7d493_1 : (cJ0_coder_7d493.data.toList.drop 12).take 12 = [4, 4, 172] := by decide +kernel
theorem dJ0_coder_7d493_10 : decode cJ0_coder_7d493 10 = .ok (.goto 4, 3) := dk_2167 (dk_g tcJ0_coder_7d493_0 10 rfl) (dk_g tcJ0_coder_7d493_0 11 rfl) (dk_g tcJ0_coder_7d493_1 0 rfl) rfl rfl
theorem dJ0_coder_7d493_14 : decode cJ0_coder_7d493 14 = .ok (.ireturn, 1) := dk_1172 (dk_g tcJ0_coder_7d493_1 2 rfl)
theorem tcJ0_isLatin1_aae02_0 : (cJ0_isLatin1_aae02.data.toList.drop 0).take 12 = [178, 0, 38, 153, 0, 14, 42, 180, 0, 15, 154, 0] := by decide +kernel
theorem dJ0_isLatin1_aae02_0 : decode cJ0_isLatin1_aae02 0 = .ok (.getstatic 38, 3) := dk_1178 (dk_g tcJ0_isLatin1_aae02_0 0 rfl) (dk_g tcJ0_isLatin1_aae02_0 1 rfl) (dk_g tcJ0_isLatin1_aae02_0 2 rfl) rfl
theorem dJ0_isLatin1_aae02_3 : decode cJ0_isLatin1_aae02 3 = .ok (.ifCond .eq 14, 3) := dk_2153 (dk_g tcJ0_isLatin1_aae02_0 3 rfl) (dk_g tcJ0_isLatin1_aae02_0 4 rfl) (dk_g tcJ0_isLatin1_aae02_0 5 rfl) rfl rfl
theorem dJ0_isLatin1_aae02_6 : decode cJ0_isLatin1_aae02 6 = .ok (.aload_n 0, 1) := dk_1042 (dk_g tcJ0_isLatin1_aae02_0 6 rfl)
theorem dJ0_isLatin1_aae02_7 : decode cJ0_isLatin1_aae02 7 = .ok (.getfield 15, 3) := dk_1180 (dk_g tcJ0_isLatin1_aae02_0 7 rfl) (dk_g tcJ0_isLatin1_aae02_0 8 rfl) (dk_g tcJ0_isLatin1_aae02_0 9 rfl) rfl
theorem tcJ0_isLatin1_aae02_1 : (cJ0_isLatin1_aae02.data.toList.drop 12).take 12 = [7, 4, 167, 0, 4, 3, 172] := by decide +kernel
theorem dJ0_isLatin1_aae02_10 : decode cJ0_isLatin1_aae02 10 = .ok (.ifCond .ne 7, 3) := dk_2154 (dk_g tcJ0_isLatin1_aae02_0 10 rfl) (dk_g tcJ0_isLatin1_aae02_0 11 rfl) (dk_g tcJ0_isLatin1_aae02_1 0 rfl) rfl rfl
theorem dJ0_isLatin1_aae02_13 : decode cJ0_isLatin1_aae02 13 = .ok (.iconst 1, 1) := dk_1004 (dk_g tcJ0_isLatin1_aae02_1 1 rfl)
theorem dJ0_isLatin1_aae02_14 : decode cJ0_isLatin1_aae02 14 = .ok (.goto 4, 3) := dk_2167 (dk_g tcJ0_isLatin1_aae02_1 2 rfl) (dk_g tcJ0_isLatin1_aae02_1 3 rfl) (dk_g tcJ0_isLatin1_aae02_1 4 rfl) rfl rfl
theorem dJ0_isLatin1_aae02_18 : decode cJ0_isLatin1_aae02 18 = .ok (.ireturn, 1) := dk_1172 (dk_g tcJ0_isLatin1_aae02_1 6 rfl)
theorem tcJ0_checkIndex_df160_0 : (cJ0_checkIndex_df160.data.toList.drop 0).take 12 = [26, 27, 178, 4, 29, 184, 4, 35, 87, 177] := by decide +kernel
theorem dJ0_checkIndex_df160_0 : decode cJ0_checkIndex_df160 0 = .ok (.iload_n 0, 1) := dk_1026 (dk_g tcJ0_checkIndex_df160_0 0 rfl)
theorem dJ0_checkIndex_df160_1 : decode cJ0_checkIndex_df160 1 = .ok (.iload_n 1, 1) := dk_1027 (dk_g tcJ0_checkIndex_df160_0 1 rfl)
theorem dJ0_checkIndex_df160_2 : decode cJ0_checkIndex_df160 2 = .ok (.getstatic 1053, 3) := dk_1178 (dk_g tcJ0_checkIndex_df160_0 2 rfl) (dk_g tcJ0_checkIndex_df160_0 3 rfl) (dk_g tcJ0_checkIndex_df160_0 4 rfl) rfl
theorem dJ0_checkIndex_df160_5 : decode cJ0_checkIndex_df160 5 = .ok (.invokestatic 1059, 3) := dk_1184 (dk_g tcJ0_checkIndex_df160_0 5 rfl) (dk_g tcJ0_checkIndex_df160_0 6 rfl) (dk_g tcJ0_checkIndex_df160_0 7 rfl) rfl
theorem dJ0_checkIndex_df160_8 : decode cJ0_checkIndex_df160 8 = .ok (.pop, 1) := dk_1087 (dk_g tcJ0_checkIndex_df160_0 8 rfl)
theorem dJ0_checkIndex_df160_9 : decode cJ0_checkIndex_df160 9 = .ok (.return_, 1) := dk_1177 (dk_g tcJ0_checkIndex_df160_0 9 rfl)
theorem tcJ1_charAt_3b067_0 : (cJ1_charAt_3b067.data.toList.drop 0).take 12 = [27, 42, 190, 184, 0, 9, 42, 27, 51, 17, 0, 255] := by decide +kernel
theorem dJ1_charAt_3b067_0 : decode cJ1_charAt_3b067 0 = .ok (.iload_n 1, 1) := dk_1027 (dk_g tcJ1_charAt_3b067_0 0 rfl)
theorem dJ1_charAt_3b067_1 : decode cJ1_charAt_3b067 1 = .ok (.aload_n 0, 1) := dk_1042 (dk_g tcJ1_charAt_3b067_0 1 rfl)
theorem dJ1_charAt_3b067_2 : decode cJ1_charAt_3b067 2 = .ok (.arraylength, 1) := dk_1190 (dk_g tcJ1_charAt_3b067_0 2 rfl)
theorem dJ1_charAt_3b067_3 : decode cJ1_charAt_3b067 3 = .ok (.invokestatic 9, 3) := dk_1184 (dk_g tcJ1_charAt_3b067_0 3 rfl) (dk_g tcJ1_charAt_3b067_0 4 rfl) (dk_g tcJ1_charAt_3b067_0 5 rfl) rfl
theorem dJ1_charAt_3b067_6 : decode cJ1_charAt_3b067 6 = .ok (.aload_n 0, 1) := dk_1042 (dk_g tcJ1_charAt_3b067_0 6 rfl)
theorem dJ1_charAt_3b067_7 : decode cJ1_charAt_3b067 7 = .ok (.iload_n 1, 1) := dk_1027 (dk_g tcJ1_charAt_3b067_0 7 rfl)
theorem dJ1_charAt_3b067_8 : decode cJ1_charAt_3b067 8 = .ok (.baload, 1) := dk_1051 (dk_g tcJ1_charAt_3b067_0 8 rfl)
theorem dJ1_charAt_3b067_9 : decode cJ1_charAt_3b067 9 = .ok (.sipush 255, 3) := dk_2017 (dk_g tcJ1_charAt_3b067_0 9 rfl) (dk_g tcJ1_charAt_3b067_0 10 rfl) (dk_g tcJ1_charAt_3b067_0 11 rfl) rfl rfl
theorem tcJ1_charAt_3b067_1 : (cJ1_charAt_3b067.data.toList.drop 12).take 12 = [126, 146, 172] := by decide +kernel
theorem dJ1_charAt_3b067_12 : decode cJ1_charAt_3b067 12 = .ok (.iand, 1) := dk_1126 (dk_g tcJ1_charAt_3b067_1 0 rfl)
theorem dJ1_charAt_3b067_13 : decode cJ1_charAt_3b067 13 = .ok (.i2c, 1) := dk_1146 (dk_g tcJ1_charAt_3b067_1 1 rfl)
theorem dJ1_charAt_3b067_14 : decode cJ1_charAt_3b067 14 = .ok (.ireturn, 1) := dk_1172 (dk_g tcJ1_charAt_3b067_1 2 rfl)
theorem tcJ3_checkIndex_8e157_0 : (cJ3_checkIndex_8e157.data.toList.drop 0).take 12 = [26, 155, 0, 8, 26, 27, 161, 0, 10, 44, 26, 27] := by decide +kernel
theorem dJ3_checkIndex_8e157_0 : decode cJ3_checkIndex_8e157 0 = .ok (.iload_n 0, 1) := dk_1026 (dk_g tcJ3_checkIndex_8e157_0 0 rfl)
theorem dJ3_checkIndex_8e157_1 : decode cJ3_checkIndex_8e157 1 = .ok (.ifCond .lt 8, 3) := dk_2155 (dk_g tcJ3_checkIndex_8e157_0 1 rfl) (dk_g tcJ3_checkIndex_8e157_0 2 rfl) (dk_g tcJ3_checkIndex_8e157_0 3 rfl) rfl rfl
theorem dJ3_checkIndex_8e157_4 : decode cJ3_checkIndex_8e157 4 = .ok (.iload_n 0, 1) := dk_1026 (dk_g tcJ3_checkIndex_8e157_0 4 rfl)
theorem dJ3_checkIndex_8e157_5 : decode cJ3_checkIndex_8e157 5 = .ok (.iload_n 1, 1) := dk_1027 (dk_g tcJ3_checkIndex_8e157_0 5 rfl)
theorem dJ3_checkIndex_8e157_6 : decode cJ3_checkIndex_8e157 6 = .ok (.if_icmp .lt 10, 3) := dk_2161 (dk_g tcJ3_checkIndex_8e157_0 6 rfl) (dk_g tcJ3_checkIndex_8e157_0 7 rfl) (dk_g tcJ3_checkIndex_8e157_0 8 rfl) rfl rfl
theorem tcJ3_checkIndex_8e157_1 : (cJ3_checkIndex_8e157.data.toList.drop 12).take 12 = [184, 0, 95, 191, 26, 172] := by decide +kernel
theorem dJ3_checkIndex_8e157_16 : decode cJ3_checkIndex_8e157 16 = .ok (.iload_n 0, 1) := dk_1026 (dk_g tcJ3_checkIndex_8e157_1 4 rfl)
theorem dJ3_checkIndex_8e157_17 : decode cJ3_checkIndex_8e157 17 = .ok (.ireturn, 1) := dk_1172 (dk_g tcJ3_checkIndex_8e157_1 5 rfl)
