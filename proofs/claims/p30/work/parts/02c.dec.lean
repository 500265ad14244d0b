theorem tcX12_init_0 : (cX12_init.data.toList.drop 0).take 12 = [42, 183, 0, 1, 42, 17, 7, 188, 188, 10, 181, 0] := by decide +kernel
theorem dX12_init_0 : decode cX12_init 0 = .ok (.aload_n 0, 1) := dk_1042 (dk_g tcX12_init_0 0 rfl)
theorem dX12_init_1 : decode cX12_init 1 = .ok (.invokespecial 1, 3) := dk_1183 (dk_g tcX12_init_0 1 rfl) (dk_g tcX12_init_0 2 rfl) (dk_g tcX12_init_0 3 rfl) rfl
theorem dX12_init_4 : decode cX12_init 4 = .ok (.aload_n 0, 1) := dk_1042 (dk_g tcX12_init_0 4 rfl)
theorem dX12_init_5 : decode cX12_init 5 = .ok (.sipush 1980, 3) := dk_2017 (dk_g tcX12_init_0 5 rfl) (dk_g tcX12_init_0 6 rfl) (dk_g tcX12_init_0 7 rfl) rfl rfl
theorem dX12_init_8 : decode cX12_init 8 = .ok (.newarray .int, 2) := dk_1188_10 (dk_g tcX12_init_0 8 rfl) (dk_g tcX12_init_0 9 rfl)
theorem tcX12_init_1 : (cX12_init.data.toList.drop 12).take 12 = [7, 42, 17, 7, 188, 188, 10, 181, 0, 13, 42, 17] := by decide +kernel
theorem dX12_init_10 : decode cX12_init 10 = .ok (.putfield 7, 3) := dk_1181 (dk_g tcX12_init_0 10 rfl) (dk_g tcX12_init_0 11 rfl) (dk_g tcX12_init_1 0 rfl) rfl
theorem dX12_init_13 : decode cX12_init 13 = .ok (.aload_n 0, 1) := dk_1042 (dk_g tcX12_init_1 1 rfl)
theorem dX12_init_14 : decode cX12_init 14 = .ok (.sipush 1980, 3) := dk_2017 (dk_g tcX12_init_1 2 rfl) (dk_g tcX12_init_1 3 rfl) (dk_g tcX12_init_1 4 rfl) rfl rfl
theorem dX12_init_17 : decode cX12_init 17 = .ok (.newarray .int, 2) := dk_1188_10 (dk_g tcX12_init_1 5 rfl) (dk_g tcX12_init_1 6 rfl)
theorem dX12_init_19 : decode cX12_init 19 = .ok (.putfield 13, 3) := dk_1181 (dk_g tcX12_init_1 7 rfl) (dk_g tcX12_init_1 8 rfl) (dk_g tcX12_init_1 9 rfl) rfl
theorem dX12_init_22 : decode cX12_init 22 = .ok (.aload_n 0, 1) := dk_1042 (dk_g tcX12_init_1 10 rfl)
theorem tcX12_init_2 : (cX12_init.data.toList.drop 24).take 12 = [0, 128, 188, 10, 181, 0, 16, 42, 17, 0, 128, 188] := by decide +kernel
theorem dX12_init_23 : decode cX12_init 23 = .ok (.sipush 128, 3) := dk_2017 (dk_g tcX12_init_1 11 rfl) (dk_g tcX12_init_2 0 rfl) (dk_g tcX12_init_2 1 rfl) rfl rfl
theorem dX12_init_26 : decode cX12_init 26 = .ok (.newarray .int, 2) := dk_1188_10 (dk_g tcX12_init_2 2 rfl) (dk_g tcX12_init_2 3 rfl)
theorem dX12_init_28 : decode cX12_init 28 = .ok (.putfield 16, 3) := dk_1181 (dk_g tcX12_init_2 4 rfl) (dk_g tcX12_init_2 5 rfl) (dk_g tcX12_init_2 6 rfl) rfl
theorem dX12_init_31 : decode cX12_init 31 = .ok (.aload_n 0, 1) := dk_1042 (dk_g tcX12_init_2 7 rfl)
theorem dX12_init_32 : decode cX12_init 32 = .ok (.sipush 128, 3) := dk_2017 (dk_g tcX12_init_2 8 rfl) (dk_g tcX12_init_2 9 rfl) (dk_g tcX12_init_2 10 rfl) rfl rfl
theorem tcX12_init_3 : (cX12_init.data.toList.drop 36).take 12 = [10, 181, 0, 19, 42, 17, 0, 128, 188, 10, 181, 0] := by decide +kernel
theorem dX12_init_35 : decode cX12_init 35 = .ok (.newarray .int, 2) := dk_1188_10 (dk_g tcX12_init_2 11 rfl) (dk_g tcX12_init_3 0 rfl)
theorem dX12_init_37 : decode cX12_init 37 = .ok (.putfield 19, 3) := dk_1181 (dk_g tcX12_init_3 1 rfl) (dk_g tcX12_init_3 2 rfl) (dk_g tcX12_init_3 3 rfl) rfl
theorem dX12_init_40 : decode cX12_init 40 = .ok (.aload_n 0, 1) := dk_1042 (dk_g tcX12_init_3 4 rfl)
theorem dX12_init_41 : decode cX12_init 41 = .ok (.sipush 128, 3) := dk_2017 (dk_g tcX12_init_3 5 rfl) (dk_g tcX12_init_3 6 rfl) (dk_g tcX12_init_3 7 rfl) rfl rfl
theorem dX12_init_44 : decode cX12_init 44 = .ok (.newarray .int, 2) := dk_1188_10 (dk_g tcX12_init_3 8 rfl) (dk_g tcX12_init_3 9 rfl)
theorem tcX12_init_4 : (cX12_init.data.toList.drop 48).take 12 = [22, 42, 16, 8, 188, 10, 181, 0, 25, 42, 16, 8] := by decide +kernel
theorem dX12_init_46 : decode cX12_init 46 = .ok (.putfield 22, 3) := dk_1181 (dk_g tcX12_init_3 10 rfl) (dk_g tcX12_init_3 11 rfl) (dk_g tcX12_init_4 0 rfl) rfl
theorem dX12_init_49 : decode cX12_init 49 = .ok (.aload_n 0, 1) := dk_1042 (dk_g tcX12_init_4 1 rfl)
theorem dX12_init_50 : decode cX12_init 50 = .ok (.bipush 8, 2) := dk_1016 (dk_g tcX12_init_4 2 rfl) (dk_g tcX12_init_4 3 rfl) (by decide +kernel)
theorem dX12_init_52 : decode cX12_init 52 = .ok (.newarray .int, 2) := dk_1188_10 (dk_g tcX12_init_4 4 rfl) (dk_g tcX12_init_4 5 rfl)
theorem dX12_init_54 : decode cX12_init 54 = .ok (.putfield 25, 3) := dk_1181 (dk_g tcX12_init_4 6 rfl) (dk_g tcX12_init_4 7 rfl) (dk_g tcX12_init_4 8 rfl) rfl
theorem dX12_init_57 : decode cX12_init 57 = .ok (.aload_n 0, 1) := dk_1042 (dk_g tcX12_init_4 9 rfl)
theorem dX12_init_58 : decode cX12_init 58 = .ok (.bipush 8, 2) := dk_1016 (dk_g tcX12_init_4 10 rfl) (dk_g tcX12_init_4 11 rfl) (by decide +kernel)
theorem tcX12_init_5 : (cX12_init.data.toList.drop 60).take 12 = [188, 10, 181, 0, 28, 42, 17, 3, 132, 188, 8, 181] := by decide +kernel
theorem dX12_init_60 : decode cX12_init 60 = .ok (.newarray .int, 2) := dk_1188_10 (dk_g tcX12_init_5 0 rfl) (dk_g tcX12_init_5 1 rfl)
theorem dX12_init_62 : decode cX12_init 62 = .ok (.putfield 28, 3) := dk_1181 (dk_g tcX12_init_5 2 rfl) (dk_g tcX12_init_5 3 rfl) (dk_g tcX12_init_5 4 rfl) rfl
theorem dX12_init_65 : decode cX12_init 65 = .ok (.aload_n 0, 1) := dk_1042 (dk_g tcX12_init_5 5 rfl)
theorem dX12_init_66 : decode cX12_init 66 = .ok (.sipush 900, 3) := dk_2017 (dk_g tcX12_init_5 6 rfl) (dk_g tcX12_init_5 7 rfl) (dk_g tcX12_init_5 8 rfl) rfl rfl
theorem dX12_init_69 : decode cX12_init 69 = .ok (.newarray .byte, 2) := dk_1188_8 (dk_g tcX12_init_5 9 rfl) (dk_g tcX12_init_5 10 rfl)
theorem tcX12_init_6 : (cX12_init.data.toList.drop 72).take 12 = [0, 31, 42, 2, 181, 0, 35, 42, 2, 181, 0, 39] := by decide +kernel
theorem dX12_init_71 : decode cX12_init 71 = .ok (.putfield 31, 3) := dk_1181 (dk_g tcX12_init_5 11 rfl) (dk_g tcX12_init_6 0 rfl) (dk_g tcX12_init_6 1 rfl) rfl
theorem dX12_init_74 : decode cX12_init 74 = .ok (.aload_n 0, 1) := dk_1042 (dk_g tcX12_init_6 2 rfl)
theorem dX12_init_75 : decode cX12_init 75 = .ok (.iconst (-1), 1) := dk_1002 (dk_g tcX12_init_6 3 rfl)
theorem dX12_init_76 : decode cX12_init 76 = .ok (.putfield 35, 3) := dk_1181 (dk_g tcX12_init_6 4 rfl) (dk_g tcX12_init_6 5 rfl) (dk_g tcX12_init_6 6 rfl) rfl
theorem dX12_init_79 : decode cX12_init 79 = .ok (.aload_n 0, 1) := dk_1042 (dk_g tcX12_init_6 7 rfl)
theorem dX12_init_80 : decode cX12_init 80 = .ok (.iconst (-1), 1) := dk_1002 (dk_g tcX12_init_6 8 rfl)
theorem dX12_init_81 : decode cX12_init 81 = .ok (.putfield 39, 3) := dk_1181 (dk_g tcX12_init_6 9 rfl) (dk_g tcX12_init_6 10 rfl) (dk_g tcX12_init_6 11 rfl) rfl
theorem tcX12_init_7 : (cX12_init.data.toList.drop 84).take 12 = [42, 16, 12, 188, 11, 89, 3, 20, 0, 42, 80, 89] := by decide +kernel
theorem dX12_init_84 : decode cX12_init 84 = .ok (.aload_n 0, 1) := dk_1042 (dk_g tcX12_init_7 0 rfl)
theorem dX12_init_85 : decode cX12_init 85 = .ok (.bipush 12, 2) := dk_1016 (dk_g tcX12_init_7 1 rfl) (dk_g tcX12_init_7 2 rfl) (by decide +kernel)
theorem dX12_init_87 : decode cX12_init 87 = .ok (.newarray .long, 2) := dk_1188_11 (dk_g tcX12_init_7 3 rfl) (dk_g tcX12_init_7 4 rfl)
theorem dX12_init_89 : decode cX12_init 89 = .ok (.dup, 1) := dk_1089 (dk_g tcX12_init_7 5 rfl)
theorem dX12_init_90 : decode cX12_init 90 = .ok (.iconst 0, 1) := dk_1003 (dk_g tcX12_init_7 6 rfl)
theorem dX12_init_91 : decode cX12_init 91 = .ok (.ldc2_w 42, 3) := dk_1020 (dk_g tcX12_init_7 7 rfl) (dk_g tcX12_init_7 8 rfl) (dk_g tcX12_init_7 9 rfl) rfl
theorem dX12_init_94 : decode cX12_init 94 = .ok (.lastore, 1) := dk_1080 (dk_g tcX12_init_7 10 rfl)
theorem dX12_init_95 : decode cX12_init 95 = .ok (.dup, 1) := dk_1089 (dk_g tcX12_init_7 11 rfl)
theorem tcX12_init_8 : (cX12_init.data.toList.drop 96).take 12 = [4, 20, 0, 44, 80, 89, 5, 20, 0, 46, 80, 89] := by decide +kernel
theorem dX12_init_96 : decode cX12_init 96 = .ok (.iconst 1, 1) := dk_1004 (dk_g tcX12_init_8 0 rfl)
theorem dX12_init_97 : decode cX12_init 97 = .ok (.ldc2_w 44, 3) := dk_1020 (dk_g tcX12_init_8 1 rfl) (dk_g tcX12_init_8 2 rfl) (dk_g tcX12_init_8 3 rfl) rfl
theorem dX12_init_100 : decode cX12_init 100 = .ok (.lastore, 1) := dk_1080 (dk_g tcX12_init_8 4 rfl)
theorem dX12_init_101 : decode cX12_init 101 = .ok (.dup, 1) := dk_1089 (dk_g tcX12_init_8 5 rfl)
theorem dX12_init_102 : decode cX12_init 102 = .ok (.iconst 2, 1) := dk_1005 (dk_g tcX12_init_8 6 rfl)
theorem dX12_init_103 : decode cX12_init 103 = .ok (.ldc2_w 46, 3) := dk_1020 (dk_g tcX12_init_8 7 rfl) (dk_g tcX12_init_8 8 rfl) (dk_g tcX12_init_8 9 rfl) rfl
theorem dX12_init_106 : decode cX12_init 106 = .ok (.lastore, 1) := dk_1080 (dk_g tcX12_init_8 10 rfl)
theorem dX12_init_107 : decode cX12_init 107 = .ok (.dup, 1) := dk_1089 (dk_g tcX12_init_8 11 rfl)
theorem tcX12_init_9 : (cX12_init.data.toList.drop 108).take 12 = [6, 20, 0, 48, 80, 89, 7, 20, 0, 50, 80, 89] := by decide +kernel
theorem dX12_init_108 : decode cX12_init 108 = .ok (.iconst 3, 1) := dk_1006 (dk_g tcX12_init_9 0 rfl)
theorem dX12_init_109 : decode cX12_init 109 = .ok (.ldc2_w 48, 3) := dk_1020 (dk_g tcX12_init_9 1 rfl) (dk_g tcX12_init_9 2 rfl) (dk_g tcX12_init_9 3 rfl) rfl
theorem dX12_init_112 : decode cX12_init 112 = .ok (.lastore, 1) := dk_1080 (dk_g tcX12_init_9 4 rfl)
theorem dX12_init_113 : decode cX12_init 113 = .ok (.dup, 1) := dk_1089 (dk_g tcX12_init_9 5 rfl)
theorem dX12_init_114 : decode cX12_init 114 = .ok (.iconst 4, 1) := dk_1007 (dk_g tcX12_init_9 6 rfl)
theorem dX12_init_115 : decode cX12_init 115 = .ok (.ldc2_w 50, 3) := dk_1020 (dk_g tcX12_init_9 7 rfl) (dk_g tcX12_init_9 8 rfl) (dk_g tcX12_init_9 9 rfl) rfl
theorem dX12_init_118 : decode cX12_init 118 = .ok (.lastore, 1) := dk_1080 (dk_g tcX12_init_9 10 rfl)
theorem dX12_init_119 : decode cX12_init 119 = .ok (.dup, 1) := dk_1089 (dk_g tcX12_init_9 11 rfl)
theorem tcX12_init_10 : (cX12_init.data.toList.drop 120).take 12 = [8, 20, 0, 52, 80, 89, 16, 6, 20, 0, 54, 80] := by decide +kernel
theorem dX12_init_120 : decode cX12_init 120 = .ok (.iconst 5, 1) := dk_1008 (dk_g tcX12_init_10 0 rfl)
theorem dX12_init_121 : decode cX12_init 121 = .ok (.ldc2_w 52, 3) := dk_1020 (dk_g tcX12_init_10 1 rfl) (dk_g tcX12_init_10 2 rfl) (dk_g tcX12_init_10 3 rfl) rfl
theorem dX12_init_124 : decode cX12_init 124 = .ok (.lastore, 1) := dk_1080 (dk_g tcX12_init_10 4 rfl)
theorem dX12_init_125 : decode cX12_init 125 = .ok (.dup, 1) := dk_1089 (dk_g tcX12_init_10 5 rfl)
theorem dX12_init_126 : decode cX12_init 126 = .ok (.bipush 6, 2) := dk_1016 (dk_g tcX12_init_10 6 rfl) (dk_g tcX12_init_10 7 rfl) (by decide +kernel)
theorem dX12_init_128 : decode cX12_init 128 = .ok (.ldc2_w 54, 3) := dk_1020 (dk_g tcX12_init_10 8 rfl) (dk_g tcX12_init_10 9 rfl) (dk_g tcX12_init_10 10 rfl) rfl
theorem dX12_init_131 : decode cX12_init 131 = .ok (.lastore, 1) := dk_1080 (dk_g tcX12_init_10 11 rfl)
theorem tcX12_init_11 : (cX12_init.data.toList.drop 132).take 12 = [89, 16, 7, 20, 0, 56, 80, 89, 16, 8, 20, 0] := by decide +kernel
theorem dX12_init_132 : decode cX12_init 132 = .ok (.dup, 1) := dk_1089 (dk_g tcX12_init_11 0 rfl)
theorem dX12_init_133 : decode cX12_init 133 = .ok (.bipush 7, 2) := dk_1016 (dk_g tcX12_init_11 1 rfl) (dk_g tcX12_init_11 2 rfl) (by decide +kernel)
theorem dX12_init_135 : decode cX12_init 135 = .ok (.ldc2_w 56, 3) := dk_1020 (dk_g tcX12_init_11 3 rfl) (dk_g tcX12_init_11 4 rfl) (dk_g tcX12_init_11 5 rfl) rfl
theorem dX12_init_138 : decode cX12_init 138 = .ok (.lastore, 1) := dk_1080 (dk_g tcX12_init_11 6 rfl)
theorem dX12_init_139 : decode cX12_init 139 = .ok (.dup, 1) := dk_1089 (dk_g tcX12_init_11 7 rfl)
theorem dX12_init_140 : decode cX12_init 140 = .ok (.bipush 8, 2) := dk_1016 (dk_g tcX12_init_11 8 rfl) (dk_g tcX12_init_11 9 rfl) (by decide +kernel)
theorem tcX12_init_12 : (cX12_init.data.toList.drop 144).take 12 = [58, 80, 89, 16, 9, 20, 0, 60, 80, 89, 16, 10] := by decide +kernel
theorem dX12_init_142 : decode cX12_init 142 = .ok (.ldc2_w 58, 3) := dk_1020 (dk_g tcX12_init_11 10 rfl) (dk_g tcX12_init_11 11 rfl) (dk_g tcX12_init_12 0 rfl) rfl
theorem dX12_init_145 : decode cX12_init 145 = .ok (.lastore, 1) := dk_1080 (dk_g tcX12_init_12 1 rfl)
theorem dX12_init_146 : decode cX12_init 146 = .ok (.dup, 1) := dk_1089 (dk_g tcX12_init_12 2 rfl)
theorem dX12_init_147 : decode cX12_init 147 = .ok (.bipush 9, 2) := dk_1016 (dk_g tcX12_init_12 3 rfl) (dk_g tcX12_init_12 4 rfl) (by decide +kernel)
theorem dX12_init_149 : decode cX12_init 149 = .ok (.ldc2_w 60, 3) := dk_1020 (dk_g tcX12_init_12 5 rfl) (dk_g tcX12_init_12 6 rfl) (dk_g tcX12_init_12 7 rfl) rfl
theorem dX12_init_152 : decode cX12_init 152 = .ok (.lastore, 1) := dk_1080 (dk_g tcX12_init_12 8 rfl)
theorem dX12_init_153 : decode cX12_init 153 = .ok (.dup, 1) := dk_1089 (dk_g tcX12_init_12 9 rfl)
theorem dX12_init_154 : decode cX12_init 154 = .ok (.bipush 10, 2) := dk_1016 (dk_g tcX12_init_12 10 rfl) (dk_g tcX12_init_12 11 rfl) (by decide +kernel)
theorem tcX12_init_13 : (cX12_init.data.toList.drop 156).take 12 = [20, 0, 62, 80, 89, 16, 11, 20, 0, 64, 80, 181] := by decide +kernel
theorem dX12_init_156 : decode cX12_init 156 = .ok (.ldc2_w 62, 3) := dk_1020 (dk_g tcX12_init_13 0 rfl) (dk_g tcX12_init_13 1 rfl) (dk_g tcX12_init_13 2 rfl) rfl
theorem dX12_init_159 : decode cX12_init 159 = .ok (.lastore, 1) := dk_1080 (dk_g tcX12_init_13 3 rfl)
theorem dX12_init_160 : decode cX12_init 160 = .ok (.dup, 1) := dk_1089 (dk_g tcX12_init_13 4 rfl)
theorem dX12_init_161 : decode cX12_init 161 = .ok (.bipush 11, 2) := dk_1016 (dk_g tcX12_init_13 5 rfl) (dk_g tcX12_init_13 6 rfl) (by decide +kernel)
theorem dX12_init_163 : decode cX12_init 163 = .ok (.ldc2_w 64, 3) := dk_1020 (dk_g tcX12_init_13 7 rfl) (dk_g tcX12_init_13 8 rfl) (dk_g tcX12_init_13 9 rfl) rfl
theorem dX12_init_166 : decode cX12_init 166 = .ok (.lastore, 1) := dk_1080 (dk_g tcX12_init_13 10 rfl)
theorem tcX12_init_14 : (cX12_init.data.toList.drop 168).take 12 = [0, 66, 42, 16, 20, 188, 10, 181, 0, 70, 42, 16] := by decide +kernel
theorem dX12_init_167 : decode cX12_init 167 = .ok (.putfield 66, 3) := dk_1181 (dk_g tcX12_init_13 11 rfl) (dk_g tcX12_init_14 0 rfl) (dk_g tcX12_init_14 1 rfl) rfl
theorem dX12_init_170 : decode cX12_init 170 = .ok (.aload_n 0, 1) := dk_1042 (dk_g tcX12_init_14 2 rfl)
theorem dX12_init_171 : decode cX12_init 171 = .ok (.bipush 20, 2) := dk_1016 (dk_g tcX12_init_14 3 rfl) (dk_g tcX12_init_14 4 rfl) (by decide +kernel)
theorem dX12_init_173 : decode cX12_init 173 = .ok (.newarray .int, 2) := dk_1188_10 (dk_g tcX12_init_14 5 rfl) (dk_g tcX12_init_14 6 rfl)
theorem dX12_init_175 : decode cX12_init 175 = .ok (.putfield 70, 3) := dk_1181 (dk_g tcX12_init_14 7 rfl) (dk_g tcX12_init_14 8 rfl) (dk_g tcX12_init_14 9 rfl) rfl
theorem dX12_init_178 : decode cX12_init 178 = .ok (.aload_n 0, 1) := dk_1042 (dk_g tcX12_init_14 10 rfl)
theorem tcX12_init_15 : (cX12_init.data.toList.drop 180).take 12 = [20, 188, 10, 181, 0, 73, 42, 16, 64, 188, 10, 181] := by decide +kernel
theorem dX12_init_179 : decode cX12_init 179 = .ok (.bipush 20, 2) := dk_1016 (dk_g tcX12_init_14 11 rfl) (dk_g tcX12_init_15 0 rfl) (by decide +kernel)
theorem dX12_init_181 : decode cX12_init 181 = .ok (.newarray .int, 2) := dk_1188_10 (dk_g tcX12_init_15 1 rfl) (dk_g tcX12_init_15 2 rfl)
theorem dX12_init_183 : decode cX12_init 183 = .ok (.putfield 73, 3) := dk_1181 (dk_g tcX12_init_15 3 rfl) (dk_g tcX12_init_15 4 rfl) (dk_g tcX12_init_15 5 rfl) rfl
theorem dX12_init_186 : decode cX12_init 186 = .ok (.aload_n 0, 1) := dk_1042 (dk_g tcX12_init_15 6 rfl)
theorem dX12_init_187 : decode cX12_init 187 = .ok (.bipush 64, 2) := dk_1016 (dk_g tcX12_init_15 7 rfl) (dk_g tcX12_init_15 8 rfl) (by decide +kernel)
theorem dX12_init_189 : decode cX12_init 189 = .ok (.newarray .int, 2) := dk_1188_10 (dk_g tcX12_init_15 9 rfl) (dk_g tcX12_init_15 10 rfl)
theorem tcX12_init_16 : (cX12_init.data.toList.drop 192).take 12 = [0, 76, 42, 16, 64, 188, 10, 181, 0, 79, 42, 16] := by decide +kernel
theorem dX12_init_191 : decode cX12_init 191 = .ok (.putfield 76, 3) := dk_1181 (dk_g tcX12_init_15 11 rfl) (dk_g tcX12_init_16 0 rfl) (dk_g tcX12_init_16 1 rfl) rfl
theorem dX12_init_194 : decode cX12_init 194 = .ok (.aload_n 0, 1) := dk_1042 (dk_g tcX12_init_16 2 rfl)
theorem dX12_init_195 : decode cX12_init 195 = .ok (.bipush 64, 2) := dk_1016 (dk_g tcX12_init_16 3 rfl) (dk_g tcX12_init_16 4 rfl) (by decide +kernel)
theorem dX12_init_197 : decode cX12_init 197 = .ok (.newarray .int, 2) := dk_1188_10 (dk_g tcX12_init_16 5 rfl) (dk_g tcX12_init_16 6 rfl)
theorem dX12_init_199 : decode cX12_init 199 = .ok (.putfield 79, 3) := dk_1181 (dk_g tcX12_init_16 7 rfl) (dk_g tcX12_init_16 8 rfl) (dk_g tcX12_init_16 9 rfl) rfl
theorem dX12_init_202 : decode cX12_init 202 = .ok (.aload_n 0, 1) := dk_1042 (dk_g tcX12_init_16 10 rfl)
theorem tcX12_init_17 : (cX12_init.data.toList.drop 204).take 12 = [64, 188, 10, 181, 0, 82, 42, 16, 64, 188, 10, 181] := by decide +kernel
theorem dX12_init_203 : decode cX12_init 203 = .ok (.bipush 64, 2) := dk_1016 (dk_g tcX12_init_16 11 rfl) (dk_g tcX12_init_17 0 rfl) (by decide +kernel)
theorem dX12_init_205 : decode cX12_init 205 = .ok (.newarray .int, 2) := dk_1188_10 (dk_g tcX12_init_17 1 rfl) (dk_g tcX12_init_17 2 rfl)
theorem dX12_init_207 : decode cX12_init 207 = .ok (.putfield 82, 3) := dk_1181 (dk_g tcX12_init_17 3 rfl) (dk_g tcX12_init_17 4 rfl) (dk_g tcX12_init_17 5 rfl) rfl
theorem dX12_init_210 : decode cX12_init 210 = .ok (.aload_n 0, 1) := dk_1042 (dk_g tcX12_init_17 6 rfl)
theorem dX12_init_211 : decode cX12_init 211 = .ok (.bipush 64, 2) := dk_1016 (dk_g tcX12_init_17 7 rfl) (dk_g tcX12_init_17 8 rfl) (by decide +kernel)
theorem dX12_init_213 : decode cX12_init 213 = .ok (.newarray .int, 2) := dk_1188_10 (dk_g tcX12_init_17 9 rfl) (dk_g tcX12_init_17 10 rfl)
theorem tcX12_init_18 : (cX12_init.data.toList.drop 216).take 12 = [0, 85, 42, 16, 64, 188, 10, 181, 0, 88, 42, 16] := by decide +kernel
theorem dX12_init_215 : decode cX12_init 215 = .ok (.putfield 85, 3) := dk_1181 (dk_g tcX12_init_17 11 rfl) (dk_g tcX12_init_18 0 rfl) (dk_g tcX12_init_18 1 rfl) rfl
theorem dX12_init_218 : decode cX12_init 218 = .ok (.aload_n 0, 1) := dk_1042 (dk_g tcX12_init_18 2 rfl)
theorem dX12_init_219 : decode cX12_init 219 = .ok (.bipush 64, 2) := dk_1016 (dk_g tcX12_init_18 3 rfl) (dk_g tcX12_init_18 4 rfl) (by decide +kernel)
theorem dX12_init_221 : decode cX12_init 221 = .ok (.newarray .int, 2) := dk_1188_10 (dk_g tcX12_init_18 5 rfl) (dk_g tcX12_init_18 6 rfl)
theorem dX12_init_223 : decode cX12_init 223 = .ok (.putfield 88, 3) := dk_1181 (dk_g tcX12_init_18 7 rfl) (dk_g tcX12_init_18 8 rfl) (dk_g tcX12_init_18 9 rfl) rfl
theorem dX12_init_226 : decode cX12_init 226 = .ok (.aload_n 0, 1) := dk_1042 (dk_g tcX12_init_18 10 rfl)
theorem tcX12_init_19 : (cX12_init.data.toList.drop 228).take 12 = [64, 188, 10, 181, 0, 91, 42, 17, 1, 0, 188, 10] := by decide +kernel
theorem dX12_init_227 : decode cX12_init 227 = .ok (.bipush 64, 2) := dk_1016 (dk_g tcX12_init_18 11 rfl) (dk_g tcX12_init_19 0 rfl) (by decide +kernel)
theorem dX12_init_229 : decode cX12_init 229 = .ok (.newarray .int, 2) := dk_1188_10 (dk_g tcX12_init_19 1 rfl) (dk_g tcX12_init_19 2 rfl)
theorem dX12_init_231 : decode cX12_init 231 = .ok (.putfield 91, 3) := dk_1181 (dk_g tcX12_init_19 3 rfl) (dk_g tcX12_init_19 4 rfl) (dk_g tcX12_init_19 5 rfl) rfl
theorem dX12_init_234 : decode cX12_init 234 = .ok (.aload_n 0, 1) := dk_1042 (dk_g tcX12_init_19 6 rfl)
theorem dX12_init_235 : decode cX12_init 235 = .ok (.sipush 256, 3) := dk_2017 (dk_g tcX12_init_19 7 rfl) (dk_g tcX12_init_19 8 rfl) (dk_g tcX12_init_19 9 rfl) rfl rfl
theorem dX12_init_238 : decode cX12_init 238 = .ok (.newarray .int, 2) := dk_1188_10 (dk_g tcX12_init_19 10 rfl) (dk_g tcX12_init_19 11 rfl)
theorem tcX12_init_20 : (cX12_init.data.toList.drop 240).take 12 = [181, 0, 94, 42, 17, 1, 0, 188, 10, 181, 0, 97] := by decide +kernel
theorem dX12_init_240 : decode cX12_init 240 = .ok (.putfield 94, 3) := dk_1181 (dk_g tcX12_init_20 0 rfl) (dk_g tcX12_init_20 1 rfl) (dk_g tcX12_init_20 2 rfl) rfl
theorem dX12_init_243 : decode cX12_init 243 = .ok (.aload_n 0, 1) := dk_1042 (dk_g tcX12_init_20 3 rfl)
theorem dX12_init_244 : decode cX12_init 244 = .ok (.sipush 256, 3) := dk_2017 (dk_g tcX12_init_20 4 rfl) (dk_g tcX12_init_20 5 rfl) (dk_g tcX12_init_20 6 rfl) rfl rfl
theorem dX12_init_247 : decode cX12_init 247 = .ok (.newarray .int, 2) := dk_1188_10 (dk_g tcX12_init_20 7 rfl) (dk_g tcX12_init_20 8 rfl)
theorem dX12_init_249 : decode cX12_init 249 = .ok (.putfield 97, 3) := dk_1181 (dk_g tcX12_init_20 9 rfl) (dk_g tcX12_init_20 10 rfl) (dk_g tcX12_init_20 11 rfl) rfl
theorem tcX12_init_21 : (cX12_init.data.toList.drop 252).take 12 = [42, 17, 3, 132, 188, 10, 181, 0, 100, 42, 182, 0] := by decide +kernel
theorem dX12_init_252 : decode cX12_init 252 = .ok (.aload_n 0, 1) := dk_1042 (dk_g tcX12_init_21 0 rfl)
theorem dX12_init_253 : decode cX12_init 253 = .ok (.sipush 900, 3) := dk_2017 (dk_g tcX12_init_21 1 rfl) (dk_g tcX12_init_21 2 rfl) (dk_g tcX12_init_21 3 rfl) rfl rfl
theorem dX12_init_256 : decode cX12_init 256 = .ok (.newarray .int, 2) := dk_1188_10 (dk_g tcX12_init_21 4 rfl) (dk_g tcX12_init_21 5 rfl)
theorem dX12_init_258 : decode cX12_init 258 = .ok (.putfield 100, 3) := dk_1181 (dk_g tcX12_init_21 6 rfl) (dk_g tcX12_init_21 7 rfl) (dk_g tcX12_init_21 8 rfl) rfl
theorem dX12_init_261 : decode cX12_init 261 = .ok (.aload_n 0, 1) := dk_1042 (dk_g tcX12_init_21 9 rfl)
theorem tcX12_init_22 : (cX12_init.data.toList.drop 264).take 12 = [103, 177] := by decide +kernel
theorem dX12_init_262 : decode cX12_init 262 = .ok (.invokevirtual 103, 3) := dk_1182 (dk_g tcX12_init_21 10 rfl) (dk_g tcX12_init_21 11 rfl) (dk_g tcX12_init_22 0 rfl) rfl
theorem dX12_init_265 : decode cX12_init 265 = .ok (.return_, 1) := dk_1177 (dk_g tcX12_init_22 1 rfl)
theorem tcX12_status_0 : (cX12_status.data.toList.drop 0).take 12 = [42, 3, 181, 0, 106, 42, 180, 0, 109, 172] := by decide +kernel
theorem dX12_status_0 : decode cX12_status 0 = .ok (.aload_n 0, 1) := dk_1042 (dk_g tcX12_status_0 0 rfl)
theorem dX12_status_1 : decode cX12_status 1 = .ok (.iconst 0, 1) := dk_1003 (dk_g tcX12_status_0 1 rfl)
theorem dX12_status_2 : decode cX12_status 2 = .ok (.putfield 106, 3) := dk_1181 (dk_g tcX12_status_0 2 rfl) (dk_g tcX12_status_0 3 rfl) (dk_g tcX12_status_0 4 rfl) rfl
theorem dX12_status_5 : decode cX12_status 5 = .ok (.aload_n 0, 1) := dk_1042 (dk_g tcX12_status_0 5 rfl)
theorem dX12_status_6 : decode cX12_status 6 = .ok (.getfield 109, 3) := dk_1180 (dk_g tcX12_status_0 6 rfl) (dk_g tcX12_status_0 7 rfl) (dk_g tcX12_status_0 8 rfl) rfl
theorem dX12_status_9 : decode cX12_status 9 = .ok (.ireturn, 1) := dk_1172 (dk_g tcX12_status_0 9 rfl)
theorem tcX12_refuse_0 : (cX12_refuse.data.toList.drop 0).take 12 = [42, 27, 181, 0, 109, 2, 172] := by decide +kernel
theorem dX12_refuse_0 : decode cX12_refuse 0 = .ok (.aload_n 0, 1) := dk_1042 (dk_g tcX12_refuse_0 0 rfl)
theorem dX12_refuse_1 : decode cX12_refuse 1 = .ok (.iload_n 1, 1) := dk_1027 (dk_g tcX12_refuse_0 1 rfl)
theorem dX12_refuse_2 : decode cX12_refuse 2 = .ok (.putfield 109, 3) := dk_1181 (dk_g tcX12_refuse_0 2 rfl) (dk_g tcX12_refuse_0 3 rfl) (dk_g tcX12_refuse_0 4 rfl) rfl
theorem dX12_refuse_5 : decode cX12_refuse 5 = .ok (.iconst (-1), 1) := dk_1002 (dk_g tcX12_refuse_0 5 rfl)
theorem dX12_refuse_6 : decode cX12_refuse 6 = .ok (.ireturn, 1) := dk_1172 (dk_g tcX12_refuse_0 6 rfl)
theorem tcX12_is_0 : (cX12_is.data.toList.drop 0).take 12 = [42, 3, 181, 0, 106, 42, 27, 181, 0, 109, 27, 154] := by decide +kernel
theorem dX12_is_0 : decode cX12_is 0 = .ok (.aload_n 0, 1) := dk_1042 (dk_g tcX12_is_0 0 rfl)
theorem dX12_is_1 : decode cX12_is 1 = .ok (.iconst 0, 1) := dk_1003 (dk_g tcX12_is_0 1 rfl)
theorem dX12_is_2 : decode cX12_is 2 = .ok (.putfield 106, 3) := dk_1181 (dk_g tcX12_is_0 2 rfl) (dk_g tcX12_is_0 3 rfl) (dk_g tcX12_is_0 4 rfl) rfl
theorem dX12_is_5 : decode cX12_is 5 = .ok (.aload_n 0, 1) := dk_1042 (dk_g tcX12_is_0 5 rfl)
theorem dX12_is_6 : decode cX12_is 6 = .ok (.iload_n 1, 1) := dk_1027 (dk_g tcX12_is_0 6 rfl)
theorem dX12_is_7 : decode cX12_is 7 = .ok (.putfield 109, 3) := dk_1181 (dk_g tcX12_is_0 7 rfl) (dk_g tcX12_is_0 8 rfl) (dk_g tcX12_is_0 9 rfl) rfl
theorem dX12_is_10 : decode cX12_is 10 = .ok (.iload_n 1, 1) := dk_1027 (dk_g tcX12_is_0 10 rfl)
theorem tcX12_is_1 : (cX12_is.data.toList.drop 12).take 12 = [0, 7, 4, 167, 0, 4, 3, 172] := by decide +kernel
theorem dX12_is_11 : decode cX12_is 11 = .ok (.ifCond .ne 7, 3) := dk_2154 (dk_g tcX12_is_0 11 rfl) (dk_g tcX12_is_1 0 rfl) (dk_g tcX12_is_1 1 rfl) rfl rfl
theorem dX12_is_14 : decode cX12_is 14 = .ok (.iconst 1, 1) := dk_1004 (dk_g tcX12_is_1 2 rfl)
theorem dX12_is_15 : decode cX12_is 15 = .ok (.goto 4, 3) := dk_2167 (dk_g tcX12_is_1 3 rfl) (dk_g tcX12_is_1 4 rfl) (dk_g tcX12_is_1 5 rfl) rfl rfl
theorem dX12_is_18 : decode cX12_is 18 = .ok (.iconst 0, 1) := dk_1003 (dk_g tcX12_is_1 6 rfl)
theorem dX12_is_19 : decode cX12_is 19 = .ok (.ireturn, 1) := dk_1172 (dk_g tcX12_is_1 7 rfl)
theorem tcX12_isIn_0 : (cX12_isIn.data.toList.drop 0).take 12 = [26, 27, 161, 0, 12, 26, 28, 163, 0, 7, 4, 167] := by decide +kernel
theorem dX12_isIn_0 : decode cX12_isIn 0 = .ok (.iload_n 0, 1) := dk_1026 (dk_g tcX12_isIn_0 0 rfl)
theorem dX12_isIn_1 : decode cX12_isIn 1 = .ok (.iload_n 1, 1) := dk_1027 (dk_g tcX12_isIn_0 1 rfl)
theorem dX12_isIn_2 : decode cX12_isIn 2 = .ok (.if_icmp .lt 12, 3) := dk_2161 (dk_g tcX12_isIn_0 2 rfl) (dk_g tcX12_isIn_0 3 rfl) (dk_g tcX12_isIn_0 4 rfl) rfl rfl
theorem dX12_isIn_5 : decode cX12_isIn 5 = .ok (.iload_n 0, 1) := dk_1026 (dk_g tcX12_isIn_0 5 rfl)
theorem dX12_isIn_6 : decode cX12_isIn 6 = .ok (.iload_n 2, 1) := dk_1028 (dk_g tcX12_isIn_0 6 rfl)
theorem dX12_isIn_7 : decode cX12_isIn 7 = .ok (.if_icmp .gt 7, 3) := dk_2163 (dk_g tcX12_isIn_0 7 rfl) (dk_g tcX12_isIn_0 8 rfl) (dk_g tcX12_isIn_0 9 rfl) rfl rfl
theorem dX12_isIn_10 : decode cX12_isIn 10 = .ok (.iconst 1, 1) := dk_1004 (dk_g tcX12_isIn_0 10 rfl)
theorem tcX12_isIn_1 : (cX12_isIn.data.toList.drop 12).take 12 = [0, 4, 3, 172] := by decide +kernel
theorem dX12_isIn_11 : decode cX12_isIn 11 = .ok (.goto 4, 3) := dk_2167 (dk_g tcX12_isIn_0 11 rfl) (dk_g tcX12_isIn_1 0 rfl) (dk_g tcX12_isIn_1 1 rfl) rfl rfl
theorem dX12_isIn_14 : decode cX12_isIn 14 = .ok (.iconst 0, 1) := dk_1003 (dk_g tcX12_isIn_1 2 rfl)
theorem dX12_isIn_15 : decode cX12_isIn 15 = .ok (.ireturn, 1) := dk_1172 (dk_g tcX12_isIn_1 3 rfl)
theorem tcX12_clears_0 : (cX12_clears.data.toList.drop 0).take 12 = [3, 60, 27, 17, 7, 188, 162, 0, 16, 42, 180, 0] := by decide +kernel
theorem dX12_clears_0 : decode cX12_clears 0 = .ok (.iconst 0, 1) := dk_1003 (dk_g tcX12_clears_0 0 rfl)
theorem dX12_clears_1 : decode cX12_clears 1 = .ok (.istore_n 1, 1) := dk_1060 (dk_g tcX12_clears_0 1 rfl)
theorem dX12_clears_2 : decode cX12_clears 2 = .ok (.iload_n 1, 1) := dk_1027 (dk_g tcX12_clears_0 2 rfl)
theorem dX12_clears_3 : decode cX12_clears 3 = .ok (.sipush 1980, 3) := dk_2017 (dk_g tcX12_clears_0 3 rfl) (dk_g tcX12_clears_0 4 rfl) (dk_g tcX12_clears_0 5 rfl) rfl rfl
theorem dX12_clears_6 : decode cX12_clears 6 = .ok (.if_icmp .ge 16, 3) := dk_2162 (dk_g tcX12_clears_0 6 rfl) (dk_g tcX12_clears_0 7 rfl) (dk_g tcX12_clears_0 8 rfl) rfl rfl
theorem dX12_clears_9 : decode cX12_clears 9 = .ok (.aload_n 0, 1) := dk_1042 (dk_g tcX12_clears_0 9 rfl)
theorem tcX12_clears_1 : (cX12_clears.data.toList.drop 12).take 12 = [7, 27, 3, 79, 132, 1, 1, 167, 255, 239, 42, 180] := by decide +kernel
theorem dX12_clears_10 : decode cX12_clears 10 = .ok (.getfield 7, 3) := dk_1180 (dk_g tcX12_clears_0 10 rfl) (dk_g tcX12_clears_0 11 rfl) (dk_g tcX12_clears_1 0 rfl) rfl
theorem dX12_clears_13 : decode cX12_clears 13 = .ok (.iload_n 1, 1) := dk_1027 (dk_g tcX12_clears_1 1 rfl)
theorem dX12_clears_14 : decode cX12_clears 14 = .ok (.iconst 0, 1) := dk_1003 (dk_g tcX12_clears_1 2 rfl)
theorem dX12_clears_15 : decode cX12_clears 15 = .ok (.iastore, 1) := dk_1079 (dk_g tcX12_clears_1 3 rfl)
theorem dX12_clears_16 : decode cX12_clears 16 = .ok (.iinc 1 1, 3) := dk_1132 (dk_g tcX12_clears_1 4 rfl) (dk_g tcX12_clears_1 5 rfl) (dk_g tcX12_clears_1 6 rfl) rfl (by decide +kernel)
theorem dX12_clears_19 : decode cX12_clears 19 = .ok (.goto (-17), 3) := dk_1167 (dk_g tcX12_clears_1 7 rfl) (dk_g tcX12_clears_1 8 rfl) (dk_g tcX12_clears_1 9 rfl) (by decide +kernel)
theorem dX12_clears_22 : decode cX12_clears 22 = .ok (.aload_n 0, 1) := dk_1042 (dk_g tcX12_clears_1 10 rfl)
theorem tcX12_clears_2 : (cX12_clears.data.toList.drop 24).take 12 = [0, 7, 3, 4, 79, 42, 180, 0, 7, 4, 18, 112] := by decide +kernel
theorem dX12_clears_23 : decode cX12_clears 23 = .ok (.getfield 7, 3) := dk_1180 (dk_g tcX12_clears_1 11 rfl) (dk_g tcX12_clears_2 0 rfl) (dk_g tcX12_clears_2 1 rfl) rfl
theorem dX12_clears_26 : decode cX12_clears 26 = .ok (.iconst 0, 1) := dk_1003 (dk_g tcX12_clears_2 2 rfl)
theorem dX12_clears_27 : decode cX12_clears 27 = .ok (.iconst 1, 1) := dk_1004 (dk_g tcX12_clears_2 3 rfl)
theorem dX12_clears_28 : decode cX12_clears 28 = .ok (.iastore, 1) := dk_1079 (dk_g tcX12_clears_2 4 rfl)
theorem dX12_clears_29 : decode cX12_clears 29 = .ok (.aload_n 0, 1) := dk_1042 (dk_g tcX12_clears_2 5 rfl)
theorem dX12_clears_30 : decode cX12_clears 30 = .ok (.getfield 7, 3) := dk_1180 (dk_g tcX12_clears_2 6 rfl) (dk_g tcX12_clears_2 7 rfl) (dk_g tcX12_clears_2 8 rfl) rfl
theorem dX12_clears_33 : decode cX12_clears 33 = .ok (.iconst 1, 1) := dk_1004 (dk_g tcX12_clears_2 9 rfl)
theorem dX12_clears_34 : decode cX12_clears 34 = .ok (.ldc 112, 2) := dk_1018 (dk_g tcX12_clears_2 10 rfl) (dk_g tcX12_clears_2 11 rfl) rfl
theorem tcX12_clears_3 : (cX12_clears.data.toList.drop 36).take 12 = [79, 177] := by decide +kernel
theorem dX12_clears_36 : decode cX12_clears 36 = .ok (.iastore, 1) := dk_1079 (dk_g tcX12_clears_3 0 rfl)
theorem dX12_clears_37 : decode cX12_clears 37 = .ok (.return_, 1) := dk_1177 (dk_g tcX12_clears_3 1 rfl)
theorem tcX12_isRecord_0 : (cX12_isRecord.data.toList.drop 0).take 12 = [27, 3, 42, 180, 0, 7, 3, 46, 4, 100, 184, 0] := by decide +kernel
theorem dX12_isRecord_0 : decode cX12_isRecord 0 = .ok (.iload_n 1, 1) := dk_1027 (dk_g tcX12_isRecord_0 0 rfl)
theorem dX12_isRecord_1 : decode cX12_isRecord 1 = .ok (.iconst 0, 1) := dk_1003 (dk_g tcX12_isRecord_0 1 rfl)
theorem dX12_isRecord_2 : decode cX12_isRecord 2 = .ok (.aload_n 0, 1) := dk_1042 (dk_g tcX12_isRecord_0 2 rfl)
theorem dX12_isRecord_3 : decode cX12_isRecord 3 = .ok (.getfield 7, 3) := dk_1180 (dk_g tcX12_isRecord_0 3 rfl) (dk_g tcX12_isRecord_0 4 rfl) (dk_g tcX12_isRecord_0 5 rfl) rfl
theorem dX12_isRecord_6 : decode cX12_isRecord 6 = .ok (.iconst 0, 1) := dk_1003 (dk_g tcX12_isRecord_0 6 rfl)
theorem dX12_isRecord_7 : decode cX12_isRecord 7 = .ok (.iaload, 1) := dk_1046 (dk_g tcX12_isRecord_0 7 rfl)
theorem dX12_isRecord_8 : decode cX12_isRecord 8 = .ok (.iconst 1, 1) := dk_1004 (dk_g tcX12_isRecord_0 8 rfl)
theorem dX12_isRecord_9 : decode cX12_isRecord 9 = .ok (.isub, 1) := dk_1100 (dk_g tcX12_isRecord_0 9 rfl)
theorem tcX12_isRecord_1 : (cX12_isRecord.data.toList.drop 12).take 12 = [113, 172] := by decide +kernel
theorem dX12_isRecord_10 : decode cX12_isRecord 10 = .ok (.invokestatic 113, 3) := dk_1184 (dk_g tcX12_isRecord_0 10 rfl) (dk_g tcX12_isRecord_0 11 rfl) (dk_g tcX12_isRecord_1 0 rfl) rfl
theorem dX12_isRecord_13 : decode cX12_isRecord 13 = .ok (.ireturn, 1) := dk_1172 (dk_g tcX12_isRecord_1 1 rfl)
theorem tcX12_sizeOf_0 : (cX12_sizeOf.data.toList.drop 0).take 12 = [42, 180, 0, 7, 16, 72, 27, 96, 46, 172] := by decide +kernel
theorem dX12_sizeOf_0 : decode cX12_sizeOf 0 = .ok (.aload_n 0, 1) := dk_1042 (dk_g tcX12_sizeOf_0 0 rfl)
theorem dX12_sizeOf_1 : decode cX12_sizeOf 1 = .ok (.getfield 7, 3) := dk_1180 (dk_g tcX12_sizeOf_0 1 rfl) (dk_g tcX12_sizeOf_0 2 rfl) (dk_g tcX12_sizeOf_0 3 rfl) rfl
theorem dX12_sizeOf_4 : decode cX12_sizeOf 4 = .ok (.bipush 72, 2) := dk_1016 (dk_g tcX12_sizeOf_0 4 rfl) (dk_g tcX12_sizeOf_0 5 rfl) (by decide +kernel)
theorem dX12_sizeOf_6 : decode cX12_sizeOf 6 = .ok (.iload_n 1, 1) := dk_1027 (dk_g tcX12_sizeOf_0 6 rfl)
theorem dX12_sizeOf_7 : decode cX12_sizeOf 7 = .ok (.iadd, 1) := dk_1096 (dk_g tcX12_sizeOf_0 7 rfl)
theorem dX12_sizeOf_8 : decode cX12_sizeOf 8 = .ok (.iaload, 1) := dk_1046 (dk_g tcX12_sizeOf_0 8 rfl)
theorem dX12_sizeOf_9 : decode cX12_sizeOf 9 = .ok (.ireturn, 1) := dk_1172 (dk_g tcX12_sizeOf_0 9 rfl)
theorem tcX12_isMark_0 : (cX12_isMark.data.toList.drop 0).take 12 = [27, 3, 42, 180, 0, 7, 4, 46, 4, 100, 184, 0] := by decide +kernel
theorem dX12_isMark_0 : decode cX12_isMark 0 = .ok (.iload_n 1, 1) := dk_1027 (dk_g tcX12_isMark_0 0 rfl)
theorem dX12_isMark_1 : decode cX12_isMark 1 = .ok (.iconst 0, 1) := dk_1003 (dk_g tcX12_isMark_0 1 rfl)
theorem dX12_isMark_2 : decode cX12_isMark 2 = .ok (.aload_n 0, 1) := dk_1042 (dk_g tcX12_isMark_0 2 rfl)
theorem dX12_isMark_3 : decode cX12_isMark 3 = .ok (.getfield 7, 3) := dk_1180 (dk_g tcX12_isMark_0 3 rfl) (dk_g tcX12_isMark_0 4 rfl) (dk_g tcX12_isMark_0 5 rfl) rfl
theorem dX12_isMark_6 : decode cX12_isMark 6 = .ok (.iconst 1, 1) := dk_1004 (dk_g tcX12_isMark_0 6 rfl)
theorem dX12_isMark_7 : decode cX12_isMark 7 = .ok (.iaload, 1) := dk_1046 (dk_g tcX12_isMark_0 7 rfl)
theorem dX12_isMark_8 : decode cX12_isMark 8 = .ok (.iconst 1, 1) := dk_1004 (dk_g tcX12_isMark_0 8 rfl)
theorem dX12_isMark_9 : decode cX12_isMark 9 = .ok (.isub, 1) := dk_1100 (dk_g tcX12_isMark_0 9 rfl)
theorem tcX12_isMark_1 : (cX12_isMark.data.toList.drop 12).take 12 = [113, 172] := by decide +kernel
theorem dX12_isMark_10 : decode cX12_isMark 10 = .ok (.invokestatic 113, 3) := dk_1184 (dk_g tcX12_isMark_0 10 rfl) (dk_g tcX12_isMark_0 11 rfl) (dk_g tcX12_isMark_1 0 rfl) rfl
theorem dX12_isMark_13 : decode cX12_isMark 13 = .ok (.ireturn, 1) := dk_1172 (dk_g tcX12_isMark_1 1 rfl)
theorem tcX12_mixed_0 : (cX12_mixed.data.toList.drop 0).take 12 = [27, 133, 27, 133, 105, 20, 0, 117, 27, 133, 105, 97] := by decide +kernel
theorem dX12_mixed_0 : decode cX12_mixed 0 = .ok (.iload_n 1, 1) := dk_1027 (dk_g tcX12_mixed_0 0 rfl)
theorem dX12_mixed_1 : decode cX12_mixed 1 = .ok (.i2l, 1) := dk_1133 (dk_g tcX12_mixed_0 1 rfl)
theorem dX12_mixed_2 : decode cX12_mixed 2 = .ok (.iload_n 1, 1) := dk_1027 (dk_g tcX12_mixed_0 2 rfl)
theorem dX12_mixed_3 : decode cX12_mixed 3 = .ok (.i2l, 1) := dk_1133 (dk_g tcX12_mixed_0 3 rfl)
theorem dX12_mixed_4 : decode cX12_mixed 4 = .ok (.lmul, 1) := dk_1105 (dk_g tcX12_mixed_0 4 rfl)
theorem dX12_mixed_5 : decode cX12_mixed 5 = .ok (.ldc2_w 117, 3) := dk_1020 (dk_g tcX12_mixed_0 5 rfl) (dk_g tcX12_mixed_0 6 rfl) (dk_g tcX12_mixed_0 7 rfl) rfl
theorem dX12_mixed_8 : decode cX12_mixed 8 = .ok (.iload_n 1, 1) := dk_1027 (dk_g tcX12_mixed_0 8 rfl)
theorem dX12_mixed_9 : decode cX12_mixed 9 = .ok (.i2l, 1) := dk_1133 (dk_g tcX12_mixed_0 9 rfl)
theorem dX12_mixed_10 : decode cX12_mixed 10 = .ok (.lmul, 1) := dk_1105 (dk_g tcX12_mixed_0 10 rfl)
theorem dX12_mixed_11 : decode cX12_mixed 11 = .ok (.ladd, 1) := dk_1097 (dk_g tcX12_mixed_0 11 rfl)
theorem tcX12_mixed_1 : (cX12_mixed.data.toList.drop 12).take 12 = [28, 133, 97, 20, 0, 119, 97, 42, 180, 0, 7, 4] := by decide +kernel
theorem dX12_mixed_12 : decode cX12_mixed 12 = .ok (.iload_n 2, 1) := dk_1028 (dk_g tcX12_mixed_1 0 rfl)
theorem dX12_mixed_13 : decode cX12_mixed 13 = .ok (.i2l, 1) := dk_1133 (dk_g tcX12_mixed_1 1 rfl)
theorem dX12_mixed_14 : decode cX12_mixed 14 = .ok (.ladd, 1) := dk_1097 (dk_g tcX12_mixed_1 2 rfl)
theorem dX12_mixed_15 : decode cX12_mixed 15 = .ok (.ldc2_w 119, 3) := dk_1020 (dk_g tcX12_mixed_1 3 rfl) (dk_g tcX12_mixed_1 4 rfl) (dk_g tcX12_mixed_1 5 rfl) rfl
theorem dX12_mixed_18 : decode cX12_mixed 18 = .ok (.ladd, 1) := dk_1097 (dk_g tcX12_mixed_1 6 rfl)
theorem dX12_mixed_19 : decode cX12_mixed 19 = .ok (.aload_n 0, 1) := dk_1042 (dk_g tcX12_mixed_1 7 rfl)
theorem dX12_mixed_20 : decode cX12_mixed 20 = .ok (.getfield 7, 3) := dk_1180 (dk_g tcX12_mixed_1 8 rfl) (dk_g tcX12_mixed_1 9 rfl) (dk_g tcX12_mixed_1 10 rfl) rfl
theorem dX12_mixed_23 : decode cX12_mixed 23 = .ok (.iconst 1, 1) := dk_1004 (dk_g tcX12_mixed_1 11 rfl)
theorem tcX12_mixed_2 : (cX12_mixed.data.toList.drop 24).take 12 = [46, 133, 113, 136, 172] := by decide +kernel
theorem dX12_mixed_24 : decode cX12_mixed 24 = .ok (.iaload, 1) := dk_1046 (dk_g tcX12_mixed_2 0 rfl)
theorem dX12_mixed_25 : decode cX12_mixed 25 = .ok (.i2l, 1) := dk_1133 (dk_g tcX12_mixed_2 1 rfl)
theorem dX12_mixed_26 : decode cX12_mixed 26 = .ok (.lrem, 1) := dk_1113 (dk_g tcX12_mixed_2 2 rfl)
theorem dX12_mixed_27 : decode cX12_mixed 27 = .ok (.l2i, 1) := dk_1136 (dk_g tcX12_mixed_2 3 rfl)
theorem dX12_mixed_28 : decode cX12_mixed 28 = .ok (.ireturn, 1) := dk_1172 (dk_g tcX12_mixed_2 4 rfl)
theorem tcX12_both_0 : (cX12_both.data.toList.drop 0).take 12 = [42, 42, 5, 27, 182, 0, 121, 28, 182, 0, 121, 172] := by decide +kernel
theorem dX12_both_0 : decode cX12_both 0 = .ok (.aload_n 0, 1) := dk_1042 (dk_g tcX12_both_0 0 rfl)
theorem dX12_both_1 : decode cX12_both 1 = .ok (.aload_n 0, 1) := dk_1042 (dk_g tcX12_both_0 1 rfl)
theorem dX12_both_2 : decode cX12_both 2 = .ok (.iconst 2, 1) := dk_1005 (dk_g tcX12_both_0 2 rfl)
theorem dX12_both_3 : decode cX12_both 3 = .ok (.iload_n 1, 1) := dk_1027 (dk_g tcX12_both_0 3 rfl)
theorem dX12_both_4 : decode cX12_both 4 = .ok (.invokevirtual 121, 3) := dk_1182 (dk_g tcX12_both_0 4 rfl) (dk_g tcX12_both_0 5 rfl) (dk_g tcX12_both_0 6 rfl) rfl
theorem dX12_both_7 : decode cX12_both 7 = .ok (.iload_n 2, 1) := dk_1028 (dk_g tcX12_both_0 7 rfl)
theorem dX12_both_8 : decode cX12_both 8 = .ok (.invokevirtual 121, 3) := dk_1182 (dk_g tcX12_both_0 8 rfl) (dk_g tcX12_both_0 9 rfl) (dk_g tcX12_both_0 10 rfl) rfl
theorem dX12_both_11 : decode cX12_both 11 = .ok (.ireturn, 1) := dk_1172 (dk_g tcX12_both_0 11 rfl)
theorem tcX12_entryMark_0 : (cX12_entryMark.data.toList.drop 0).take 12 = [4, 62, 16, 48, 27, 104, 28, 96, 54, 4, 3, 54] := by decide +kernel
theorem dX12_entryMark_0 : decode cX12_entryMark 0 = .ok (.iconst 1, 1) := dk_1004 (dk_g tcX12_entryMark_0 0 rfl)
theorem dX12_entryMark_1 : decode cX12_entryMark 1 = .ok (.istore_n 3, 1) := dk_1062 (dk_g tcX12_entryMark_0 1 rfl)
theorem dX12_entryMark_2 : decode cX12_entryMark 2 = .ok (.bipush 48, 2) := dk_1016 (dk_g tcX12_entryMark_0 2 rfl) (dk_g tcX12_entryMark_0 3 rfl) (by decide +kernel)
theorem dX12_entryMark_4 : decode cX12_entryMark 4 = .ok (.iload_n 1, 1) := dk_1027 (dk_g tcX12_entryMark_0 4 rfl)
theorem dX12_entryMark_5 : decode cX12_entryMark 5 = .ok (.imul, 1) := dk_1104 (dk_g tcX12_entryMark_0 5 rfl)
theorem dX12_entryMark_6 : decode cX12_entryMark 6 = .ok (.iload_n 2, 1) := dk_1028 (dk_g tcX12_entryMark_0 6 rfl)
theorem dX12_entryMark_7 : decode cX12_entryMark 7 = .ok (.iadd, 1) := dk_1096 (dk_g tcX12_entryMark_0 7 rfl)
theorem dX12_entryMark_8 : decode cX12_entryMark 8 = .ok (.istore 4, 2) := dk_1054 (dk_g tcX12_entryMark_0 8 rfl) (dk_g tcX12_entryMark_0 9 rfl) rfl
theorem dX12_entryMark_10 : decode cX12_entryMark 10 = .ok (.iconst 0, 1) := dk_1003 (dk_g tcX12_entryMark_0 10 rfl)
theorem tcX12_entryMark_1 : (cX12_entryMark.data.toList.drop 12).take 12 = [5, 21, 5, 42, 180, 0, 7, 17, 0, 252, 21, 4] := by decide +kernel
theorem dX12_entryMark_11 : decode cX12_entryMark 11 = .ok (.istore 5, 2) := dk_1054 (dk_g tcX12_entryMark_0 11 rfl) (dk_g tcX12_entryMark_1 0 rfl) rfl
theorem dX12_entryMark_13 : decode cX12_entryMark 13 = .ok (.iload 5, 2) := dk_1021 (dk_g tcX12_entryMark_1 1 rfl) (dk_g tcX12_entryMark_1 2 rfl) rfl
theorem dX12_entryMark_15 : decode cX12_entryMark 15 = .ok (.aload_n 0, 1) := dk_1042 (dk_g tcX12_entryMark_1 3 rfl)
theorem dX12_entryMark_16 : decode cX12_entryMark 16 = .ok (.getfield 7, 3) := dk_1180 (dk_g tcX12_entryMark_1 4 rfl) (dk_g tcX12_entryMark_1 5 rfl) (dk_g tcX12_entryMark_1 6 rfl) rfl
theorem dX12_entryMark_19 : decode cX12_entryMark 19 = .ok (.sipush 252, 3) := dk_2017 (dk_g tcX12_entryMark_1 7 rfl) (dk_g tcX12_entryMark_1 8 rfl) (dk_g tcX12_entryMark_1 9 rfl) rfl rfl
theorem dX12_entryMark_22 : decode cX12_entryMark 22 = .ok (.iload 4, 2) := dk_1021 (dk_g tcX12_entryMark_1 10 rfl) (dk_g tcX12_entryMark_1 11 rfl) rfl
theorem tcX12_entryMark_2 : (cX12_entryMark.data.toList.drop 24).take 12 = [96, 46, 162, 0, 32, 42, 29, 42, 180, 0, 7, 17] := by decide +kernel
theorem dX12_entryMark_24 : decode cX12_entryMark 24 = .ok (.iadd, 1) := dk_1096 (dk_g tcX12_entryMark_2 0 rfl)
theorem dX12_entryMark_25 : decode cX12_entryMark 25 = .ok (.iaload, 1) := dk_1046 (dk_g tcX12_entryMark_2 1 rfl)
theorem dX12_entryMark_26 : decode cX12_entryMark 26 = .ok (.if_icmp .ge 32, 3) := dk_2162 (dk_g tcX12_entryMark_2 2 rfl) (dk_g tcX12_entryMark_2 3 rfl) (dk_g tcX12_entryMark_2 4 rfl) rfl rfl
theorem dX12_entryMark_29 : decode cX12_entryMark 29 = .ok (.aload_n 0, 1) := dk_1042 (dk_g tcX12_entryMark_2 5 rfl)
theorem dX12_entryMark_30 : decode cX12_entryMark 30 = .ok (.iload_n 3, 1) := dk_1029 (dk_g tcX12_entryMark_2 6 rfl)
theorem dX12_entryMark_31 : decode cX12_entryMark 31 = .ok (.aload_n 0, 1) := dk_1042 (dk_g tcX12_entryMark_2 7 rfl)
theorem dX12_entryMark_32 : decode cX12_entryMark 32 = .ok (.getfield 7, 3) := dk_1180 (dk_g tcX12_entryMark_2 8 rfl) (dk_g tcX12_entryMark_2 9 rfl) (dk_g tcX12_entryMark_2 10 rfl) rfl
theorem tcX12_entryMark_3 : (cX12_entryMark.data.toList.drop 36).take 12 = [1, 188, 16, 8, 21, 4, 104, 96, 21, 5, 96, 46] := by decide +kernel
theorem dX12_entryMark_35 : decode cX12_entryMark 35 = .ok (.sipush 444, 3) := dk_2017 (dk_g tcX12_entryMark_2 11 rfl) (dk_g tcX12_entryMark_3 0 rfl) (dk_g tcX12_entryMark_3 1 rfl) rfl rfl
theorem dX12_entryMark_38 : decode cX12_entryMark 38 = .ok (.bipush 8, 2) := dk_1016 (dk_g tcX12_entryMark_3 2 rfl) (dk_g tcX12_entryMark_3 3 rfl) (by decide +kernel)
theorem dX12_entryMark_40 : decode cX12_entryMark 40 = .ok (.iload 4, 2) := dk_1021 (dk_g tcX12_entryMark_3 4 rfl) (dk_g tcX12_entryMark_3 5 rfl) rfl
theorem dX12_entryMark_42 : decode cX12_entryMark 42 = .ok (.imul, 1) := dk_1104 (dk_g tcX12_entryMark_3 6 rfl)
theorem dX12_entryMark_43 : decode cX12_entryMark 43 = .ok (.iadd, 1) := dk_1096 (dk_g tcX12_entryMark_3 7 rfl)
theorem dX12_entryMark_44 : decode cX12_entryMark 44 = .ok (.iload 5, 2) := dk_1021 (dk_g tcX12_entryMark_3 8 rfl) (dk_g tcX12_entryMark_3 9 rfl) rfl
theorem dX12_entryMark_46 : decode cX12_entryMark 46 = .ok (.iadd, 1) := dk_1096 (dk_g tcX12_entryMark_3 10 rfl)
theorem dX12_entryMark_47 : decode cX12_entryMark 47 = .ok (.iaload, 1) := dk_1046 (dk_g tcX12_entryMark_3 11 rfl)
theorem tcX12_entryMark_4 : (cX12_entryMark.data.toList.drop 48).take 12 = [182, 0, 121, 62, 132, 5, 1, 167, 255, 214, 29, 172] := by decide +kernel
theorem dX12_entryMark_48 : decode cX12_entryMark 48 = .ok (.invokevirtual 121, 3) := dk_1182 (dk_g tcX12_entryMark_4 0 rfl) (dk_g tcX12_entryMark_4 1 rfl) (dk_g tcX12_entryMark_4 2 rfl) rfl
theorem dX12_entryMark_51 : decode cX12_entryMark 51 = .ok (.istore_n 3, 1) := dk_1062 (dk_g tcX12_entryMark_4 3 rfl)
theorem dX12_entryMark_52 : decode cX12_entryMark 52 = .ok (.iinc 5 1, 3) := dk_1132 (dk_g tcX12_entryMark_4 4 rfl) (dk_g tcX12_entryMark_4 5 rfl) (dk_g tcX12_entryMark_4 6 rfl) rfl (by decide +kernel)
theorem dX12_entryMark_55 : decode cX12_entryMark 55 = .ok (.goto (-42), 3) := dk_1167 (dk_g tcX12_entryMark_4 7 rfl) (dk_g tcX12_entryMark_4 8 rfl) (dk_g tcX12_entryMark_4 9 rfl) (by decide +kernel)
theorem dX12_entryMark_58 : decode cX12_entryMark 58 = .ok (.iload_n 3, 1) := dk_1029 (dk_g tcX12_entryMark_4 10 rfl)
theorem dX12_entryMark_59 : decode cX12_entryMark 59 = .ok (.ireturn, 1) := dk_1172 (dk_g tcX12_entryMark_4 11 rfl)
theorem tcX12_part0_0 : (cX12_part0.data.toList.drop 0).take 12 = [4, 60, 27, 26, 27, 100, 162, 0, 10, 27, 27, 96] := by decide +kernel
theorem dX12_part0_0 : decode cX12_part0 0 = .ok (.iconst 1, 1) := dk_1004 (dk_g tcX12_part0_0 0 rfl)
theorem dX12_part0_1 : decode cX12_part0 1 = .ok (.istore_n 1, 1) := dk_1060 (dk_g tcX12_part0_0 1 rfl)
theorem dX12_part0_2 : decode cX12_part0 2 = .ok (.iload_n 1, 1) := dk_1027 (dk_g tcX12_part0_0 2 rfl)
theorem dX12_part0_3 : decode cX12_part0 3 = .ok (.iload_n 0, 1) := dk_1026 (dk_g tcX12_part0_0 3 rfl)
theorem dX12_part0_4 : decode cX12_part0 4 = .ok (.iload_n 1, 1) := dk_1027 (dk_g tcX12_part0_0 4 rfl)
theorem dX12_part0_5 : decode cX12_part0 5 = .ok (.isub, 1) := dk_1100 (dk_g tcX12_part0_0 5 rfl)
theorem dX12_part0_6 : decode cX12_part0 6 = .ok (.if_icmp .ge 10, 3) := dk_2162 (dk_g tcX12_part0_0 6 rfl) (dk_g tcX12_part0_0 7 rfl) (dk_g tcX12_part0_0 8 rfl) rfl rfl
theorem dX12_part0_9 : decode cX12_part0 9 = .ok (.iload_n 1, 1) := dk_1027 (dk_g tcX12_part0_0 9 rfl)
theorem dX12_part0_10 : decode cX12_part0 10 = .ok (.iload_n 1, 1) := dk_1027 (dk_g tcX12_part0_0 10 rfl)
theorem dX12_part0_11 : decode cX12_part0 11 = .ok (.iadd, 1) := dk_1096 (dk_g tcX12_part0_0 11 rfl)
theorem tcX12_part0_1 : (cX12_part0.data.toList.drop 12).take 12 = [60, 167, 255, 245, 27, 172] := by decide +kernel
theorem dX12_part0_12 : decode cX12_part0 12 = .ok (.istore_n 1, 1) := dk_1060 (dk_g tcX12_part0_1 0 rfl)
theorem dX12_part0_13 : decode cX12_part0 13 = .ok (.goto (-11), 3) := dk_1167 (dk_g tcX12_part0_1 1 rfl) (dk_g tcX12_part0_1 2 rfl) (dk_g tcX12_part0_1 3 rfl) (by decide +kernel)
theorem dX12_part0_16 : decode cX12_part0 16 = .ok (.iload_n 1, 1) := dk_1027 (dk_g tcX12_part0_1 4 rfl)
theorem dX12_part0_17 : decode cX12_part0 17 = .ok (.ireturn, 1) := dk_1172 (dk_g tcX12_part0_1 5 rfl)
theorem tcX12_treeMark_0 : (cX12_treeMark.data.toList.drop 0).take 12 = [29, 154, 0, 5, 3, 172, 29, 4, 160, 0, 10, 42] := by decide +kernel
theorem dX12_treeMark_0 : decode cX12_treeMark 0 = .ok (.iload_n 3, 1) := dk_1029 (dk_g tcX12_treeMark_0 0 rfl)
theorem dX12_treeMark_1 : decode cX12_treeMark 1 = .ok (.ifCond .ne 5, 3) := dk_2154 (dk_g tcX12_treeMark_0 1 rfl) (dk_g tcX12_treeMark_0 2 rfl) (dk_g tcX12_treeMark_0 3 rfl) rfl rfl
theorem dX12_treeMark_4 : decode cX12_treeMark 4 = .ok (.iconst 0, 1) := dk_1003 (dk_g tcX12_treeMark_0 4 rfl)
theorem dX12_treeMark_5 : decode cX12_treeMark 5 = .ok (.ireturn, 1) := dk_1172 (dk_g tcX12_treeMark_0 5 rfl)
theorem dX12_treeMark_6 : decode cX12_treeMark 6 = .ok (.iload_n 3, 1) := dk_1029 (dk_g tcX12_treeMark_0 6 rfl)
theorem dX12_treeMark_7 : decode cX12_treeMark 7 = .ok (.iconst 1, 1) := dk_1004 (dk_g tcX12_treeMark_0 7 rfl)
theorem dX12_treeMark_8 : decode cX12_treeMark 8 = .ok (.if_icmp .ne 10, 3) := dk_2160 (dk_g tcX12_treeMark_0 8 rfl) (dk_g tcX12_treeMark_0 9 rfl) (dk_g tcX12_treeMark_0 10 rfl) rfl rfl
theorem dX12_treeMark_11 : decode cX12_treeMark 11 = .ok (.aload_n 0, 1) := dk_1042 (dk_g tcX12_treeMark_0 11 rfl)
theorem tcX12_treeMark_1 : (cX12_treeMark.data.toList.drop 12).take 12 = [27, 28, 182, 0, 125, 172, 29, 184, 0, 128, 54, 4] := by decide +kernel
theorem dX12_treeMark_12 : decode cX12_treeMark 12 = .ok (.iload_n 1, 1) := dk_1027 (dk_g tcX12_treeMark_1 0 rfl)
theorem dX12_treeMark_13 : decode cX12_treeMark 13 = .ok (.iload_n 2, 1) := dk_1028 (dk_g tcX12_treeMark_1 1 rfl)
theorem dX12_treeMark_14 : decode cX12_treeMark 14 = .ok (.invokevirtual 125, 3) := dk_1182 (dk_g tcX12_treeMark_1 2 rfl) (dk_g tcX12_treeMark_1 3 rfl) (dk_g tcX12_treeMark_1 4 rfl) rfl
theorem dX12_treeMark_17 : decode cX12_treeMark 17 = .ok (.ireturn, 1) := dk_1172 (dk_g tcX12_treeMark_1 5 rfl)
theorem dX12_treeMark_18 : decode cX12_treeMark 18 = .ok (.iload_n 3, 1) := dk_1029 (dk_g tcX12_treeMark_1 6 rfl)
theorem dX12_treeMark_19 : decode cX12_treeMark 19 = .ok (.invokestatic 128, 3) := dk_1184 (dk_g tcX12_treeMark_1 7 rfl) (dk_g tcX12_treeMark_1 8 rfl) (dk_g tcX12_treeMark_1 9 rfl) rfl
theorem dX12_treeMark_22 : decode cX12_treeMark 22 = .ok (.istore 4, 2) := dk_1054 (dk_g tcX12_treeMark_1 10 rfl) (dk_g tcX12_treeMark_1 11 rfl) rfl
theorem tcX12_treeMark_2 : (cX12_treeMark.data.toList.drop 24).take 12 = [42, 42, 27, 28, 21, 4, 182, 0, 132, 42, 27, 28] := by decide +kernel
theorem dX12_treeMark_24 : decode cX12_treeMark 24 = .ok (.aload_n 0, 1) := dk_1042 (dk_g tcX12_treeMark_2 0 rfl)
theorem dX12_treeMark_25 : decode cX12_treeMark 25 = .ok (.aload_n 0, 1) := dk_1042 (dk_g tcX12_treeMark_2 1 rfl)
theorem dX12_treeMark_26 : decode cX12_treeMark 26 = .ok (.iload_n 1, 1) := dk_1027 (dk_g tcX12_treeMark_2 2 rfl)
theorem dX12_treeMark_27 : decode cX12_treeMark 27 = .ok (.iload_n 2, 1) := dk_1028 (dk_g tcX12_treeMark_2 3 rfl)
theorem dX12_treeMark_28 : decode cX12_treeMark 28 = .ok (.iload 4, 2) := dk_1021 (dk_g tcX12_treeMark_2 4 rfl) (dk_g tcX12_treeMark_2 5 rfl) rfl
theorem dX12_treeMark_30 : decode cX12_treeMark 30 = .ok (.invokevirtual 132, 3) := dk_1182 (dk_g tcX12_treeMark_2 6 rfl) (dk_g tcX12_treeMark_2 7 rfl) (dk_g tcX12_treeMark_2 8 rfl) rfl
theorem dX12_treeMark_33 : decode cX12_treeMark 33 = .ok (.aload_n 0, 1) := dk_1042 (dk_g tcX12_treeMark_2 9 rfl)
theorem dX12_treeMark_34 : decode cX12_treeMark 34 = .ok (.iload_n 1, 1) := dk_1027 (dk_g tcX12_treeMark_2 10 rfl)
theorem dX12_treeMark_35 : decode cX12_treeMark 35 = .ok (.iload_n 2, 1) := dk_1028 (dk_g tcX12_treeMark_2 11 rfl)
theorem tcX12_treeMark_3 : (cX12_treeMark.data.toList.drop 36).take 12 = [21, 4, 96, 29, 21, 4, 100, 182, 0, 132, 182, 0] := by decide +kernel
theorem dX12_treeMark_36 : decode cX12_treeMark 36 = .ok (.iload 4, 2) := dk_1021 (dk_g tcX12_treeMark_3 0 rfl) (dk_g tcX12_treeMark_3 1 rfl) rfl
theorem dX12_treeMark_38 : decode cX12_treeMark 38 = .ok (.iadd, 1) := dk_1096 (dk_g tcX12_treeMark_3 2 rfl)
theorem dX12_treeMark_39 : decode cX12_treeMark 39 = .ok (.iload_n 3, 1) := dk_1029 (dk_g tcX12_treeMark_3 3 rfl)
theorem dX12_treeMark_40 : decode cX12_treeMark 40 = .ok (.iload 4, 2) := dk_1021 (dk_g tcX12_treeMark_3 4 rfl) (dk_g tcX12_treeMark_3 5 rfl) rfl
theorem dX12_treeMark_42 : decode cX12_treeMark 42 = .ok (.isub, 1) := dk_1100 (dk_g tcX12_treeMark_3 6 rfl)
theorem dX12_treeMark_43 : decode cX12_treeMark 43 = .ok (.invokevirtual 132, 3) := dk_1182 (dk_g tcX12_treeMark_3 7 rfl) (dk_g tcX12_treeMark_3 8 rfl) (dk_g tcX12_treeMark_3 9 rfl) rfl
theorem tcX12_treeMark_4 : (cX12_treeMark.data.toList.drop 48).take 12 = [136, 172] := by decide +kernel
theorem dX12_treeMark_46 : decode cX12_treeMark 46 = .ok (.invokevirtual 136, 3) := dk_1182 (dk_g tcX12_treeMark_3 10 rfl) (dk_g tcX12_treeMark_3 11 rfl) (dk_g tcX12_treeMark_4 0 rfl) rfl
theorem dX12_treeMark_49 : decode cX12_treeMark 49 = .ok (.ireturn, 1) := dk_1172 (dk_g tcX12_treeMark_4 1 rfl)
theorem tcX12_headOf_0 : (cX12_headOf.data.toList.drop 0).take 12 = [42, 27, 3, 28, 182, 0, 132, 172] := by decide +kernel
theorem dX12_headOf_0 : decode cX12_headOf 0 = .ok (.aload_n 0, 1) := dk_1042 (dk_g tcX12_headOf_0 0 rfl)
theorem dX12_headOf_1 : decode cX12_headOf 1 = .ok (.iload_n 1, 1) := dk_1027 (dk_g tcX12_headOf_0 1 rfl)
theorem dX12_headOf_2 : decode cX12_headOf 2 = .ok (.iconst 0, 1) := dk_1003 (dk_g tcX12_headOf_0 2 rfl)
theorem dX12_headOf_3 : decode cX12_headOf 3 = .ok (.iload_n 2, 1) := dk_1028 (dk_g tcX12_headOf_0 3 rfl)
theorem dX12_headOf_4 : decode cX12_headOf 4 = .ok (.invokevirtual 132, 3) := dk_1182 (dk_g tcX12_headOf_0 4 rfl) (dk_g tcX12_headOf_0 5 rfl) (dk_g tcX12_headOf_0 6 rfl) rfl
theorem dX12_headOf_7 : decode cX12_headOf 7 = .ok (.ireturn, 1) := dk_1172 (dk_g tcX12_headOf_0 7 rfl)
theorem tcX12_asks_0 : (cX12_asks.data.toList.drop 0).take 12 = [42, 180, 0, 16, 42, 180, 0, 139, 27, 79, 42, 180] := by decide +kernel
theorem dX12_asks_0 : decode cX12_asks 0 = .ok (.aload_n 0, 1) := dk_1042 (dk_g tcX12_asks_0 0 rfl)
theorem dX12_asks_1 : decode cX12_asks 1 = .ok (.getfield 16, 3) := dk_1180 (dk_g tcX12_asks_0 1 rfl) (dk_g tcX12_asks_0 2 rfl) (dk_g tcX12_asks_0 3 rfl) rfl
theorem dX12_asks_4 : decode cX12_asks 4 = .ok (.aload_n 0, 1) := dk_1042 (dk_g tcX12_asks_0 4 rfl)
theorem dX12_asks_5 : decode cX12_asks 5 = .ok (.getfield 139, 3) := dk_1180 (dk_g tcX12_asks_0 5 rfl) (dk_g tcX12_asks_0 6 rfl) (dk_g tcX12_asks_0 7 rfl) rfl
theorem dX12_asks_8 : decode cX12_asks 8 = .ok (.iload_n 1, 1) := dk_1027 (dk_g tcX12_asks_0 8 rfl)
theorem dX12_asks_9 : decode cX12_asks 9 = .ok (.iastore, 1) := dk_1079 (dk_g tcX12_asks_0 9 rfl)
theorem dX12_asks_10 : decode cX12_asks 10 = .ok (.aload_n 0, 1) := dk_1042 (dk_g tcX12_asks_0 10 rfl)
theorem tcX12_asks_1 : (cX12_asks.data.toList.drop 12).take 12 = [0, 19, 42, 180, 0, 139, 28, 79, 42, 89, 180, 0] := by decide +kernel
theorem dX12_asks_11 : decode cX12_asks 11 = .ok (.getfield 19, 3) := dk_1180 (dk_g tcX12_asks_0 11 rfl) (dk_g tcX12_asks_1 0 rfl) (dk_g tcX12_asks_1 1 rfl) rfl
theorem dX12_asks_14 : decode cX12_asks 14 = .ok (.aload_n 0, 1) := dk_1042 (dk_g tcX12_asks_1 2 rfl)
theorem dX12_asks_15 : decode cX12_asks 15 = .ok (.getfield 139, 3) := dk_1180 (dk_g tcX12_asks_1 3 rfl) (dk_g tcX12_asks_1 4 rfl) (dk_g tcX12_asks_1 5 rfl) rfl
theorem dX12_asks_18 : decode cX12_asks 18 = .ok (.iload_n 2, 1) := dk_1028 (dk_g tcX12_asks_1 6 rfl)
theorem dX12_asks_19 : decode cX12_asks 19 = .ok (.iastore, 1) := dk_1079 (dk_g tcX12_asks_1 7 rfl)
theorem dX12_asks_20 : decode cX12_asks 20 = .ok (.aload_n 0, 1) := dk_1042 (dk_g tcX12_asks_1 8 rfl)
theorem dX12_asks_21 : decode cX12_asks 21 = .ok (.dup, 1) := dk_1089 (dk_g tcX12_asks_1 9 rfl)
theorem tcX12_asks_2 : (cX12_asks.data.toList.drop 24).take 12 = [139, 4, 96, 181, 0, 139, 177] := by decide +kernel
theorem dX12_asks_22 : decode cX12_asks 22 = .ok (.getfield 139, 3) := dk_1180 (dk_g tcX12_asks_1 10 rfl) (dk_g tcX12_asks_1 11 rfl) (dk_g tcX12_asks_2 0 rfl) rfl
theorem dX12_asks_25 : decode cX12_asks 25 = .ok (.iconst 1, 1) := dk_1004 (dk_g tcX12_asks_2 1 rfl)
theorem dX12_asks_26 : decode cX12_asks 26 = .ok (.iadd, 1) := dk_1096 (dk_g tcX12_asks_2 2 rfl)
theorem dX12_asks_27 : decode cX12_asks 27 = .ok (.putfield 139, 3) := dk_1181 (dk_g tcX12_asks_2 3 rfl) (dk_g tcX12_asks_2 4 rfl) (dk_g tcX12_asks_2 5 rfl) rfl
theorem dX12_asks_30 : decode cX12_asks 30 = .ok (.return_, 1) := dk_1177 (dk_g tcX12_asks_2 6 rfl)
theorem tcX12_waysIn_0 : (cX12_waysIn.data.toList.drop 0).take 12 = [29, 4, 160, 0, 4, 177, 29, 184, 0, 128, 54, 4] := by decide +kernel
theorem dX12_waysIn_0 : decode cX12_waysIn 0 = .ok (.iload_n 3, 1) := dk_1029 (dk_g tcX12_waysIn_0 0 rfl)
theorem dX12_waysIn_1 : decode cX12_waysIn 1 = .ok (.iconst 1, 1) := dk_1004 (dk_g tcX12_waysIn_0 1 rfl)
theorem dX12_waysIn_2 : decode cX12_waysIn 2 = .ok (.if_icmp .ne 4, 3) := dk_2160 (dk_g tcX12_waysIn_0 2 rfl) (dk_g tcX12_waysIn_0 3 rfl) (dk_g tcX12_waysIn_0 4 rfl) rfl rfl
theorem dX12_waysIn_5 : decode cX12_waysIn 5 = .ok (.return_, 1) := dk_1177 (dk_g tcX12_waysIn_0 5 rfl)
theorem dX12_waysIn_6 : decode cX12_waysIn 6 = .ok (.iload_n 3, 1) := dk_1029 (dk_g tcX12_waysIn_0 6 rfl)
theorem dX12_waysIn_7 : decode cX12_waysIn 7 = .ok (.invokestatic 128, 3) := dk_1184 (dk_g tcX12_waysIn_0 7 rfl) (dk_g tcX12_waysIn_0 8 rfl) (dk_g tcX12_waysIn_0 9 rfl) rfl
theorem dX12_waysIn_10 : decode cX12_waysIn 10 = .ok (.istore 4, 2) := dk_1054 (dk_g tcX12_waysIn_0 10 rfl) (dk_g tcX12_waysIn_0 11 rfl) rfl
theorem tcX12_waysIn_1 : (cX12_waysIn.data.toList.drop 12).take 12 = [28, 21, 4, 162, 0, 26, 42, 27, 28, 21, 4, 182] := by decide +kernel
theorem dX12_waysIn_12 : decode cX12_waysIn 12 = .ok (.iload_n 2, 1) := dk_1028 (dk_g tcX12_waysIn_1 0 rfl)
theorem dX12_waysIn_13 : decode cX12_waysIn 13 = .ok (.iload 4, 2) := dk_1021 (dk_g tcX12_waysIn_1 1 rfl) (dk_g tcX12_waysIn_1 2 rfl) rfl
theorem dX12_waysIn_15 : decode cX12_waysIn 15 = .ok (.if_icmp .ge 26, 3) := dk_2162 (dk_g tcX12_waysIn_1 3 rfl) (dk_g tcX12_waysIn_1 4 rfl) (dk_g tcX12_waysIn_1 5 rfl) rfl rfl
theorem dX12_waysIn_18 : decode cX12_waysIn 18 = .ok (.aload_n 0, 1) := dk_1042 (dk_g tcX12_waysIn_1 6 rfl)
theorem dX12_waysIn_19 : decode cX12_waysIn 19 = .ok (.iload_n 1, 1) := dk_1027 (dk_g tcX12_waysIn_1 7 rfl)
theorem dX12_waysIn_20 : decode cX12_waysIn 20 = .ok (.iload_n 2, 1) := dk_1028 (dk_g tcX12_waysIn_1 8 rfl)
theorem dX12_waysIn_21 : decode cX12_waysIn 21 = .ok (.iload 4, 2) := dk_1021 (dk_g tcX12_waysIn_1 9 rfl) (dk_g tcX12_waysIn_1 10 rfl) rfl
theorem tcX12_waysIn_2 : (cX12_waysIn.data.toList.drop 24).take 12 = [0, 142, 42, 27, 21, 4, 96, 29, 21, 4, 100, 182] := by decide +kernel
theorem dX12_waysIn_23 : decode cX12_waysIn 23 = .ok (.invokevirtual 142, 3) := dk_1182 (dk_g tcX12_waysIn_1 11 rfl) (dk_g tcX12_waysIn_2 0 rfl) (dk_g tcX12_waysIn_2 1 rfl) rfl
theorem dX12_waysIn_26 : decode cX12_waysIn 26 = .ok (.aload_n 0, 1) := dk_1042 (dk_g tcX12_waysIn_2 2 rfl)
theorem dX12_waysIn_27 : decode cX12_waysIn 27 = .ok (.iload_n 1, 1) := dk_1027 (dk_g tcX12_waysIn_2 3 rfl)
theorem dX12_waysIn_28 : decode cX12_waysIn 28 = .ok (.iload 4, 2) := dk_1021 (dk_g tcX12_waysIn_2 4 rfl) (dk_g tcX12_waysIn_2 5 rfl) rfl
theorem dX12_waysIn_30 : decode cX12_waysIn 30 = .ok (.iadd, 1) := dk_1096 (dk_g tcX12_waysIn_2 6 rfl)
theorem dX12_waysIn_31 : decode cX12_waysIn 31 = .ok (.iload_n 3, 1) := dk_1029 (dk_g tcX12_waysIn_2 7 rfl)
theorem dX12_waysIn_32 : decode cX12_waysIn 32 = .ok (.iload 4, 2) := dk_1021 (dk_g tcX12_waysIn_2 8 rfl) (dk_g tcX12_waysIn_2 9 rfl) rfl
theorem dX12_waysIn_34 : decode cX12_waysIn 34 = .ok (.isub, 1) := dk_1100 (dk_g tcX12_waysIn_2 10 rfl)
theorem tcX12_waysIn_3 : (cX12_waysIn.data.toList.drop 36).take 12 = [0, 146, 167, 0, 26, 42, 27, 21, 4, 96, 28, 21] := by decide +kernel
theorem dX12_waysIn_35 : decode cX12_waysIn 35 = .ok (.invokevirtual 146, 3) := dk_1182 (dk_g tcX12_waysIn_2 11 rfl) (dk_g tcX12_waysIn_3 0 rfl) (dk_g tcX12_waysIn_3 1 rfl) rfl
theorem dX12_waysIn_38 : decode cX12_waysIn 38 = .ok (.goto 26, 3) := dk_2167 (dk_g tcX12_waysIn_3 2 rfl) (dk_g tcX12_waysIn_3 3 rfl) (dk_g tcX12_waysIn_3 4 rfl) rfl rfl
theorem dX12_waysIn_41 : decode cX12_waysIn 41 = .ok (.aload_n 0, 1) := dk_1042 (dk_g tcX12_waysIn_3 5 rfl)
theorem dX12_waysIn_42 : decode cX12_waysIn 42 = .ok (.iload_n 1, 1) := dk_1027 (dk_g tcX12_waysIn_3 6 rfl)
theorem dX12_waysIn_43 : decode cX12_waysIn 43 = .ok (.iload 4, 2) := dk_1021 (dk_g tcX12_waysIn_3 7 rfl) (dk_g tcX12_waysIn_3 8 rfl) rfl
theorem dX12_waysIn_45 : decode cX12_waysIn 45 = .ok (.iadd, 1) := dk_1096 (dk_g tcX12_waysIn_3 9 rfl)
theorem dX12_waysIn_46 : decode cX12_waysIn 46 = .ok (.iload_n 2, 1) := dk_1028 (dk_g tcX12_waysIn_3 10 rfl)
theorem tcX12_waysIn_4 : (cX12_waysIn.data.toList.drop 48).take 12 = [4, 100, 29, 21, 4, 100, 182, 0, 142, 42, 27, 21] := by decide +kernel
theorem dX12_waysIn_47 : decode cX12_waysIn 47 = .ok (.iload 4, 2) := dk_1021 (dk_g tcX12_waysIn_3 11 rfl) (dk_g tcX12_waysIn_4 0 rfl) rfl
theorem dX12_waysIn_49 : decode cX12_waysIn 49 = .ok (.isub, 1) := dk_1100 (dk_g tcX12_waysIn_4 1 rfl)
theorem dX12_waysIn_50 : decode cX12_waysIn 50 = .ok (.iload_n 3, 1) := dk_1029 (dk_g tcX12_waysIn_4 2 rfl)
theorem dX12_waysIn_51 : decode cX12_waysIn 51 = .ok (.iload 4, 2) := dk_1021 (dk_g tcX12_waysIn_4 3 rfl) (dk_g tcX12_waysIn_4 4 rfl) rfl
theorem dX12_waysIn_53 : decode cX12_waysIn 53 = .ok (.isub, 1) := dk_1100 (dk_g tcX12_waysIn_4 5 rfl)
theorem dX12_waysIn_54 : decode cX12_waysIn 54 = .ok (.invokevirtual 142, 3) := dk_1182 (dk_g tcX12_waysIn_4 6 rfl) (dk_g tcX12_waysIn_4 7 rfl) (dk_g tcX12_waysIn_4 8 rfl) rfl
theorem dX12_waysIn_57 : decode cX12_waysIn 57 = .ok (.aload_n 0, 1) := dk_1042 (dk_g tcX12_waysIn_4 9 rfl)
theorem dX12_waysIn_58 : decode cX12_waysIn 58 = .ok (.iload_n 1, 1) := dk_1027 (dk_g tcX12_waysIn_4 10 rfl)
theorem tcX12_waysIn_5 : (cX12_waysIn.data.toList.drop 60).take 12 = [4, 182, 0, 146, 177] := by decide +kernel
theorem dX12_waysIn_59 : decode cX12_waysIn 59 = .ok (.iload 4, 2) := dk_1021 (dk_g tcX12_waysIn_4 11 rfl) (dk_g tcX12_waysIn_5 0 rfl) rfl
theorem dX12_waysIn_61 : decode cX12_waysIn 61 = .ok (.invokevirtual 146, 3) := dk_1182 (dk_g tcX12_waysIn_5 1 rfl) (dk_g tcX12_waysIn_5 2 rfl) (dk_g tcX12_waysIn_5 3 rfl) rfl
theorem dX12_waysIn_64 : decode cX12_waysIn 64 = .ok (.return_, 1) := dk_1177 (dk_g tcX12_waysIn_5 4 rfl)
theorem tcX12_inclusion_0 : (cX12_inclusion.data.toList.drop 0).take 12 = [42, 3, 181, 0, 139, 42, 3, 27, 28, 182, 0, 142] := by decide +kernel
theorem dX12_inclusion_0 : decode cX12_inclusion 0 = .ok (.aload_n 0, 1) := dk_1042 (dk_g tcX12_inclusion_0 0 rfl)
theorem dX12_inclusion_1 : decode cX12_inclusion 1 = .ok (.iconst 0, 1) := dk_1003 (dk_g tcX12_inclusion_0 1 rfl)
theorem dX12_inclusion_2 : decode cX12_inclusion 2 = .ok (.putfield 139, 3) := dk_1181 (dk_g tcX12_inclusion_0 2 rfl) (dk_g tcX12_inclusion_0 3 rfl) (dk_g tcX12_inclusion_0 4 rfl) rfl
theorem dX12_inclusion_5 : decode cX12_inclusion 5 = .ok (.aload_n 0, 1) := dk_1042 (dk_g tcX12_inclusion_0 5 rfl)
theorem dX12_inclusion_6 : decode cX12_inclusion 6 = .ok (.iconst 0, 1) := dk_1003 (dk_g tcX12_inclusion_0 6 rfl)
theorem dX12_inclusion_7 : decode cX12_inclusion 7 = .ok (.iload_n 1, 1) := dk_1027 (dk_g tcX12_inclusion_0 7 rfl)
theorem dX12_inclusion_8 : decode cX12_inclusion 8 = .ok (.iload_n 2, 1) := dk_1028 (dk_g tcX12_inclusion_0 8 rfl)
theorem dX12_inclusion_9 : decode cX12_inclusion 9 = .ok (.invokevirtual 142, 3) := dk_1182 (dk_g tcX12_inclusion_0 9 rfl) (dk_g tcX12_inclusion_0 10 rfl) (dk_g tcX12_inclusion_0 11 rfl) rfl
theorem tcX12_inclusion_1 : (cX12_inclusion.data.toList.drop 12).take 12 = [177] := by decide +kernel
theorem dX12_inclusion_12 : decode cX12_inclusion 12 = .ok (.return_, 1) := dk_1177 (dk_g tcX12_inclusion_1 0 rfl)
theorem tcX12_growsIn_0 : (cX12_growsIn.data.toList.drop 0).take 12 = [28, 29, 160, 0, 15, 21, 4, 154, 0, 9, 42, 27] := by decide +kernel
theorem dX12_growsIn_0 : decode cX12_growsIn 0 = .ok (.iload_n 2, 1) := dk_1028 (dk_g tcX12_growsIn_0 0 rfl)
theorem dX12_growsIn_1 : decode cX12_growsIn 1 = .ok (.iload_n 3, 1) := dk_1029 (dk_g tcX12_growsIn_0 1 rfl)
theorem dX12_growsIn_2 : decode cX12_growsIn 2 = .ok (.if_icmp .ne 15, 3) := dk_2160 (dk_g tcX12_growsIn_0 2 rfl) (dk_g tcX12_growsIn_0 3 rfl) (dk_g tcX12_growsIn_0 4 rfl) rfl rfl
theorem dX12_growsIn_5 : decode cX12_growsIn 5 = .ok (.iload 4, 2) := dk_1021 (dk_g tcX12_growsIn_0 5 rfl) (dk_g tcX12_growsIn_0 6 rfl) rfl
theorem dX12_growsIn_7 : decode cX12_growsIn 7 = .ok (.ifCond .ne 9, 3) := dk_2154 (dk_g tcX12_growsIn_0 7 rfl) (dk_g tcX12_growsIn_0 8 rfl) (dk_g tcX12_growsIn_0 9 rfl) rfl rfl
theorem dX12_growsIn_10 : decode cX12_growsIn 10 = .ok (.aload_n 0, 1) := dk_1042 (dk_g tcX12_growsIn_0 10 rfl)
theorem dX12_growsIn_11 : decode cX12_growsIn 11 = .ok (.iload_n 1, 1) := dk_1027 (dk_g tcX12_growsIn_0 11 rfl)
theorem tcX12_growsIn_1 : (cX12_growsIn.data.toList.drop 12).take 12 = [29, 182, 0, 146, 177, 29, 184, 0, 128, 54, 5, 28] := by decide +kernel
theorem dX12_growsIn_12 : decode cX12_growsIn 12 = .ok (.iload_n 3, 1) := dk_1029 (dk_g tcX12_growsIn_1 0 rfl)
theorem dX12_growsIn_13 : decode cX12_growsIn 13 = .ok (.invokevirtual 146, 3) := dk_1182 (dk_g tcX12_growsIn_1 1 rfl) (dk_g tcX12_growsIn_1 2 rfl) (dk_g tcX12_growsIn_1 3 rfl) rfl
theorem dX12_growsIn_16 : decode cX12_growsIn 16 = .ok (.return_, 1) := dk_1177 (dk_g tcX12_growsIn_1 4 rfl)
theorem dX12_growsIn_17 : decode cX12_growsIn 17 = .ok (.iload_n 3, 1) := dk_1029 (dk_g tcX12_growsIn_1 5 rfl)
theorem dX12_growsIn_18 : decode cX12_growsIn 18 = .ok (.invokestatic 128, 3) := dk_1184 (dk_g tcX12_growsIn_1 6 rfl) (dk_g tcX12_growsIn_1 7 rfl) (dk_g tcX12_growsIn_1 8 rfl) rfl
theorem dX12_growsIn_21 : decode cX12_growsIn 21 = .ok (.istore 5, 2) := dk_1054 (dk_g tcX12_growsIn_1 9 rfl) (dk_g tcX12_growsIn_1 10 rfl) rfl
theorem dX12_growsIn_23 : decode cX12_growsIn 23 = .ok (.iload_n 2, 1) := dk_1028 (dk_g tcX12_growsIn_1 11 rfl)
theorem tcX12_growsIn_2 : (cX12_growsIn.data.toList.drop 24).take 12 = [21, 5, 163, 0, 28, 42, 27, 28, 21, 5, 21, 4] := by decide +kernel
theorem dX12_growsIn_24 : decode cX12_growsIn 24 = .ok (.iload 5, 2) := dk_1021 (dk_g tcX12_growsIn_2 0 rfl) (dk_g tcX12_growsIn_2 1 rfl) rfl
theorem dX12_growsIn_26 : decode cX12_growsIn 26 = .ok (.if_icmp .gt 28, 3) := dk_2163 (dk_g tcX12_growsIn_2 2 rfl) (dk_g tcX12_growsIn_2 3 rfl) (dk_g tcX12_growsIn_2 4 rfl) rfl rfl
theorem dX12_growsIn_29 : decode cX12_growsIn 29 = .ok (.aload_n 0, 1) := dk_1042 (dk_g tcX12_growsIn_2 5 rfl)
theorem dX12_growsIn_30 : decode cX12_growsIn 30 = .ok (.iload_n 1, 1) := dk_1027 (dk_g tcX12_growsIn_2 6 rfl)
theorem dX12_growsIn_31 : decode cX12_growsIn 31 = .ok (.iload_n 2, 1) := dk_1028 (dk_g tcX12_growsIn_2 7 rfl)
theorem dX12_growsIn_32 : decode cX12_growsIn 32 = .ok (.iload 5, 2) := dk_1021 (dk_g tcX12_growsIn_2 8 rfl) (dk_g tcX12_growsIn_2 9 rfl) rfl
theorem dX12_growsIn_34 : decode cX12_growsIn 34 = .ok (.iload 4, 2) := dk_1021 (dk_g tcX12_growsIn_2 10 rfl) (dk_g tcX12_growsIn_2 11 rfl) rfl
theorem tcX12_growsIn_3 : (cX12_growsIn.data.toList.drop 36).take 12 = [182, 0, 150, 42, 27, 21, 5, 96, 29, 21, 5, 100] := by decide +kernel
theorem dX12_growsIn_36 : decode cX12_growsIn 36 = .ok (.invokevirtual 150, 3) := dk_1182 (dk_g tcX12_growsIn_3 0 rfl) (dk_g tcX12_growsIn_3 1 rfl) (dk_g tcX12_growsIn_3 2 rfl) rfl
theorem dX12_growsIn_39 : decode cX12_growsIn 39 = .ok (.aload_n 0, 1) := dk_1042 (dk_g tcX12_growsIn_3 3 rfl)
theorem dX12_growsIn_40 : decode cX12_growsIn 40 = .ok (.iload_n 1, 1) := dk_1027 (dk_g tcX12_growsIn_3 4 rfl)
theorem dX12_growsIn_41 : decode cX12_growsIn 41 = .ok (.iload 5, 2) := dk_1021 (dk_g tcX12_growsIn_3 5 rfl) (dk_g tcX12_growsIn_3 6 rfl) rfl
theorem dX12_growsIn_43 : decode cX12_growsIn 43 = .ok (.iadd, 1) := dk_1096 (dk_g tcX12_growsIn_3 7 rfl)
theorem dX12_growsIn_44 : decode cX12_growsIn 44 = .ok (.iload_n 3, 1) := dk_1029 (dk_g tcX12_growsIn_3 8 rfl)
theorem dX12_growsIn_45 : decode cX12_growsIn 45 = .ok (.iload 5, 2) := dk_1021 (dk_g tcX12_growsIn_3 9 rfl) (dk_g tcX12_growsIn_3 10 rfl) rfl
theorem dX12_growsIn_47 : decode cX12_growsIn 47 = .ok (.isub, 1) := dk_1100 (dk_g tcX12_growsIn_3 11 rfl)
theorem tcX12_growsIn_4 : (cX12_growsIn.data.toList.drop 48).take 12 = [182, 0, 146, 167, 0, 27, 42, 27, 21, 5, 96, 28] := by decide +kernel
theorem dX12_growsIn_48 : decode cX12_growsIn 48 = .ok (.invokevirtual 146, 3) := dk_1182 (dk_g tcX12_growsIn_4 0 rfl) (dk_g tcX12_growsIn_4 1 rfl) (dk_g tcX12_growsIn_4 2 rfl) rfl
theorem dX12_growsIn_51 : decode cX12_growsIn 51 = .ok (.goto 27, 3) := dk_2167 (dk_g tcX12_growsIn_4 3 rfl) (dk_g tcX12_growsIn_4 4 rfl) (dk_g tcX12_growsIn_4 5 rfl) rfl rfl
theorem dX12_growsIn_54 : decode cX12_growsIn 54 = .ok (.aload_n 0, 1) := dk_1042 (dk_g tcX12_growsIn_4 6 rfl)
theorem dX12_growsIn_55 : decode cX12_growsIn 55 = .ok (.iload_n 1, 1) := dk_1027 (dk_g tcX12_growsIn_4 7 rfl)
theorem dX12_growsIn_56 : decode cX12_growsIn 56 = .ok (.iload 5, 2) := dk_1021 (dk_g tcX12_growsIn_4 8 rfl) (dk_g tcX12_growsIn_4 9 rfl) rfl
theorem dX12_growsIn_58 : decode cX12_growsIn 58 = .ok (.iadd, 1) := dk_1096 (dk_g tcX12_growsIn_4 10 rfl)
theorem dX12_growsIn_59 : decode cX12_growsIn 59 = .ok (.iload_n 2, 1) := dk_1028 (dk_g tcX12_growsIn_4 11 rfl)
theorem tcX12_growsIn_5 : (cX12_growsIn.data.toList.drop 60).take 12 = [21, 5, 100, 29, 21, 5, 100, 3, 182, 0, 150, 42] := by decide +kernel
theorem dX12_growsIn_60 : decode cX12_growsIn 60 = .ok (.iload 5, 2) := dk_1021 (dk_g tcX12_growsIn_5 0 rfl) (dk_g tcX12_growsIn_5 1 rfl) rfl
theorem dX12_growsIn_62 : decode cX12_growsIn 62 = .ok (.isub, 1) := dk_1100 (dk_g tcX12_growsIn_5 2 rfl)
theorem dX12_growsIn_63 : decode cX12_growsIn 63 = .ok (.iload_n 3, 1) := dk_1029 (dk_g tcX12_growsIn_5 3 rfl)
theorem dX12_growsIn_64 : decode cX12_growsIn 64 = .ok (.iload 5, 2) := dk_1021 (dk_g tcX12_growsIn_5 4 rfl) (dk_g tcX12_growsIn_5 5 rfl) rfl
theorem dX12_growsIn_66 : decode cX12_growsIn 66 = .ok (.isub, 1) := dk_1100 (dk_g tcX12_growsIn_5 6 rfl)
theorem dX12_growsIn_67 : decode cX12_growsIn 67 = .ok (.iconst 0, 1) := dk_1003 (dk_g tcX12_growsIn_5 7 rfl)
theorem dX12_growsIn_68 : decode cX12_growsIn 68 = .ok (.invokevirtual 150, 3) := dk_1182 (dk_g tcX12_growsIn_5 8 rfl) (dk_g tcX12_growsIn_5 9 rfl) (dk_g tcX12_growsIn_5 10 rfl) rfl
theorem dX12_growsIn_71 : decode cX12_growsIn 71 = .ok (.aload_n 0, 1) := dk_1042 (dk_g tcX12_growsIn_5 11 rfl)
theorem tcX12_growsIn_6 : (cX12_growsIn.data.toList.drop 72).take 12 = [27, 21, 5, 182, 0, 146, 177] := by decide +kernel
theorem dX12_growsIn_72 : decode cX12_growsIn 72 = .ok (.iload_n 1, 1) := dk_1027 (dk_g tcX12_growsIn_6 0 rfl)
theorem dX12_growsIn_73 : decode cX12_growsIn 73 = .ok (.iload 5, 2) := dk_1021 (dk_g tcX12_growsIn_6 1 rfl) (dk_g tcX12_growsIn_6 2 rfl) rfl
theorem dX12_growsIn_75 : decode cX12_growsIn 75 = .ok (.invokevirtual 146, 3) := dk_1182 (dk_g tcX12_growsIn_6 3 rfl) (dk_g tcX12_growsIn_6 4 rfl) (dk_g tcX12_growsIn_6 5 rfl) rfl
theorem dX12_growsIn_78 : decode cX12_growsIn 78 = .ok (.return_, 1) := dk_1177 (dk_g tcX12_growsIn_6 6 rfl)
theorem tcX12_growth_0 : (cX12_growth.data.toList.drop 0).take 12 = [42, 3, 181, 0, 139, 27, 158, 0, 16, 27, 28, 162] := by decide +kernel
theorem dX12_growth_0 : decode cX12_growth 0 = .ok (.aload_n 0, 1) := dk_1042 (dk_g tcX12_growth_0 0 rfl)
theorem dX12_growth_1 : decode cX12_growth 1 = .ok (.iconst 0, 1) := dk_1003 (dk_g tcX12_growth_0 1 rfl)
theorem dX12_growth_2 : decode cX12_growth 2 = .ok (.putfield 139, 3) := dk_1181 (dk_g tcX12_growth_0 2 rfl) (dk_g tcX12_growth_0 3 rfl) (dk_g tcX12_growth_0 4 rfl) rfl
theorem dX12_growth_5 : decode cX12_growth 5 = .ok (.iload_n 1, 1) := dk_1027 (dk_g tcX12_growth_0 5 rfl)
theorem dX12_growth_6 : decode cX12_growth 6 = .ok (.ifCond .le 16, 3) := dk_2158 (dk_g tcX12_growth_0 6 rfl) (dk_g tcX12_growth_0 7 rfl) (dk_g tcX12_growth_0 8 rfl) rfl rfl
theorem dX12_growth_9 : decode cX12_growth 9 = .ok (.iload_n 1, 1) := dk_1027 (dk_g tcX12_growth_0 9 rfl)
theorem dX12_growth_10 : decode cX12_growth 10 = .ok (.iload_n 2, 1) := dk_1028 (dk_g tcX12_growth_0 10 rfl)
theorem tcX12_growth_1 : (cX12_growth.data.toList.drop 12).take 12 = [0, 11, 42, 3, 27, 28, 4, 182, 0, 150, 177] := by decide +kernel
theorem dX12_growth_11 : decode cX12_growth 11 = .ok (.if_icmp .ge 11, 3) := dk_2162 (dk_g tcX12_growth_0 11 rfl) (dk_g tcX12_growth_1 0 rfl) (dk_g tcX12_growth_1 1 rfl) rfl rfl
theorem dX12_growth_14 : decode cX12_growth 14 = .ok (.aload_n 0, 1) := dk_1042 (dk_g tcX12_growth_1 2 rfl)
theorem dX12_growth_15 : decode cX12_growth 15 = .ok (.iconst 0, 1) := dk_1003 (dk_g tcX12_growth_1 3 rfl)
theorem dX12_growth_16 : decode cX12_growth 16 = .ok (.iload_n 1, 1) := dk_1027 (dk_g tcX12_growth_1 4 rfl)
theorem dX12_growth_17 : decode cX12_growth 17 = .ok (.iload_n 2, 1) := dk_1028 (dk_g tcX12_growth_1 5 rfl)
theorem dX12_growth_18 : decode cX12_growth 18 = .ok (.iconst 1, 1) := dk_1004 (dk_g tcX12_growth_1 6 rfl)
theorem dX12_growth_19 : decode cX12_growth 19 = .ok (.invokevirtual 150, 3) := dk_1182 (dk_g tcX12_growth_1 7 rfl) (dk_g tcX12_growth_1 8 rfl) (dk_g tcX12_growth_1 9 rfl) rfl
theorem dX12_growth_22 : decode cX12_growth 22 = .ok (.return_, 1) := dk_1177 (dk_g tcX12_growth_1 10 rfl)
theorem tcX12_hasAny_0 : (cX12_hasAny.data.toList.drop 0).take 12 = [3, 62, 29, 16, 30, 162, 0, 32, 26, 29, 122, 4] := by decide +kernel
theorem dX12_hasAny_0 : decode cX12_hasAny 0 = .ok (.iconst 0, 1) := dk_1003 (dk_g tcX12_hasAny_0 0 rfl)
theorem dX12_hasAny_1 : decode cX12_hasAny 1 = .ok (.istore_n 3, 1) := dk_1062 (dk_g tcX12_hasAny_0 1 rfl)
theorem dX12_hasAny_2 : decode cX12_hasAny 2 = .ok (.iload_n 3, 1) := dk_1029 (dk_g tcX12_hasAny_0 2 rfl)
theorem dX12_hasAny_3 : decode cX12_hasAny 3 = .ok (.bipush 30, 2) := dk_1016 (dk_g tcX12_hasAny_0 3 rfl) (dk_g tcX12_hasAny_0 4 rfl) (by decide +kernel)
theorem dX12_hasAny_5 : decode cX12_hasAny 5 = .ok (.if_icmp .ge 32, 3) := dk_2162 (dk_g tcX12_hasAny_0 5 rfl) (dk_g tcX12_hasAny_0 6 rfl) (dk_g tcX12_hasAny_0 7 rfl) rfl rfl
theorem dX12_hasAny_8 : decode cX12_hasAny 8 = .ok (.iload_n 0, 1) := dk_1026 (dk_g tcX12_hasAny_0 8 rfl)
theorem dX12_hasAny_9 : decode cX12_hasAny 9 = .ok (.iload_n 3, 1) := dk_1029 (dk_g tcX12_hasAny_0 9 rfl)
theorem dX12_hasAny_10 : decode cX12_hasAny 10 = .ok (.ishr, 1) := dk_1122 (dk_g tcX12_hasAny_0 10 rfl)
theorem dX12_hasAny_11 : decode cX12_hasAny 11 = .ok (.iconst 1, 1) := dk_1004 (dk_g tcX12_hasAny_0 11 rfl)
theorem tcX12_hasAny_1 : (cX12_hasAny.data.toList.drop 12).take 12 = [126, 4, 160, 0, 17, 29, 27, 161, 0, 12, 29, 27] := by decide +kernel
theorem dX12_hasAny_12 : decode cX12_hasAny 12 = .ok (.iand, 1) := dk_1126 (dk_g tcX12_hasAny_1 0 rfl)
theorem dX12_hasAny_13 : decode cX12_hasAny 13 = .ok (.iconst 1, 1) := dk_1004 (dk_g tcX12_hasAny_1 1 rfl)
theorem dX12_hasAny_14 : decode cX12_hasAny 14 = .ok (.if_icmp .ne 17, 3) := dk_2160 (dk_g tcX12_hasAny_1 2 rfl) (dk_g tcX12_hasAny_1 3 rfl) (dk_g tcX12_hasAny_1 4 rfl) rfl rfl
theorem dX12_hasAny_17 : decode cX12_hasAny 17 = .ok (.iload_n 3, 1) := dk_1029 (dk_g tcX12_hasAny_1 5 rfl)
theorem dX12_hasAny_18 : decode cX12_hasAny 18 = .ok (.iload_n 1, 1) := dk_1027 (dk_g tcX12_hasAny_1 6 rfl)
theorem dX12_hasAny_19 : decode cX12_hasAny 19 = .ok (.if_icmp .lt 12, 3) := dk_2161 (dk_g tcX12_hasAny_1 7 rfl) (dk_g tcX12_hasAny_1 8 rfl) (dk_g tcX12_hasAny_1 9 rfl) rfl rfl
theorem dX12_hasAny_22 : decode cX12_hasAny 22 = .ok (.iload_n 3, 1) := dk_1029 (dk_g tcX12_hasAny_1 10 rfl)
theorem dX12_hasAny_23 : decode cX12_hasAny 23 = .ok (.iload_n 1, 1) := dk_1027 (dk_g tcX12_hasAny_1 11 rfl)
theorem tcX12_hasAny_2 : (cX12_hasAny.data.toList.drop 24).take 12 = [100, 28, 162, 0, 5, 4, 172, 132, 3, 1, 167, 255] := by decide +kernel
theorem dX12_hasAny_24 : decode cX12_hasAny 24 = .ok (.isub, 1) := dk_1100 (dk_g tcX12_hasAny_2 0 rfl)
theorem dX12_hasAny_25 : decode cX12_hasAny 25 = .ok (.iload_n 2, 1) := dk_1028 (dk_g tcX12_hasAny_2 1 rfl)
theorem dX12_hasAny_26 : decode cX12_hasAny 26 = .ok (.if_icmp .ge 5, 3) := dk_2162 (dk_g tcX12_hasAny_2 2 rfl) (dk_g tcX12_hasAny_2 3 rfl) (dk_g tcX12_hasAny_2 4 rfl) rfl rfl
theorem dX12_hasAny_29 : decode cX12_hasAny 29 = .ok (.iconst 1, 1) := dk_1004 (dk_g tcX12_hasAny_2 5 rfl)
theorem dX12_hasAny_30 : decode cX12_hasAny 30 = .ok (.ireturn, 1) := dk_1172 (dk_g tcX12_hasAny_2 6 rfl)
theorem dX12_hasAny_31 : decode cX12_hasAny 31 = .ok (.iinc 3 1, 3) := dk_1132 (dk_g tcX12_hasAny_2 7 rfl) (dk_g tcX12_hasAny_2 8 rfl) (dk_g tcX12_hasAny_2 9 rfl) rfl (by decide +kernel)
theorem tcX12_hasAny_3 : (cX12_hasAny.data.toList.drop 36).take 12 = [224, 3, 172] := by decide +kernel
theorem dX12_hasAny_34 : decode cX12_hasAny 34 = .ok (.goto (-32), 3) := dk_1167 (dk_g tcX12_hasAny_2 10 rfl) (dk_g tcX12_hasAny_2 11 rfl) (dk_g tcX12_hasAny_3 0 rfl) (by decide +kernel)
theorem dX12_hasAny_37 : decode cX12_hasAny 37 = .ok (.iconst 0, 1) := dk_1003 (dk_g tcX12_hasAny_3 1 rfl)
theorem dX12_hasAny_38 : decode cX12_hasAny 38 = .ok (.ireturn, 1) := dk_1172 (dk_g tcX12_hasAny_3 2 rfl)
theorem tcX12_bundlesIn_0 : (cX12_bundlesIn.data.toList.drop 0).take 12 = [27, 28, 29, 184, 0, 154, 154, 0, 10, 42, 28, 29] := by decide +kernel
theorem dX12_bundlesIn_0 : decode cX12_bundlesIn 0 = .ok (.iload_n 1, 1) := dk_1027 (dk_g tcX12_bundlesIn_0 0 rfl)
theorem dX12_bundlesIn_1 : decode cX12_bundlesIn 1 = .ok (.iload_n 2, 1) := dk_1028 (dk_g tcX12_bundlesIn_0 1 rfl)
theorem dX12_bundlesIn_2 : decode cX12_bundlesIn 2 = .ok (.iload_n 3, 1) := dk_1029 (dk_g tcX12_bundlesIn_0 2 rfl)
theorem dX12_bundlesIn_3 : decode cX12_bundlesIn 3 = .ok (.invokestatic 154, 3) := dk_1184 (dk_g tcX12_bundlesIn_0 3 rfl) (dk_g tcX12_bundlesIn_0 4 rfl) (dk_g tcX12_bundlesIn_0 5 rfl) rfl
theorem dX12_bundlesIn_6 : decode cX12_bundlesIn 6 = .ok (.ifCond .ne 10, 3) := dk_2154 (dk_g tcX12_bundlesIn_0 6 rfl) (dk_g tcX12_bundlesIn_0 7 rfl) (dk_g tcX12_bundlesIn_0 8 rfl) rfl rfl
theorem dX12_bundlesIn_9 : decode cX12_bundlesIn 9 = .ok (.aload_n 0, 1) := dk_1042 (dk_g tcX12_bundlesIn_0 9 rfl)
theorem dX12_bundlesIn_10 : decode cX12_bundlesIn 10 = .ok (.iload_n 2, 1) := dk_1028 (dk_g tcX12_bundlesIn_0 10 rfl)
theorem dX12_bundlesIn_11 : decode cX12_bundlesIn 11 = .ok (.iload_n 3, 1) := dk_1029 (dk_g tcX12_bundlesIn_0 11 rfl)
theorem tcX12_bundlesIn_1 : (cX12_bundlesIn.data.toList.drop 12).take 12 = [182, 0, 146, 177, 29, 4, 160, 0, 4, 177, 29, 184] := by decide +kernel
theorem dX12_bundlesIn_12 : decode cX12_bundlesIn 12 = .ok (.invokevirtual 146, 3) := dk_1182 (dk_g tcX12_bundlesIn_1 0 rfl) (dk_g tcX12_bundlesIn_1 1 rfl) (dk_g tcX12_bundlesIn_1 2 rfl) rfl
theorem dX12_bundlesIn_15 : decode cX12_bundlesIn 15 = .ok (.return_, 1) := dk_1177 (dk_g tcX12_bundlesIn_1 3 rfl)
theorem dX12_bundlesIn_16 : decode cX12_bundlesIn 16 = .ok (.iload_n 3, 1) := dk_1029 (dk_g tcX12_bundlesIn_1 4 rfl)
theorem dX12_bundlesIn_17 : decode cX12_bundlesIn 17 = .ok (.iconst 1, 1) := dk_1004 (dk_g tcX12_bundlesIn_1 5 rfl)
theorem dX12_bundlesIn_18 : decode cX12_bundlesIn 18 = .ok (.if_icmp .ne 4, 3) := dk_2160 (dk_g tcX12_bundlesIn_1 6 rfl) (dk_g tcX12_bundlesIn_1 7 rfl) (dk_g tcX12_bundlesIn_1 8 rfl) rfl rfl
theorem dX12_bundlesIn_21 : decode cX12_bundlesIn 21 = .ok (.return_, 1) := dk_1177 (dk_g tcX12_bundlesIn_1 9 rfl)
theorem dX12_bundlesIn_22 : decode cX12_bundlesIn 22 = .ok (.iload_n 3, 1) := dk_1029 (dk_g tcX12_bundlesIn_1 10 rfl)
theorem tcX12_bundlesIn_2 : (cX12_bundlesIn.data.toList.drop 24).take 12 = [0, 128, 54, 4, 42, 27, 28, 21, 4, 182, 0, 157] := by decide +kernel
theorem dX12_bundlesIn_23 : decode cX12_bundlesIn 23 = .ok (.invokestatic 128, 3) := dk_1184 (dk_g tcX12_bundlesIn_1 11 rfl) (dk_g tcX12_bundlesIn_2 0 rfl) (dk_g tcX12_bundlesIn_2 1 rfl) rfl
theorem dX12_bundlesIn_26 : decode cX12_bundlesIn 26 = .ok (.istore 4, 2) := dk_1054 (dk_g tcX12_bundlesIn_2 2 rfl) (dk_g tcX12_bundlesIn_2 3 rfl) rfl
theorem dX12_bundlesIn_28 : decode cX12_bundlesIn 28 = .ok (.aload_n 0, 1) := dk_1042 (dk_g tcX12_bundlesIn_2 4 rfl)
theorem dX12_bundlesIn_29 : decode cX12_bundlesIn 29 = .ok (.iload_n 1, 1) := dk_1027 (dk_g tcX12_bundlesIn_2 5 rfl)
theorem dX12_bundlesIn_30 : decode cX12_bundlesIn 30 = .ok (.iload_n 2, 1) := dk_1028 (dk_g tcX12_bundlesIn_2 6 rfl)
theorem dX12_bundlesIn_31 : decode cX12_bundlesIn 31 = .ok (.iload 4, 2) := dk_1021 (dk_g tcX12_bundlesIn_2 7 rfl) (dk_g tcX12_bundlesIn_2 8 rfl) rfl
theorem dX12_bundlesIn_33 : decode cX12_bundlesIn 33 = .ok (.invokevirtual 157, 3) := dk_1182 (dk_g tcX12_bundlesIn_2 9 rfl) (dk_g tcX12_bundlesIn_2 10 rfl) (dk_g tcX12_bundlesIn_2 11 rfl) rfl
theorem tcX12_bundlesIn_3 : (cX12_bundlesIn.data.toList.drop 36).take 12 = [42, 27, 28, 21, 4, 96, 29, 21, 4, 100, 182, 0] := by decide +kernel
theorem dX12_bundlesIn_36 : decode cX12_bundlesIn 36 = .ok (.aload_n 0, 1) := dk_1042 (dk_g tcX12_bundlesIn_3 0 rfl)
theorem dX12_bundlesIn_37 : decode cX12_bundlesIn 37 = .ok (.iload_n 1, 1) := dk_1027 (dk_g tcX12_bundlesIn_3 1 rfl)
theorem dX12_bundlesIn_38 : decode cX12_bundlesIn 38 = .ok (.iload_n 2, 1) := dk_1028 (dk_g tcX12_bundlesIn_3 2 rfl)
theorem dX12_bundlesIn_39 : decode cX12_bundlesIn 39 = .ok (.iload 4, 2) := dk_1021 (dk_g tcX12_bundlesIn_3 3 rfl) (dk_g tcX12_bundlesIn_3 4 rfl) rfl
theorem dX12_bundlesIn_41 : decode cX12_bundlesIn 41 = .ok (.iadd, 1) := dk_1096 (dk_g tcX12_bundlesIn_3 5 rfl)
theorem dX12_bundlesIn_42 : decode cX12_bundlesIn 42 = .ok (.iload_n 3, 1) := dk_1029 (dk_g tcX12_bundlesIn_3 6 rfl)
theorem dX12_bundlesIn_43 : decode cX12_bundlesIn 43 = .ok (.iload 4, 2) := dk_1021 (dk_g tcX12_bundlesIn_3 7 rfl) (dk_g tcX12_bundlesIn_3 8 rfl) rfl
theorem dX12_bundlesIn_45 : decode cX12_bundlesIn 45 = .ok (.isub, 1) := dk_1100 (dk_g tcX12_bundlesIn_3 9 rfl)
theorem tcX12_bundlesIn_4 : (cX12_bundlesIn.data.toList.drop 48).take 12 = [157, 177] := by decide +kernel
theorem dX12_bundlesIn_46 : decode cX12_bundlesIn 46 = .ok (.invokevirtual 157, 3) := dk_1182 (dk_g tcX12_bundlesIn_3 10 rfl) (dk_g tcX12_bundlesIn_3 11 rfl) (dk_g tcX12_bundlesIn_4 0 rfl) rfl
theorem dX12_bundlesIn_49 : decode cX12_bundlesIn 49 = .ok (.return_, 1) := dk_1177 (dk_g tcX12_bundlesIn_4 1 rfl)
theorem tcX12_bundleOf_0 : (cX12_bundleOf.data.toList.drop 0).take 12 = [42, 3, 181, 0, 139, 42, 27, 3, 28, 182, 0, 157] := by decide +kernel
theorem dX12_bundleOf_0 : decode cX12_bundleOf 0 = .ok (.aload_n 0, 1) := dk_1042 (dk_g tcX12_bundleOf_0 0 rfl)
theorem dX12_bundleOf_1 : decode cX12_bundleOf 1 = .ok (.iconst 0, 1) := dk_1003 (dk_g tcX12_bundleOf_0 1 rfl)
theorem dX12_bundleOf_2 : decode cX12_bundleOf 2 = .ok (.putfield 139, 3) := dk_1181 (dk_g tcX12_bundleOf_0 2 rfl) (dk_g tcX12_bundleOf_0 3 rfl) (dk_g tcX12_bundleOf_0 4 rfl) rfl
theorem dX12_bundleOf_5 : decode cX12_bundleOf 5 = .ok (.aload_n 0, 1) := dk_1042 (dk_g tcX12_bundleOf_0 5 rfl)
theorem dX12_bundleOf_6 : decode cX12_bundleOf 6 = .ok (.iload_n 1, 1) := dk_1027 (dk_g tcX12_bundleOf_0 6 rfl)
theorem dX12_bundleOf_7 : decode cX12_bundleOf 7 = .ok (.iconst 0, 1) := dk_1003 (dk_g tcX12_bundleOf_0 7 rfl)
theorem dX12_bundleOf_8 : decode cX12_bundleOf 8 = .ok (.iload_n 2, 1) := dk_1028 (dk_g tcX12_bundleOf_0 8 rfl)
theorem dX12_bundleOf_9 : decode cX12_bundleOf 9 = .ok (.invokevirtual 157, 3) := dk_1182 (dk_g tcX12_bundleOf_0 9 rfl) (dk_g tcX12_bundleOf_0 10 rfl) (dk_g tcX12_bundleOf_0 11 rfl) rfl
theorem tcX12_bundleOf_1 : (cX12_bundleOf.data.toList.drop 12).take 12 = [177] := by decide +kernel
theorem dX12_bundleOf_12 : decode cX12_bundleOf 12 = .ok (.return_, 1) := dk_1177 (dk_g tcX12_bundleOf_1 0 rfl)
theorem tcX12_peaksOf_0 : (cX12_peaksOf.data.toList.drop 0).take 12 = [42, 3, 181, 0, 139, 3, 61, 18, 160, 62, 29, 158] := by decide +kernel
theorem dX12_peaksOf_0 : decode cX12_peaksOf 0 = .ok (.aload_n 0, 1) := dk_1042 (dk_g tcX12_peaksOf_0 0 rfl)
theorem dX12_peaksOf_1 : decode cX12_peaksOf 1 = .ok (.iconst 0, 1) := dk_1003 (dk_g tcX12_peaksOf_0 1 rfl)
theorem dX12_peaksOf_2 : decode cX12_peaksOf 2 = .ok (.putfield 139, 3) := dk_1181 (dk_g tcX12_peaksOf_0 2 rfl) (dk_g tcX12_peaksOf_0 3 rfl) (dk_g tcX12_peaksOf_0 4 rfl) rfl
theorem dX12_peaksOf_5 : decode cX12_peaksOf 5 = .ok (.iconst 0, 1) := dk_1003 (dk_g tcX12_peaksOf_0 5 rfl)
theorem dX12_peaksOf_6 : decode cX12_peaksOf 6 = .ok (.istore_n 2, 1) := dk_1061 (dk_g tcX12_peaksOf_0 6 rfl)
theorem dX12_peaksOf_7 : decode cX12_peaksOf 7 = .ok (.ldc 160, 2) := dk_1018 (dk_g tcX12_peaksOf_0 7 rfl) (dk_g tcX12_peaksOf_0 8 rfl) rfl
theorem dX12_peaksOf_9 : decode cX12_peaksOf 9 = .ok (.istore_n 3, 1) := dk_1062 (dk_g tcX12_peaksOf_0 9 rfl)
theorem dX12_peaksOf_10 : decode cX12_peaksOf 10 = .ok (.iload_n 3, 1) := dk_1029 (dk_g tcX12_peaksOf_0 10 rfl)
theorem tcX12_peaksOf_1 : (cX12_peaksOf.data.toList.drop 12).take 12 = [0, 31, 27, 29, 108, 5, 112, 154, 0, 6, 167, 0] := by decide +kernel
theorem dX12_peaksOf_11 : decode cX12_peaksOf 11 = .ok (.ifCond .le 31, 3) := dk_2158 (dk_g tcX12_peaksOf_0 11 rfl) (dk_g tcX12_peaksOf_1 0 rfl) (dk_g tcX12_peaksOf_1 1 rfl) rfl rfl
theorem dX12_peaksOf_14 : decode cX12_peaksOf 14 = .ok (.iload_n 1, 1) := dk_1027 (dk_g tcX12_peaksOf_1 2 rfl)
theorem dX12_peaksOf_15 : decode cX12_peaksOf 15 = .ok (.iload_n 3, 1) := dk_1029 (dk_g tcX12_peaksOf_1 3 rfl)
theorem dX12_peaksOf_16 : decode cX12_peaksOf 16 = .ok (.idiv, 1) := dk_1108 (dk_g tcX12_peaksOf_1 4 rfl)
theorem dX12_peaksOf_17 : decode cX12_peaksOf 17 = .ok (.iconst 2, 1) := dk_1005 (dk_g tcX12_peaksOf_1 5 rfl)
theorem dX12_peaksOf_18 : decode cX12_peaksOf 18 = .ok (.irem, 1) := dk_1112 (dk_g tcX12_peaksOf_1 6 rfl)
theorem dX12_peaksOf_19 : decode cX12_peaksOf 19 = .ok (.ifCond .ne 6, 3) := dk_2154 (dk_g tcX12_peaksOf_1 7 rfl) (dk_g tcX12_peaksOf_1 8 rfl) (dk_g tcX12_peaksOf_1 9 rfl) rfl rfl
theorem tcX12_peaksOf_2 : (cX12_peaksOf.data.toList.drop 24).take 12 = [13, 42, 28, 29, 182, 0, 146, 28, 29, 96, 61, 29] := by decide +kernel
theorem dX12_peaksOf_22 : decode cX12_peaksOf 22 = .ok (.goto 13, 3) := dk_2167 (dk_g tcX12_peaksOf_1 10 rfl) (dk_g tcX12_peaksOf_1 11 rfl) (dk_g tcX12_peaksOf_2 0 rfl) rfl rfl
theorem dX12_peaksOf_25 : decode cX12_peaksOf 25 = .ok (.aload_n 0, 1) := dk_1042 (dk_g tcX12_peaksOf_2 1 rfl)
theorem dX12_peaksOf_26 : decode cX12_peaksOf 26 = .ok (.iload_n 2, 1) := dk_1028 (dk_g tcX12_peaksOf_2 2 rfl)
theorem dX12_peaksOf_27 : decode cX12_peaksOf 27 = .ok (.iload_n 3, 1) := dk_1029 (dk_g tcX12_peaksOf_2 3 rfl)
theorem dX12_peaksOf_28 : decode cX12_peaksOf 28 = .ok (.invokevirtual 146, 3) := dk_1182 (dk_g tcX12_peaksOf_2 4 rfl) (dk_g tcX12_peaksOf_2 5 rfl) (dk_g tcX12_peaksOf_2 6 rfl) rfl
theorem dX12_peaksOf_31 : decode cX12_peaksOf 31 = .ok (.iload_n 2, 1) := dk_1028 (dk_g tcX12_peaksOf_2 7 rfl)
theorem dX12_peaksOf_32 : decode cX12_peaksOf 32 = .ok (.iload_n 3, 1) := dk_1029 (dk_g tcX12_peaksOf_2 8 rfl)
theorem dX12_peaksOf_33 : decode cX12_peaksOf 33 = .ok (.iadd, 1) := dk_1096 (dk_g tcX12_peaksOf_2 9 rfl)
theorem dX12_peaksOf_34 : decode cX12_peaksOf 34 = .ok (.istore_n 2, 1) := dk_1061 (dk_g tcX12_peaksOf_2 10 rfl)
theorem dX12_peaksOf_35 : decode cX12_peaksOf 35 = .ok (.iload_n 3, 1) := dk_1029 (dk_g tcX12_peaksOf_2 11 rfl)
theorem tcX12_peaksOf_3 : (cX12_peaksOf.data.toList.drop 36).take 12 = [5, 108, 62, 167, 255, 227, 177] := by decide +kernel
theorem dX12_peaksOf_36 : decode cX12_peaksOf 36 = .ok (.iconst 2, 1) := dk_1005 (dk_g tcX12_peaksOf_3 0 rfl)
theorem dX12_peaksOf_37 : decode cX12_peaksOf 37 = .ok (.idiv, 1) := dk_1108 (dk_g tcX12_peaksOf_3 1 rfl)
theorem dX12_peaksOf_38 : decode cX12_peaksOf 38 = .ok (.istore_n 3, 1) := dk_1062 (dk_g tcX12_peaksOf_3 2 rfl)
theorem dX12_peaksOf_39 : decode cX12_peaksOf 39 = .ok (.goto (-29), 3) := dk_1167 (dk_g tcX12_peaksOf_3 3 rfl) (dk_g tcX12_peaksOf_3 4 rfl) (dk_g tcX12_peaksOf_3 5 rfl) (by decide +kernel)
theorem dX12_peaksOf_42 : decode cX12_peaksOf 42 = .ok (.return_, 1) := dk_1177 (dk_g tcX12_peaksOf_3 6 rfl)
theorem tcX12_fetches_0 : (cX12_fetches.data.toList.drop 0).take 12 = [3, 61, 28, 42, 180, 0, 139, 162, 0, 32, 42, 180] := by decide +kernel
theorem dX12_fetches_0 : decode cX12_fetches 0 = .ok (.iconst 0, 1) := dk_1003 (dk_g tcX12_fetches_0 0 rfl)
theorem dX12_fetches_1 : decode cX12_fetches 1 = .ok (.istore_n 2, 1) := dk_1061 (dk_g tcX12_fetches_0 1 rfl)
theorem dX12_fetches_2 : decode cX12_fetches 2 = .ok (.iload_n 2, 1) := dk_1028 (dk_g tcX12_fetches_0 2 rfl)
theorem dX12_fetches_3 : decode cX12_fetches 3 = .ok (.aload_n 0, 1) := dk_1042 (dk_g tcX12_fetches_0 3 rfl)
theorem dX12_fetches_4 : decode cX12_fetches 4 = .ok (.getfield 139, 3) := dk_1180 (dk_g tcX12_fetches_0 4 rfl) (dk_g tcX12_fetches_0 5 rfl) (dk_g tcX12_fetches_0 6 rfl) rfl
theorem dX12_fetches_7 : decode cX12_fetches 7 = .ok (.if_icmp .ge 32, 3) := dk_2162 (dk_g tcX12_fetches_0 7 rfl) (dk_g tcX12_fetches_0 8 rfl) (dk_g tcX12_fetches_0 9 rfl) rfl rfl
theorem dX12_fetches_10 : decode cX12_fetches 10 = .ok (.aload_n 0, 1) := dk_1042 (dk_g tcX12_fetches_0 10 rfl)
theorem tcX12_fetches_1 : (cX12_fetches.data.toList.drop 12).take 12 = [0, 22, 28, 42, 27, 42, 180, 0, 16, 28, 46, 42] := by decide +kernel
theorem dX12_fetches_11 : decode cX12_fetches 11 = .ok (.getfield 22, 3) := dk_1180 (dk_g tcX12_fetches_0 11 rfl) (dk_g tcX12_fetches_1 0 rfl) (dk_g tcX12_fetches_1 1 rfl) rfl
theorem dX12_fetches_14 : decode cX12_fetches 14 = .ok (.iload_n 2, 1) := dk_1028 (dk_g tcX12_fetches_1 2 rfl)
theorem dX12_fetches_15 : decode cX12_fetches 15 = .ok (.aload_n 0, 1) := dk_1042 (dk_g tcX12_fetches_1 3 rfl)
theorem dX12_fetches_16 : decode cX12_fetches 16 = .ok (.iload_n 1, 1) := dk_1027 (dk_g tcX12_fetches_1 4 rfl)
theorem dX12_fetches_17 : decode cX12_fetches 17 = .ok (.aload_n 0, 1) := dk_1042 (dk_g tcX12_fetches_1 5 rfl)
theorem dX12_fetches_18 : decode cX12_fetches 18 = .ok (.getfield 16, 3) := dk_1180 (dk_g tcX12_fetches_1 6 rfl) (dk_g tcX12_fetches_1 7 rfl) (dk_g tcX12_fetches_1 8 rfl) rfl
theorem dX12_fetches_21 : decode cX12_fetches 21 = .ok (.iload_n 2, 1) := dk_1028 (dk_g tcX12_fetches_1 9 rfl)
theorem dX12_fetches_22 : decode cX12_fetches 22 = .ok (.iaload, 1) := dk_1046 (dk_g tcX12_fetches_1 10 rfl)
theorem dX12_fetches_23 : decode cX12_fetches 23 = .ok (.aload_n 0, 1) := dk_1042 (dk_g tcX12_fetches_1 11 rfl)
theorem tcX12_fetches_2 : (cX12_fetches.data.toList.drop 24).take 12 = [180, 0, 19, 28, 46, 182, 0, 132, 79, 132, 2, 1] := by decide +kernel
theorem dX12_fetches_24 : decode cX12_fetches 24 = .ok (.getfield 19, 3) := dk_1180 (dk_g tcX12_fetches_2 0 rfl) (dk_g tcX12_fetches_2 1 rfl) (dk_g tcX12_fetches_2 2 rfl) rfl
theorem dX12_fetches_27 : decode cX12_fetches 27 = .ok (.iload_n 2, 1) := dk_1028 (dk_g tcX12_fetches_2 3 rfl)
theorem dX12_fetches_28 : decode cX12_fetches 28 = .ok (.iaload, 1) := dk_1046 (dk_g tcX12_fetches_2 4 rfl)
theorem dX12_fetches_29 : decode cX12_fetches 29 = .ok (.invokevirtual 132, 3) := dk_1182 (dk_g tcX12_fetches_2 5 rfl) (dk_g tcX12_fetches_2 6 rfl) (dk_g tcX12_fetches_2 7 rfl) rfl
theorem dX12_fetches_32 : decode cX12_fetches 32 = .ok (.iastore, 1) := dk_1079 (dk_g tcX12_fetches_2 8 rfl)
theorem dX12_fetches_33 : decode cX12_fetches 33 = .ok (.iinc 2 1, 3) := dk_1132 (dk_g tcX12_fetches_2 9 rfl) (dk_g tcX12_fetches_2 10 rfl) (dk_g tcX12_fetches_2 11 rfl) rfl (by decide +kernel)
theorem tcX12_fetches_3 : (cX12_fetches.data.toList.drop 36).take 12 = [167, 255, 222, 177] := by decide +kernel
theorem dX12_fetches_36 : decode cX12_fetches 36 = .ok (.goto (-34), 3) := dk_1167 (dk_g tcX12_fetches_3 0 rfl) (dk_g tcX12_fetches_3 1 rfl) (dk_g tcX12_fetches_3 2 rfl) (by decide +kernel)
theorem dX12_fetches_39 : decode cX12_fetches 39 = .ok (.return_, 1) := dk_1177 (dk_g tcX12_fetches_3 3 rfl)
theorem tcX12_pads_0 : (cX12_pads.data.toList.drop 0).take 12 = [42, 27, 182, 0, 161, 3, 61, 28, 42, 180, 0, 139] := by decide +kernel
theorem dX12_pads_0 : decode cX12_pads 0 = .ok (.aload_n 0, 1) := dk_1042 (dk_g tcX12_pads_0 0 rfl)
theorem dX12_pads_1 : decode cX12_pads 1 = .ok (.iload_n 1, 1) := dk_1027 (dk_g tcX12_pads_0 1 rfl)
theorem dX12_pads_2 : decode cX12_pads 2 = .ok (.invokevirtual 161, 3) := dk_1182 (dk_g tcX12_pads_0 2 rfl) (dk_g tcX12_pads_0 3 rfl) (dk_g tcX12_pads_0 4 rfl) rfl
theorem dX12_pads_5 : decode cX12_pads 5 = .ok (.iconst 0, 1) := dk_1003 (dk_g tcX12_pads_0 5 rfl)
theorem dX12_pads_6 : decode cX12_pads 6 = .ok (.istore_n 2, 1) := dk_1061 (dk_g tcX12_pads_0 6 rfl)
theorem dX12_pads_7 : decode cX12_pads 7 = .ok (.iload_n 2, 1) := dk_1028 (dk_g tcX12_pads_0 7 rfl)
theorem dX12_pads_8 : decode cX12_pads 8 = .ok (.aload_n 0, 1) := dk_1042 (dk_g tcX12_pads_0 8 rfl)
theorem dX12_pads_9 : decode cX12_pads 9 = .ok (.getfield 139, 3) := dk_1180 (dk_g tcX12_pads_0 9 rfl) (dk_g tcX12_pads_0 10 rfl) (dk_g tcX12_pads_0 11 rfl) rfl
theorem tcX12_pads_1 : (cX12_pads.data.toList.drop 12).take 12 = [162, 0, 24, 42, 180, 0, 7, 16, 8, 28, 96, 42] := by decide +kernel
theorem dX12_pads_12 : decode cX12_pads 12 = .ok (.if_icmp .ge 24, 3) := dk_2162 (dk_g tcX12_pads_1 0 rfl) (dk_g tcX12_pads_1 1 rfl) (dk_g tcX12_pads_1 2 rfl) rfl rfl
theorem dX12_pads_15 : decode cX12_pads 15 = .ok (.aload_n 0, 1) := dk_1042 (dk_g tcX12_pads_1 3 rfl)
theorem dX12_pads_16 : decode cX12_pads 16 = .ok (.getfield 7, 3) := dk_1180 (dk_g tcX12_pads_1 4 rfl) (dk_g tcX12_pads_1 5 rfl) (dk_g tcX12_pads_1 6 rfl) rfl
theorem dX12_pads_19 : decode cX12_pads 19 = .ok (.bipush 8, 2) := dk_1016 (dk_g tcX12_pads_1 7 rfl) (dk_g tcX12_pads_1 8 rfl) (by decide +kernel)
theorem dX12_pads_21 : decode cX12_pads 21 = .ok (.iload_n 2, 1) := dk_1028 (dk_g tcX12_pads_1 9 rfl)
theorem dX12_pads_22 : decode cX12_pads 22 = .ok (.iadd, 1) := dk_1096 (dk_g tcX12_pads_1 10 rfl)
theorem dX12_pads_23 : decode cX12_pads 23 = .ok (.aload_n 0, 1) := dk_1042 (dk_g tcX12_pads_1 11 rfl)
theorem tcX12_pads_2 : (cX12_pads.data.toList.drop 24).take 12 = [180, 0, 22, 28, 46, 79, 132, 2, 1, 167, 255, 230] := by decide +kernel
theorem dX12_pads_24 : decode cX12_pads 24 = .ok (.getfield 22, 3) := dk_1180 (dk_g tcX12_pads_2 0 rfl) (dk_g tcX12_pads_2 1 rfl) (dk_g tcX12_pads_2 2 rfl) rfl
theorem dX12_pads_27 : decode cX12_pads 27 = .ok (.iload_n 2, 1) := dk_1028 (dk_g tcX12_pads_2 3 rfl)
theorem dX12_pads_28 : decode cX12_pads 28 = .ok (.iaload, 1) := dk_1046 (dk_g tcX12_pads_2 4 rfl)
theorem dX12_pads_29 : decode cX12_pads 29 = .ok (.iastore, 1) := dk_1079 (dk_g tcX12_pads_2 5 rfl)
theorem dX12_pads_30 : decode cX12_pads 30 = .ok (.iinc 2 1, 3) := dk_1132 (dk_g tcX12_pads_2 6 rfl) (dk_g tcX12_pads_2 7 rfl) (dk_g tcX12_pads_2 8 rfl) rfl (by decide +kernel)
theorem dX12_pads_33 : decode cX12_pads 33 = .ok (.goto (-26), 3) := dk_1167 (dk_g tcX12_pads_2 9 rfl) (dk_g tcX12_pads_2 10 rfl) (dk_g tcX12_pads_2 11 rfl) (by decide +kernel)
theorem tcX12_pads_3 : (cX12_pads.data.toList.drop 36).take 12 = [42, 180, 0, 7, 5, 42, 180, 0, 139, 79, 42, 180] := by decide +kernel
theorem dX12_pads_36 : decode cX12_pads 36 = .ok (.aload_n 0, 1) := dk_1042 (dk_g tcX12_pads_3 0 rfl)
theorem dX12_pads_37 : decode cX12_pads 37 = .ok (.getfield 7, 3) := dk_1180 (dk_g tcX12_pads_3 1 rfl) (dk_g tcX12_pads_3 2 rfl) (dk_g tcX12_pads_3 3 rfl) rfl
theorem dX12_pads_40 : decode cX12_pads 40 = .ok (.iconst 2, 1) := dk_1005 (dk_g tcX12_pads_3 4 rfl)
theorem dX12_pads_41 : decode cX12_pads 41 = .ok (.aload_n 0, 1) := dk_1042 (dk_g tcX12_pads_3 5 rfl)
theorem dX12_pads_42 : decode cX12_pads 42 = .ok (.getfield 139, 3) := dk_1180 (dk_g tcX12_pads_3 6 rfl) (dk_g tcX12_pads_3 7 rfl) (dk_g tcX12_pads_3 8 rfl) rfl
theorem dX12_pads_45 : decode cX12_pads 45 = .ok (.iastore, 1) := dk_1079 (dk_g tcX12_pads_3 9 rfl)
theorem dX12_pads_46 : decode cX12_pads 46 = .ok (.aload_n 0, 1) := dk_1042 (dk_g tcX12_pads_3 10 rfl)
theorem tcX12_pads_4 : (cX12_pads.data.toList.drop 48).take 12 = [0, 139, 172] := by decide +kernel
theorem dX12_pads_47 : decode cX12_pads 47 = .ok (.getfield 139, 3) := dk_1180 (dk_g tcX12_pads_3 11 rfl) (dk_g tcX12_pads_4 0 rfl) (dk_g tcX12_pads_4 1 rfl) rfl
theorem dX12_pads_50 : decode cX12_pads 50 = .ok (.ireturn, 1) := dk_1172 (dk_g tcX12_pads_4 2 rfl)
theorem tcX12_fromPad_0 : (cX12_fromPad.data.toList.drop 0).take 12 = [3, 60, 27, 42, 180, 0, 7, 5, 46, 162, 0, 24] := by decide +kernel
theorem dX12_fromPad_0 : decode cX12_fromPad 0 = .ok (.iconst 0, 1) := dk_1003 (dk_g tcX12_fromPad_0 0 rfl)
theorem dX12_fromPad_1 : decode cX12_fromPad 1 = .ok (.istore_n 1, 1) := dk_1060 (dk_g tcX12_fromPad_0 1 rfl)
theorem dX12_fromPad_2 : decode cX12_fromPad 2 = .ok (.iload_n 1, 1) := dk_1027 (dk_g tcX12_fromPad_0 2 rfl)
theorem dX12_fromPad_3 : decode cX12_fromPad 3 = .ok (.aload_n 0, 1) := dk_1042 (dk_g tcX12_fromPad_0 3 rfl)
theorem dX12_fromPad_4 : decode cX12_fromPad 4 = .ok (.getfield 7, 3) := dk_1180 (dk_g tcX12_fromPad_0 4 rfl) (dk_g tcX12_fromPad_0 5 rfl) (dk_g tcX12_fromPad_0 6 rfl) rfl
theorem dX12_fromPad_7 : decode cX12_fromPad 7 = .ok (.iconst 2, 1) := dk_1005 (dk_g tcX12_fromPad_0 7 rfl)
theorem dX12_fromPad_8 : decode cX12_fromPad 8 = .ok (.iaload, 1) := dk_1046 (dk_g tcX12_fromPad_0 8 rfl)
theorem dX12_fromPad_9 : decode cX12_fromPad 9 = .ok (.if_icmp .ge 24, 3) := dk_2162 (dk_g tcX12_fromPad_0 9 rfl) (dk_g tcX12_fromPad_0 10 rfl) (dk_g tcX12_fromPad_0 11 rfl) rfl rfl
theorem tcX12_fromPad_1 : (cX12_fromPad.data.toList.drop 12).take 12 = [42, 180, 0, 22, 27, 42, 180, 0, 7, 16, 8, 27] := by decide +kernel
theorem dX12_fromPad_12 : decode cX12_fromPad 12 = .ok (.aload_n 0, 1) := dk_1042 (dk_g tcX12_fromPad_1 0 rfl)
theorem dX12_fromPad_13 : decode cX12_fromPad 13 = .ok (.getfield 22, 3) := dk_1180 (dk_g tcX12_fromPad_1 1 rfl) (dk_g tcX12_fromPad_1 2 rfl) (dk_g tcX12_fromPad_1 3 rfl) rfl
theorem dX12_fromPad_16 : decode cX12_fromPad 16 = .ok (.iload_n 1, 1) := dk_1027 (dk_g tcX12_fromPad_1 4 rfl)
theorem dX12_fromPad_17 : decode cX12_fromPad 17 = .ok (.aload_n 0, 1) := dk_1042 (dk_g tcX12_fromPad_1 5 rfl)
theorem dX12_fromPad_18 : decode cX12_fromPad 18 = .ok (.getfield 7, 3) := dk_1180 (dk_g tcX12_fromPad_1 6 rfl) (dk_g tcX12_fromPad_1 7 rfl) (dk_g tcX12_fromPad_1 8 rfl) rfl
theorem dX12_fromPad_21 : decode cX12_fromPad 21 = .ok (.bipush 8, 2) := dk_1016 (dk_g tcX12_fromPad_1 9 rfl) (dk_g tcX12_fromPad_1 10 rfl) (by decide +kernel)
theorem dX12_fromPad_23 : decode cX12_fromPad 23 = .ok (.iload_n 1, 1) := dk_1027 (dk_g tcX12_fromPad_1 11 rfl)
theorem tcX12_fromPad_2 : (cX12_fromPad.data.toList.drop 24).take 12 = [96, 46, 79, 132, 1, 1, 167, 255, 228, 42, 180, 0] := by decide +kernel
theorem dX12_fromPad_24 : decode cX12_fromPad 24 = .ok (.iadd, 1) := dk_1096 (dk_g tcX12_fromPad_2 0 rfl)
theorem dX12_fromPad_25 : decode cX12_fromPad 25 = .ok (.iaload, 1) := dk_1046 (dk_g tcX12_fromPad_2 1 rfl)
theorem dX12_fromPad_26 : decode cX12_fromPad 26 = .ok (.iastore, 1) := dk_1079 (dk_g tcX12_fromPad_2 2 rfl)
theorem dX12_fromPad_27 : decode cX12_fromPad 27 = .ok (.iinc 1 1, 3) := dk_1132 (dk_g tcX12_fromPad_2 3 rfl) (dk_g tcX12_fromPad_2 4 rfl) (dk_g tcX12_fromPad_2 5 rfl) rfl (by decide +kernel)
theorem dX12_fromPad_30 : decode cX12_fromPad 30 = .ok (.goto (-28), 3) := dk_1167 (dk_g tcX12_fromPad_2 6 rfl) (dk_g tcX12_fromPad_2 7 rfl) (dk_g tcX12_fromPad_2 8 rfl) (by decide +kernel)
theorem dX12_fromPad_33 : decode cX12_fromPad 33 = .ok (.aload_n 0, 1) := dk_1042 (dk_g tcX12_fromPad_2 9 rfl)
theorem tcX12_fromPad_3 : (cX12_fromPad.data.toList.drop 36).take 12 = [7, 5, 46, 172] := by decide +kernel
theorem dX12_fromPad_34 : decode cX12_fromPad 34 = .ok (.getfield 7, 3) := dk_1180 (dk_g tcX12_fromPad_2 10 rfl) (dk_g tcX12_fromPad_2 11 rfl) (dk_g tcX12_fromPad_3 0 rfl) rfl
theorem dX12_fromPad_37 : decode cX12_fromPad 37 = .ok (.iconst 2, 1) := dk_1005 (dk_g tcX12_fromPad_3 1 rfl)
theorem dX12_fromPad_38 : decode cX12_fromPad 38 = .ok (.iaload, 1) := dk_1046 (dk_g tcX12_fromPad_3 2 rfl)
theorem dX12_fromPad_39 : decode cX12_fromPad 39 = .ok (.ireturn, 1) := dk_1172 (dk_g tcX12_fromPad_3 3 rfl)
theorem tcX12_foldsIn_0 : (cX12_foldsIn.data.toList.drop 0).take 12 = [29, 4, 160, 0, 5, 27, 172, 29, 184, 0, 128, 54] := by decide +kernel
theorem dX12_foldsIn_0 : decode cX12_foldsIn 0 = .ok (.iload_n 3, 1) := dk_1029 (dk_g tcX12_foldsIn_0 0 rfl)
theorem dX12_foldsIn_1 : decode cX12_foldsIn 1 = .ok (.iconst 1, 1) := dk_1004 (dk_g tcX12_foldsIn_0 1 rfl)
theorem dX12_foldsIn_2 : decode cX12_foldsIn 2 = .ok (.if_icmp .ne 5, 3) := dk_2160 (dk_g tcX12_foldsIn_0 2 rfl) (dk_g tcX12_foldsIn_0 3 rfl) (dk_g tcX12_foldsIn_0 4 rfl) rfl rfl
theorem dX12_foldsIn_5 : decode cX12_foldsIn 5 = .ok (.iload_n 1, 1) := dk_1027 (dk_g tcX12_foldsIn_0 5 rfl)
theorem dX12_foldsIn_6 : decode cX12_foldsIn 6 = .ok (.ireturn, 1) := dk_1172 (dk_g tcX12_foldsIn_0 6 rfl)
theorem dX12_foldsIn_7 : decode cX12_foldsIn 7 = .ok (.iload_n 3, 1) := dk_1029 (dk_g tcX12_foldsIn_0 7 rfl)
theorem dX12_foldsIn_8 : decode cX12_foldsIn 8 = .ok (.invokestatic 128, 3) := dk_1184 (dk_g tcX12_foldsIn_0 8 rfl) (dk_g tcX12_foldsIn_0 9 rfl) (dk_g tcX12_foldsIn_0 10 rfl) rfl
theorem tcX12_foldsIn_1 : (cX12_foldsIn.data.toList.drop 12).take 12 = [4, 28, 21, 4, 162, 0, 41, 42, 27, 28, 21, 4] := by decide +kernel
theorem dX12_foldsIn_11 : decode cX12_foldsIn 11 = .ok (.istore 4, 2) := dk_1054 (dk_g tcX12_foldsIn_0 11 rfl) (dk_g tcX12_foldsIn_1 0 rfl) rfl
theorem dX12_foldsIn_13 : decode cX12_foldsIn 13 = .ok (.iload_n 2, 1) := dk_1028 (dk_g tcX12_foldsIn_1 1 rfl)
theorem dX12_foldsIn_14 : decode cX12_foldsIn 14 = .ok (.iload 4, 2) := dk_1021 (dk_g tcX12_foldsIn_1 2 rfl) (dk_g tcX12_foldsIn_1 3 rfl) rfl
theorem dX12_foldsIn_16 : decode cX12_foldsIn 16 = .ok (.if_icmp .ge 41, 3) := dk_2162 (dk_g tcX12_foldsIn_1 4 rfl) (dk_g tcX12_foldsIn_1 5 rfl) (dk_g tcX12_foldsIn_1 6 rfl) rfl rfl
theorem dX12_foldsIn_19 : decode cX12_foldsIn 19 = .ok (.aload_n 0, 1) := dk_1042 (dk_g tcX12_foldsIn_1 7 rfl)
theorem dX12_foldsIn_20 : decode cX12_foldsIn 20 = .ok (.iload_n 1, 1) := dk_1027 (dk_g tcX12_foldsIn_1 8 rfl)
theorem dX12_foldsIn_21 : decode cX12_foldsIn 21 = .ok (.iload_n 2, 1) := dk_1028 (dk_g tcX12_foldsIn_1 9 rfl)
theorem dX12_foldsIn_22 : decode cX12_foldsIn 22 = .ok (.iload 4, 2) := dk_1021 (dk_g tcX12_foldsIn_1 10 rfl) (dk_g tcX12_foldsIn_1 11 rfl) rfl
theorem tcX12_foldsIn_2 : (cX12_foldsIn.data.toList.drop 24).take 12 = [182, 0, 165, 54, 5, 42, 89, 180, 0, 168, 4, 96] := by decide +kernel
theorem dX12_foldsIn_24 : decode cX12_foldsIn 24 = .ok (.invokevirtual 165, 3) := dk_1182 (dk_g tcX12_foldsIn_2 0 rfl) (dk_g tcX12_foldsIn_2 1 rfl) (dk_g tcX12_foldsIn_2 2 rfl) rfl
theorem dX12_foldsIn_27 : decode cX12_foldsIn 27 = .ok (.istore 5, 2) := dk_1054 (dk_g tcX12_foldsIn_2 3 rfl) (dk_g tcX12_foldsIn_2 4 rfl) rfl
theorem dX12_foldsIn_29 : decode cX12_foldsIn 29 = .ok (.aload_n 0, 1) := dk_1042 (dk_g tcX12_foldsIn_2 5 rfl)
theorem dX12_foldsIn_30 : decode cX12_foldsIn 30 = .ok (.dup, 1) := dk_1089 (dk_g tcX12_foldsIn_2 6 rfl)
theorem dX12_foldsIn_31 : decode cX12_foldsIn 31 = .ok (.getfield 168, 3) := dk_1180 (dk_g tcX12_foldsIn_2 7 rfl) (dk_g tcX12_foldsIn_2 8 rfl) (dk_g tcX12_foldsIn_2 9 rfl) rfl
theorem dX12_foldsIn_34 : decode cX12_foldsIn 34 = .ok (.iconst 1, 1) := dk_1004 (dk_g tcX12_foldsIn_2 10 rfl)
theorem dX12_foldsIn_35 : decode cX12_foldsIn 35 = .ok (.iadd, 1) := dk_1096 (dk_g tcX12_foldsIn_2 11 rfl)
theorem tcX12_foldsIn_3 : (cX12_foldsIn.data.toList.drop 36).take 12 = [181, 0, 168, 42, 21, 5, 42, 180, 0, 22, 42, 180] := by decide +kernel
theorem dX12_foldsIn_36 : decode cX12_foldsIn 36 = .ok (.putfield 168, 3) := dk_1181 (dk_g tcX12_foldsIn_3 0 rfl) (dk_g tcX12_foldsIn_3 1 rfl) (dk_g tcX12_foldsIn_3 2 rfl) rfl
theorem dX12_foldsIn_39 : decode cX12_foldsIn 39 = .ok (.aload_n 0, 1) := dk_1042 (dk_g tcX12_foldsIn_3 3 rfl)
theorem dX12_foldsIn_40 : decode cX12_foldsIn 40 = .ok (.iload 5, 2) := dk_1021 (dk_g tcX12_foldsIn_3 4 rfl) (dk_g tcX12_foldsIn_3 5 rfl) rfl
theorem dX12_foldsIn_42 : decode cX12_foldsIn 42 = .ok (.aload_n 0, 1) := dk_1042 (dk_g tcX12_foldsIn_3 6 rfl)
theorem dX12_foldsIn_43 : decode cX12_foldsIn 43 = .ok (.getfield 22, 3) := dk_1180 (dk_g tcX12_foldsIn_3 7 rfl) (dk_g tcX12_foldsIn_3 8 rfl) (dk_g tcX12_foldsIn_3 9 rfl) rfl
theorem dX12_foldsIn_46 : decode cX12_foldsIn 46 = .ok (.aload_n 0, 1) := dk_1042 (dk_g tcX12_foldsIn_3 10 rfl)
theorem tcX12_foldsIn_4 : (cX12_foldsIn.data.toList.drop 48).take 12 = [0, 168, 4, 100, 46, 182, 0, 136, 172, 42, 27, 28] := by decide +kernel
theorem dX12_foldsIn_47 : decode cX12_foldsIn 47 = .ok (.getfield 168, 3) := dk_1180 (dk_g tcX12_foldsIn_3 11 rfl) (dk_g tcX12_foldsIn_4 0 rfl) (dk_g tcX12_foldsIn_4 1 rfl) rfl
theorem dX12_foldsIn_50 : decode cX12_foldsIn 50 = .ok (.iconst 1, 1) := dk_1004 (dk_g tcX12_foldsIn_4 2 rfl)
theorem dX12_foldsIn_51 : decode cX12_foldsIn 51 = .ok (.isub, 1) := dk_1100 (dk_g tcX12_foldsIn_4 3 rfl)
theorem dX12_foldsIn_52 : decode cX12_foldsIn 52 = .ok (.iaload, 1) := dk_1046 (dk_g tcX12_foldsIn_4 4 rfl)
theorem dX12_foldsIn_53 : decode cX12_foldsIn 53 = .ok (.invokevirtual 136, 3) := dk_1182 (dk_g tcX12_foldsIn_4 5 rfl) (dk_g tcX12_foldsIn_4 6 rfl) (dk_g tcX12_foldsIn_4 7 rfl) rfl
theorem dX12_foldsIn_56 : decode cX12_foldsIn 56 = .ok (.ireturn, 1) := dk_1172 (dk_g tcX12_foldsIn_4 8 rfl)
theorem dX12_foldsIn_57 : decode cX12_foldsIn 57 = .ok (.aload_n 0, 1) := dk_1042 (dk_g tcX12_foldsIn_4 9 rfl)
theorem dX12_foldsIn_58 : decode cX12_foldsIn 58 = .ok (.iload_n 1, 1) := dk_1027 (dk_g tcX12_foldsIn_4 10 rfl)
theorem dX12_foldsIn_59 : decode cX12_foldsIn 59 = .ok (.iload_n 2, 1) := dk_1028 (dk_g tcX12_foldsIn_4 11 rfl)
theorem tcX12_foldsIn_5 : (cX12_foldsIn.data.toList.drop 60).take 12 = [21, 4, 100, 29, 21, 4, 100, 182, 0, 165, 54, 5] := by decide +kernel
theorem dX12_foldsIn_60 : decode cX12_foldsIn 60 = .ok (.iload 4, 2) := dk_1021 (dk_g tcX12_foldsIn_5 0 rfl) (dk_g tcX12_foldsIn_5 1 rfl) rfl
theorem dX12_foldsIn_62 : decode cX12_foldsIn 62 = .ok (.isub, 1) := dk_1100 (dk_g tcX12_foldsIn_5 2 rfl)
theorem dX12_foldsIn_63 : decode cX12_foldsIn 63 = .ok (.iload_n 3, 1) := dk_1029 (dk_g tcX12_foldsIn_5 3 rfl)
theorem dX12_foldsIn_64 : decode cX12_foldsIn 64 = .ok (.iload 4, 2) := dk_1021 (dk_g tcX12_foldsIn_5 4 rfl) (dk_g tcX12_foldsIn_5 5 rfl) rfl
theorem dX12_foldsIn_66 : decode cX12_foldsIn 66 = .ok (.isub, 1) := dk_1100 (dk_g tcX12_foldsIn_5 6 rfl)
theorem dX12_foldsIn_67 : decode cX12_foldsIn 67 = .ok (.invokevirtual 165, 3) := dk_1182 (dk_g tcX12_foldsIn_5 7 rfl) (dk_g tcX12_foldsIn_5 8 rfl) (dk_g tcX12_foldsIn_5 9 rfl) rfl
theorem dX12_foldsIn_70 : decode cX12_foldsIn 70 = .ok (.istore 5, 2) := dk_1054 (dk_g tcX12_foldsIn_5 10 rfl) (dk_g tcX12_foldsIn_5 11 rfl) rfl
theorem tcX12_foldsIn_6 : (cX12_foldsIn.data.toList.drop 72).take 12 = [42, 89, 180, 0, 168, 4, 96, 181, 0, 168, 42, 42] := by decide +kernel
theorem dX12_foldsIn_72 : decode cX12_foldsIn 72 = .ok (.aload_n 0, 1) := dk_1042 (dk_g tcX12_foldsIn_6 0 rfl)
theorem dX12_foldsIn_73 : decode cX12_foldsIn 73 = .ok (.dup, 1) := dk_1089 (dk_g tcX12_foldsIn_6 1 rfl)
theorem dX12_foldsIn_74 : decode cX12_foldsIn 74 = .ok (.getfield 168, 3) := dk_1180 (dk_g tcX12_foldsIn_6 2 rfl) (dk_g tcX12_foldsIn_6 3 rfl) (dk_g tcX12_foldsIn_6 4 rfl) rfl
theorem dX12_foldsIn_77 : decode cX12_foldsIn 77 = .ok (.iconst 1, 1) := dk_1004 (dk_g tcX12_foldsIn_6 5 rfl)
theorem dX12_foldsIn_78 : decode cX12_foldsIn 78 = .ok (.iadd, 1) := dk_1096 (dk_g tcX12_foldsIn_6 6 rfl)
theorem dX12_foldsIn_79 : decode cX12_foldsIn 79 = .ok (.putfield 168, 3) := dk_1181 (dk_g tcX12_foldsIn_6 7 rfl) (dk_g tcX12_foldsIn_6 8 rfl) (dk_g tcX12_foldsIn_6 9 rfl) rfl
theorem dX12_foldsIn_82 : decode cX12_foldsIn 82 = .ok (.aload_n 0, 1) := dk_1042 (dk_g tcX12_foldsIn_6 10 rfl)
theorem dX12_foldsIn_83 : decode cX12_foldsIn 83 = .ok (.aload_n 0, 1) := dk_1042 (dk_g tcX12_foldsIn_6 11 rfl)
theorem tcX12_foldsIn_7 : (cX12_foldsIn.data.toList.drop 84).take 12 = [180, 0, 22, 42, 180, 0, 168, 4, 100, 46, 21, 5] := by decide +kernel
theorem dX12_foldsIn_84 : decode cX12_foldsIn 84 = .ok (.getfield 22, 3) := dk_1180 (dk_g tcX12_foldsIn_7 0 rfl) (dk_g tcX12_foldsIn_7 1 rfl) (dk_g tcX12_foldsIn_7 2 rfl) rfl
theorem dX12_foldsIn_87 : decode cX12_foldsIn 87 = .ok (.aload_n 0, 1) := dk_1042 (dk_g tcX12_foldsIn_7 3 rfl)
theorem dX12_foldsIn_88 : decode cX12_foldsIn 88 = .ok (.getfield 168, 3) := dk_1180 (dk_g tcX12_foldsIn_7 4 rfl) (dk_g tcX12_foldsIn_7 5 rfl) (dk_g tcX12_foldsIn_7 6 rfl) rfl
theorem dX12_foldsIn_91 : decode cX12_foldsIn 91 = .ok (.iconst 1, 1) := dk_1004 (dk_g tcX12_foldsIn_7 7 rfl)
theorem dX12_foldsIn_92 : decode cX12_foldsIn 92 = .ok (.isub, 1) := dk_1100 (dk_g tcX12_foldsIn_7 8 rfl)
theorem dX12_foldsIn_93 : decode cX12_foldsIn 93 = .ok (.iaload, 1) := dk_1046 (dk_g tcX12_foldsIn_7 9 rfl)
theorem dX12_foldsIn_94 : decode cX12_foldsIn 94 = .ok (.iload 5, 2) := dk_1021 (dk_g tcX12_foldsIn_7 10 rfl) (dk_g tcX12_foldsIn_7 11 rfl) rfl
theorem tcX12_foldsIn_8 : (cX12_foldsIn.data.toList.drop 96).take 12 = [182, 0, 136, 172] := by decide +kernel
theorem dX12_foldsIn_96 : decode cX12_foldsIn 96 = .ok (.invokevirtual 136, 3) := dk_1182 (dk_g tcX12_foldsIn_8 0 rfl) (dk_g tcX12_foldsIn_8 1 rfl) (dk_g tcX12_foldsIn_8 2 rfl) rfl
theorem dX12_foldsIn_99 : decode cX12_foldsIn 99 = .ok (.ireturn, 1) := dk_1172 (dk_g tcX12_foldsIn_8 3 rfl)
theorem tcX12_folded_0 : (cX12_folded.data.toList.drop 0).take 12 = [42, 3, 181, 0, 168, 42, 27, 28, 29, 182, 0, 165] := by decide +kernel
theorem dX12_folded_0 : decode cX12_folded 0 = .ok (.aload_n 0, 1) := dk_1042 (dk_g tcX12_folded_0 0 rfl)
theorem dX12_folded_1 : decode cX12_folded 1 = .ok (.iconst 0, 1) := dk_1003 (dk_g tcX12_folded_0 1 rfl)
theorem dX12_folded_2 : decode cX12_folded 2 = .ok (.putfield 168, 3) := dk_1181 (dk_g tcX12_folded_0 2 rfl) (dk_g tcX12_folded_0 3 rfl) (dk_g tcX12_folded_0 4 rfl) rfl
theorem dX12_folded_5 : decode cX12_folded 5 = .ok (.aload_n 0, 1) := dk_1042 (dk_g tcX12_folded_0 5 rfl)
theorem dX12_folded_6 : decode cX12_folded 6 = .ok (.iload_n 1, 1) := dk_1027 (dk_g tcX12_folded_0 6 rfl)
theorem dX12_folded_7 : decode cX12_folded 7 = .ok (.iload_n 2, 1) := dk_1028 (dk_g tcX12_folded_0 7 rfl)
theorem dX12_folded_8 : decode cX12_folded 8 = .ok (.iload_n 3, 1) := dk_1029 (dk_g tcX12_folded_0 8 rfl)
theorem dX12_folded_9 : decode cX12_folded 9 = .ok (.invokevirtual 165, 3) := dk_1182 (dk_g tcX12_folded_0 9 rfl) (dk_g tcX12_folded_0 10 rfl) (dk_g tcX12_folded_0 11 rfl) rfl
theorem tcX12_folded_1 : (cX12_folded.data.toList.drop 12).take 12 = [172] := by decide +kernel
theorem dX12_folded_12 : decode cX12_folded 12 = .ok (.ireturn, 1) := dk_1172 (dk_g tcX12_folded_1 0 rfl)
theorem tcX12_why_0 : (cX12_why.data.toList.drop 0).take 12 = [27, 28, 162, 0, 7, 4, 167, 0, 21, 27, 28, 164] := by decide +kernel
theorem dX12_why_0 : decode cX12_why 0 = .ok (.iload_n 1, 1) := dk_1027 (dk_g tcX12_why_0 0 rfl)
theorem dX12_why_1 : decode cX12_why 1 = .ok (.iload_n 2, 1) := dk_1028 (dk_g tcX12_why_0 1 rfl)
theorem dX12_why_2 : decode cX12_why 2 = .ok (.if_icmp .ge 7, 3) := dk_2162 (dk_g tcX12_why_0 2 rfl) (dk_g tcX12_why_0 3 rfl) (dk_g tcX12_why_0 4 rfl) rfl rfl
theorem dX12_why_5 : decode cX12_why 5 = .ok (.iconst 1, 1) := dk_1004 (dk_g tcX12_why_0 5 rfl)
theorem dX12_why_6 : decode cX12_why 6 = .ok (.goto 21, 3) := dk_2167 (dk_g tcX12_why_0 6 rfl) (dk_g tcX12_why_0 7 rfl) (dk_g tcX12_why_0 8 rfl) rfl rfl
theorem dX12_why_9 : decode cX12_why 9 = .ok (.iload_n 1, 1) := dk_1027 (dk_g tcX12_why_0 9 rfl)
theorem dX12_why_10 : decode cX12_why 10 = .ok (.iload_n 2, 1) := dk_1028 (dk_g tcX12_why_0 10 rfl)
theorem tcX12_why_1 : (cX12_why.data.toList.drop 12).take 12 = [0, 7, 5, 167, 0, 12, 29, 153, 0, 7, 3, 167] := by decide +kernel
theorem dX12_why_11 : decode cX12_why 11 = .ok (.if_icmp .le 7, 3) := dk_2164 (dk_g tcX12_why_0 11 rfl) (dk_g tcX12_why_1 0 rfl) (dk_g tcX12_why_1 1 rfl) rfl rfl
theorem dX12_why_14 : decode cX12_why 14 = .ok (.iconst 2, 1) := dk_1005 (dk_g tcX12_why_1 2 rfl)
theorem dX12_why_15 : decode cX12_why 15 = .ok (.goto 12, 3) := dk_2167 (dk_g tcX12_why_1 3 rfl) (dk_g tcX12_why_1 4 rfl) (dk_g tcX12_why_1 5 rfl) rfl rfl
theorem dX12_why_18 : decode cX12_why 18 = .ok (.iload_n 3, 1) := dk_1029 (dk_g tcX12_why_1 6 rfl)
theorem dX12_why_19 : decode cX12_why 19 = .ok (.ifCond .eq 7, 3) := dk_2153 (dk_g tcX12_why_1 7 rfl) (dk_g tcX12_why_1 8 rfl) (dk_g tcX12_why_1 9 rfl) rfl rfl
theorem dX12_why_22 : decode cX12_why 22 = .ok (.iconst 0, 1) := dk_1003 (dk_g tcX12_why_1 10 rfl)
theorem tcX12_why_2 : (cX12_why.data.toList.drop 24).take 12 = [0, 4, 6, 172] := by decide +kernel
theorem dX12_why_23 : decode cX12_why 23 = .ok (.goto 4, 3) := dk_2167 (dk_g tcX12_why_1 11 rfl) (dk_g tcX12_why_2 0 rfl) (dk_g tcX12_why_2 1 rfl) rfl rfl
theorem dX12_why_26 : decode cX12_why 26 = .ok (.iconst 3, 1) := dk_1006 (dk_g tcX12_why_2 2 rfl)
theorem dX12_why_27 : decode cX12_why 27 = .ok (.ireturn, 1) := dk_1172 (dk_g tcX12_why_2 3 rfl)
theorem tcX12_whyIn_0 : (cX12_whyIn.data.toList.drop 0).take 12 = [42, 29, 21, 4, 182, 0, 171, 42, 180, 0, 139, 54] := by decide +kernel
theorem dX12_whyIn_0 : decode cX12_whyIn 0 = .ok (.aload_n 0, 1) := dk_1042 (dk_g tcX12_whyIn_0 0 rfl)
theorem dX12_whyIn_1 : decode cX12_whyIn 1 = .ok (.iload_n 3, 1) := dk_1029 (dk_g tcX12_whyIn_0 1 rfl)
theorem dX12_whyIn_2 : decode cX12_whyIn 2 = .ok (.iload 4, 2) := dk_1021 (dk_g tcX12_whyIn_0 2 rfl) (dk_g tcX12_whyIn_0 3 rfl) rfl
theorem dX12_whyIn_4 : decode cX12_whyIn 4 = .ok (.invokevirtual 171, 3) := dk_1182 (dk_g tcX12_whyIn_0 4 rfl) (dk_g tcX12_whyIn_0 5 rfl) (dk_g tcX12_whyIn_0 6 rfl) rfl
theorem dX12_whyIn_7 : decode cX12_whyIn 7 = .ok (.aload_n 0, 1) := dk_1042 (dk_g tcX12_whyIn_0 7 rfl)
theorem dX12_whyIn_8 : decode cX12_whyIn 8 = .ok (.getfield 139, 3) := dk_1180 (dk_g tcX12_whyIn_0 8 rfl) (dk_g tcX12_whyIn_0 9 rfl) (dk_g tcX12_whyIn_0 10 rfl) rfl
theorem tcX12_whyIn_1 : (cX12_whyIn.data.toList.drop 12).take 12 = [6, 42, 27, 21, 6, 27, 21, 6, 160, 0, 16, 42] := by decide +kernel
theorem dX12_whyIn_11 : decode cX12_whyIn 11 = .ok (.istore 6, 2) := dk_1054 (dk_g tcX12_whyIn_0 11 rfl) (dk_g tcX12_whyIn_1 0 rfl) rfl
theorem dX12_whyIn_13 : decode cX12_whyIn 13 = .ok (.aload_n 0, 1) := dk_1042 (dk_g tcX12_whyIn_1 1 rfl)
theorem dX12_whyIn_14 : decode cX12_whyIn 14 = .ok (.iload_n 1, 1) := dk_1027 (dk_g tcX12_whyIn_1 2 rfl)
theorem dX12_whyIn_15 : decode cX12_whyIn 15 = .ok (.iload 6, 2) := dk_1021 (dk_g tcX12_whyIn_1 3 rfl) (dk_g tcX12_whyIn_1 4 rfl) rfl
theorem dX12_whyIn_17 : decode cX12_whyIn 17 = .ok (.iload_n 1, 1) := dk_1027 (dk_g tcX12_whyIn_1 5 rfl)
theorem dX12_whyIn_18 : decode cX12_whyIn 18 = .ok (.iload 6, 2) := dk_1021 (dk_g tcX12_whyIn_1 6 rfl) (dk_g tcX12_whyIn_1 7 rfl) rfl
theorem dX12_whyIn_20 : decode cX12_whyIn 20 = .ok (.if_icmp .ne 16, 3) := dk_2160 (dk_g tcX12_whyIn_1 8 rfl) (dk_g tcX12_whyIn_1 9 rfl) (dk_g tcX12_whyIn_1 10 rfl) rfl rfl
theorem dX12_whyIn_23 : decode cX12_whyIn 23 = .ok (.aload_n 0, 1) := dk_1042 (dk_g tcX12_whyIn_1 11 rfl)
theorem tcX12_whyIn_2 : (cX12_whyIn.data.toList.drop 24).take 12 = [28, 29, 21, 4, 182, 0, 174, 21, 5, 160, 0, 7] := by decide +kernel
theorem dX12_whyIn_24 : decode cX12_whyIn 24 = .ok (.iload_n 2, 1) := dk_1028 (dk_g tcX12_whyIn_2 0 rfl)
theorem dX12_whyIn_25 : decode cX12_whyIn 25 = .ok (.iload_n 3, 1) := dk_1029 (dk_g tcX12_whyIn_2 1 rfl)
theorem dX12_whyIn_26 : decode cX12_whyIn 26 = .ok (.iload 4, 2) := dk_1021 (dk_g tcX12_whyIn_2 2 rfl) (dk_g tcX12_whyIn_2 3 rfl) rfl
theorem dX12_whyIn_28 : decode cX12_whyIn 28 = .ok (.invokevirtual 174, 3) := dk_1182 (dk_g tcX12_whyIn_2 4 rfl) (dk_g tcX12_whyIn_2 5 rfl) (dk_g tcX12_whyIn_2 6 rfl) rfl
theorem dX12_whyIn_31 : decode cX12_whyIn 31 = .ok (.iload 5, 2) := dk_1021 (dk_g tcX12_whyIn_2 7 rfl) (dk_g tcX12_whyIn_2 8 rfl) rfl
theorem dX12_whyIn_33 : decode cX12_whyIn 33 = .ok (.if_icmp .ne 7, 3) := dk_2160 (dk_g tcX12_whyIn_2 9 rfl) (dk_g tcX12_whyIn_2 10 rfl) (dk_g tcX12_whyIn_2 11 rfl) rfl rfl
theorem tcX12_whyIn_3 : (cX12_whyIn.data.toList.drop 36).take 12 = [4, 167, 0, 4, 3, 182, 0, 177, 172] := by decide +kernel
theorem dX12_whyIn_36 : decode cX12_whyIn 36 = .ok (.iconst 1, 1) := dk_1004 (dk_g tcX12_whyIn_3 0 rfl)
theorem dX12_whyIn_37 : decode cX12_whyIn 37 = .ok (.goto 4, 3) := dk_2167 (dk_g tcX12_whyIn_3 1 rfl) (dk_g tcX12_whyIn_3 2 rfl) (dk_g tcX12_whyIn_3 3 rfl) rfl rfl
theorem dX12_whyIn_40 : decode cX12_whyIn 40 = .ok (.iconst 0, 1) := dk_1003 (dk_g tcX12_whyIn_3 4 rfl)
theorem dX12_whyIn_41 : decode cX12_whyIn 41 = .ok (.invokevirtual 177, 3) := dk_1182 (dk_g tcX12_whyIn_3 5 rfl) (dk_g tcX12_whyIn_3 6 rfl) (dk_g tcX12_whyIn_3 7 rfl) rfl
theorem dX12_whyIn_44 : decode cX12_whyIn 44 = .ok (.ireturn, 1) := dk_1172 (dk_g tcX12_whyIn_3 8 rfl)
theorem tcX12_foldsGrowth_0 : (cX12_foldsGrowth.data.toList.drop 0).take 12 = [28, 29, 160, 0, 53, 42, 21, 4, 153, 0, 7, 27] := by decide +kernel
theorem dX12_foldsGrowth_0 : decode cX12_foldsGrowth 0 = .ok (.iload_n 2, 1) := dk_1028 (dk_g tcX12_foldsGrowth_0 0 rfl)
theorem dX12_foldsGrowth_1 : decode cX12_foldsGrowth 1 = .ok (.iload_n 3, 1) := dk_1029 (dk_g tcX12_foldsGrowth_0 1 rfl)
theorem dX12_foldsGrowth_2 : decode cX12_foldsGrowth 2 = .ok (.if_icmp .ne 53, 3) := dk_2160 (dk_g tcX12_foldsGrowth_0 2 rfl) (dk_g tcX12_foldsGrowth_0 3 rfl) (dk_g tcX12_foldsGrowth_0 4 rfl) rfl rfl
theorem dX12_foldsGrowth_5 : decode cX12_foldsGrowth 5 = .ok (.aload_n 0, 1) := dk_1042 (dk_g tcX12_foldsGrowth_0 5 rfl)
theorem dX12_foldsGrowth_6 : decode cX12_foldsGrowth 6 = .ok (.iload 4, 2) := dk_1021 (dk_g tcX12_foldsGrowth_0 6 rfl) (dk_g tcX12_foldsGrowth_0 7 rfl) rfl
theorem dX12_foldsGrowth_8 : decode cX12_foldsGrowth 8 = .ok (.ifCond .eq 7, 3) := dk_2153 (dk_g tcX12_foldsGrowth_0 8 rfl) (dk_g tcX12_foldsGrowth_0 9 rfl) (dk_g tcX12_foldsGrowth_0 10 rfl) rfl rfl
theorem dX12_foldsGrowth_11 : decode cX12_foldsGrowth 11 = .ok (.iload_n 1, 1) := dk_1027 (dk_g tcX12_foldsGrowth_0 11 rfl)
theorem tcX12_foldsGrowth_1 : (cX12_foldsGrowth.data.toList.drop 12).take 12 = [167, 0, 12, 42, 180, 0, 22, 42, 180, 0, 168, 46] := by decide +kernel
theorem dX12_foldsGrowth_12 : decode cX12_foldsGrowth 12 = .ok (.goto 12, 3) := dk_2167 (dk_g tcX12_foldsGrowth_1 0 rfl) (dk_g tcX12_foldsGrowth_1 1 rfl) (dk_g tcX12_foldsGrowth_1 2 rfl) rfl rfl
theorem dX12_foldsGrowth_15 : decode cX12_foldsGrowth 15 = .ok (.aload_n 0, 1) := dk_1042 (dk_g tcX12_foldsGrowth_1 3 rfl)
theorem dX12_foldsGrowth_16 : decode cX12_foldsGrowth 16 = .ok (.getfield 22, 3) := dk_1180 (dk_g tcX12_foldsGrowth_1 4 rfl) (dk_g tcX12_foldsGrowth_1 5 rfl) (dk_g tcX12_foldsGrowth_1 6 rfl) rfl
theorem dX12_foldsGrowth_19 : decode cX12_foldsGrowth 19 = .ok (.aload_n 0, 1) := dk_1042 (dk_g tcX12_foldsGrowth_1 7 rfl)
theorem dX12_foldsGrowth_20 : decode cX12_foldsGrowth 20 = .ok (.getfield 168, 3) := dk_1180 (dk_g tcX12_foldsGrowth_1 8 rfl) (dk_g tcX12_foldsGrowth_1 9 rfl) (dk_g tcX12_foldsGrowth_1 10 rfl) rfl
theorem dX12_foldsGrowth_23 : decode cX12_foldsGrowth 23 = .ok (.iaload, 1) := dk_1046 (dk_g tcX12_foldsGrowth_1 11 rfl)
theorem tcX12_foldsGrowth_2 : (cX12_foldsGrowth.data.toList.drop 24).take 12 = [181, 0, 181, 42, 42, 180, 0, 181, 181, 0, 184, 42] := by decide +kernel
theorem dX12_foldsGrowth_24 : decode cX12_foldsGrowth 24 = .ok (.putfield 181, 3) := dk_1181 (dk_g tcX12_foldsGrowth_2 0 rfl) (dk_g tcX12_foldsGrowth_2 1 rfl) (dk_g tcX12_foldsGrowth_2 2 rfl) rfl
theorem dX12_foldsGrowth_27 : decode cX12_foldsGrowth 27 = .ok (.aload_n 0, 1) := dk_1042 (dk_g tcX12_foldsGrowth_2 3 rfl)
theorem dX12_foldsGrowth_28 : decode cX12_foldsGrowth 28 = .ok (.aload_n 0, 1) := dk_1042 (dk_g tcX12_foldsGrowth_2 4 rfl)
theorem dX12_foldsGrowth_29 : decode cX12_foldsGrowth 29 = .ok (.getfield 181, 3) := dk_1180 (dk_g tcX12_foldsGrowth_2 5 rfl) (dk_g tcX12_foldsGrowth_2 6 rfl) (dk_g tcX12_foldsGrowth_2 7 rfl) rfl
theorem dX12_foldsGrowth_32 : decode cX12_foldsGrowth 32 = .ok (.putfield 184, 3) := dk_1181 (dk_g tcX12_foldsGrowth_2 8 rfl) (dk_g tcX12_foldsGrowth_2 9 rfl) (dk_g tcX12_foldsGrowth_2 10 rfl) rfl
theorem dX12_foldsGrowth_35 : decode cX12_foldsGrowth 35 = .ok (.aload_n 0, 1) := dk_1042 (dk_g tcX12_foldsGrowth_2 11 rfl)
theorem tcX12_foldsGrowth_3 : (cX12_foldsGrowth.data.toList.drop 36).take 12 = [89, 180, 0, 168, 21, 4, 153, 0, 7, 3, 167, 0] := by decide +kernel
theorem dX12_foldsGrowth_36 : decode cX12_foldsGrowth 36 = .ok (.dup, 1) := dk_1089 (dk_g tcX12_foldsGrowth_3 0 rfl)
theorem dX12_foldsGrowth_37 : decode cX12_foldsGrowth 37 = .ok (.getfield 168, 3) := dk_1180 (dk_g tcX12_foldsGrowth_3 1 rfl) (dk_g tcX12_foldsGrowth_3 2 rfl) (dk_g tcX12_foldsGrowth_3 3 rfl) rfl
theorem dX12_foldsGrowth_40 : decode cX12_foldsGrowth 40 = .ok (.iload 4, 2) := dk_1021 (dk_g tcX12_foldsGrowth_3 4 rfl) (dk_g tcX12_foldsGrowth_3 5 rfl) rfl
theorem dX12_foldsGrowth_42 : decode cX12_foldsGrowth 42 = .ok (.ifCond .eq 7, 3) := dk_2153 (dk_g tcX12_foldsGrowth_3 6 rfl) (dk_g tcX12_foldsGrowth_3 7 rfl) (dk_g tcX12_foldsGrowth_3 8 rfl) rfl rfl
theorem dX12_foldsGrowth_45 : decode cX12_foldsGrowth 45 = .ok (.iconst 0, 1) := dk_1003 (dk_g tcX12_foldsGrowth_3 9 rfl)
theorem tcX12_foldsGrowth_4 : (cX12_foldsGrowth.data.toList.drop 48).take 12 = [4, 4, 96, 181, 0, 168, 177, 29, 184, 0, 128, 54] := by decide +kernel
theorem dX12_foldsGrowth_46 : decode cX12_foldsGrowth 46 = .ok (.goto 4, 3) := dk_2167 (dk_g tcX12_foldsGrowth_3 10 rfl) (dk_g tcX12_foldsGrowth_3 11 rfl) (dk_g tcX12_foldsGrowth_4 0 rfl) rfl rfl
theorem dX12_foldsGrowth_49 : decode cX12_foldsGrowth 49 = .ok (.iconst 1, 1) := dk_1004 (dk_g tcX12_foldsGrowth_4 1 rfl)
theorem dX12_foldsGrowth_50 : decode cX12_foldsGrowth 50 = .ok (.iadd, 1) := dk_1096 (dk_g tcX12_foldsGrowth_4 2 rfl)
theorem dX12_foldsGrowth_51 : decode cX12_foldsGrowth 51 = .ok (.putfield 168, 3) := dk_1181 (dk_g tcX12_foldsGrowth_4 3 rfl) (dk_g tcX12_foldsGrowth_4 4 rfl) (dk_g tcX12_foldsGrowth_4 5 rfl) rfl
theorem dX12_foldsGrowth_54 : decode cX12_foldsGrowth 54 = .ok (.return_, 1) := dk_1177 (dk_g tcX12_foldsGrowth_4 6 rfl)
theorem dX12_foldsGrowth_55 : decode cX12_foldsGrowth 55 = .ok (.iload_n 3, 1) := dk_1029 (dk_g tcX12_foldsGrowth_4 7 rfl)
theorem dX12_foldsGrowth_56 : decode cX12_foldsGrowth 56 = .ok (.invokestatic 128, 3) := dk_1184 (dk_g tcX12_foldsGrowth_4 8 rfl) (dk_g tcX12_foldsGrowth_4 9 rfl) (dk_g tcX12_foldsGrowth_4 10 rfl) rfl
theorem tcX12_foldsGrowth_5 : (cX12_foldsGrowth.data.toList.drop 60).take 12 = [5, 28, 21, 5, 163, 0, 37, 42, 27, 28, 21, 5] := by decide +kernel
theorem dX12_foldsGrowth_59 : decode cX12_foldsGrowth 59 = .ok (.istore 5, 2) := dk_1054 (dk_g tcX12_foldsGrowth_4 11 rfl) (dk_g tcX12_foldsGrowth_5 0 rfl) rfl
theorem dX12_foldsGrowth_61 : decode cX12_foldsGrowth 61 = .ok (.iload_n 2, 1) := dk_1028 (dk_g tcX12_foldsGrowth_5 1 rfl)
theorem dX12_foldsGrowth_62 : decode cX12_foldsGrowth 62 = .ok (.iload 5, 2) := dk_1021 (dk_g tcX12_foldsGrowth_5 2 rfl) (dk_g tcX12_foldsGrowth_5 3 rfl) rfl
theorem dX12_foldsGrowth_64 : decode cX12_foldsGrowth 64 = .ok (.if_icmp .gt 37, 3) := dk_2163 (dk_g tcX12_foldsGrowth_5 4 rfl) (dk_g tcX12_foldsGrowth_5 5 rfl) (dk_g tcX12_foldsGrowth_5 6 rfl) rfl rfl
theorem dX12_foldsGrowth_67 : decode cX12_foldsGrowth 67 = .ok (.aload_n 0, 1) := dk_1042 (dk_g tcX12_foldsGrowth_5 7 rfl)
theorem dX12_foldsGrowth_68 : decode cX12_foldsGrowth 68 = .ok (.iload_n 1, 1) := dk_1027 (dk_g tcX12_foldsGrowth_5 8 rfl)
theorem dX12_foldsGrowth_69 : decode cX12_foldsGrowth 69 = .ok (.iload_n 2, 1) := dk_1028 (dk_g tcX12_foldsGrowth_5 9 rfl)
theorem dX12_foldsGrowth_70 : decode cX12_foldsGrowth 70 = .ok (.iload 5, 2) := dk_1021 (dk_g tcX12_foldsGrowth_5 10 rfl) (dk_g tcX12_foldsGrowth_5 11 rfl) rfl
theorem tcX12_foldsGrowth_6 : (cX12_foldsGrowth.data.toList.drop 72).take 12 = [21, 4, 182, 0, 187, 42, 42, 42, 180, 0, 184, 42] := by decide +kernel
theorem dX12_foldsGrowth_72 : decode cX12_foldsGrowth 72 = .ok (.iload 4, 2) := dk_1021 (dk_g tcX12_foldsGrowth_6 0 rfl) (dk_g tcX12_foldsGrowth_6 1 rfl) rfl
theorem dX12_foldsGrowth_74 : decode cX12_foldsGrowth 74 = .ok (.invokevirtual 187, 3) := dk_1182 (dk_g tcX12_foldsGrowth_6 2 rfl) (dk_g tcX12_foldsGrowth_6 3 rfl) (dk_g tcX12_foldsGrowth_6 4 rfl) rfl
theorem dX12_foldsGrowth_77 : decode cX12_foldsGrowth 77 = .ok (.aload_n 0, 1) := dk_1042 (dk_g tcX12_foldsGrowth_6 5 rfl)
theorem dX12_foldsGrowth_78 : decode cX12_foldsGrowth 78 = .ok (.aload_n 0, 1) := dk_1042 (dk_g tcX12_foldsGrowth_6 6 rfl)
theorem dX12_foldsGrowth_79 : decode cX12_foldsGrowth 79 = .ok (.aload_n 0, 1) := dk_1042 (dk_g tcX12_foldsGrowth_6 7 rfl)
theorem dX12_foldsGrowth_80 : decode cX12_foldsGrowth 80 = .ok (.getfield 184, 3) := dk_1180 (dk_g tcX12_foldsGrowth_6 8 rfl) (dk_g tcX12_foldsGrowth_6 9 rfl) (dk_g tcX12_foldsGrowth_6 10 rfl) rfl
theorem dX12_foldsGrowth_83 : decode cX12_foldsGrowth 83 = .ok (.aload_n 0, 1) := dk_1042 (dk_g tcX12_foldsGrowth_6 11 rfl)
theorem tcX12_foldsGrowth_7 : (cX12_foldsGrowth.data.toList.drop 84).take 12 = [180, 0, 22, 42, 180, 0, 168, 46, 182, 0, 136, 181] := by decide +kernel
theorem dX12_foldsGrowth_84 : decode cX12_foldsGrowth 84 = .ok (.getfield 22, 3) := dk_1180 (dk_g tcX12_foldsGrowth_7 0 rfl) (dk_g tcX12_foldsGrowth_7 1 rfl) (dk_g tcX12_foldsGrowth_7 2 rfl) rfl
theorem dX12_foldsGrowth_87 : decode cX12_foldsGrowth 87 = .ok (.aload_n 0, 1) := dk_1042 (dk_g tcX12_foldsGrowth_7 3 rfl)
theorem dX12_foldsGrowth_88 : decode cX12_foldsGrowth 88 = .ok (.getfield 168, 3) := dk_1180 (dk_g tcX12_foldsGrowth_7 4 rfl) (dk_g tcX12_foldsGrowth_7 5 rfl) (dk_g tcX12_foldsGrowth_7 6 rfl) rfl
theorem dX12_foldsGrowth_91 : decode cX12_foldsGrowth 91 = .ok (.iaload, 1) := dk_1046 (dk_g tcX12_foldsGrowth_7 7 rfl)
theorem dX12_foldsGrowth_92 : decode cX12_foldsGrowth 92 = .ok (.invokevirtual 136, 3) := dk_1182 (dk_g tcX12_foldsGrowth_7 8 rfl) (dk_g tcX12_foldsGrowth_7 9 rfl) (dk_g tcX12_foldsGrowth_7 10 rfl) rfl
theorem tcX12_foldsGrowth_8 : (cX12_foldsGrowth.data.toList.drop 96).take 12 = [0, 184, 167, 0, 59, 42, 27, 28, 21, 5, 100, 29] := by decide +kernel
theorem dX12_foldsGrowth_95 : decode cX12_foldsGrowth 95 = .ok (.putfield 184, 3) := dk_1181 (dk_g tcX12_foldsGrowth_7 11 rfl) (dk_g tcX12_foldsGrowth_8 0 rfl) (dk_g tcX12_foldsGrowth_8 1 rfl) rfl
theorem dX12_foldsGrowth_98 : decode cX12_foldsGrowth 98 = .ok (.goto 59, 3) := dk_2167 (dk_g tcX12_foldsGrowth_8 2 rfl) (dk_g tcX12_foldsGrowth_8 3 rfl) (dk_g tcX12_foldsGrowth_8 4 rfl) rfl rfl
theorem dX12_foldsGrowth_101 : decode cX12_foldsGrowth 101 = .ok (.aload_n 0, 1) := dk_1042 (dk_g tcX12_foldsGrowth_8 5 rfl)
theorem dX12_foldsGrowth_102 : decode cX12_foldsGrowth 102 = .ok (.iload_n 1, 1) := dk_1027 (dk_g tcX12_foldsGrowth_8 6 rfl)
theorem dX12_foldsGrowth_103 : decode cX12_foldsGrowth 103 = .ok (.iload_n 2, 1) := dk_1028 (dk_g tcX12_foldsGrowth_8 7 rfl)
theorem dX12_foldsGrowth_104 : decode cX12_foldsGrowth 104 = .ok (.iload 5, 2) := dk_1021 (dk_g tcX12_foldsGrowth_8 8 rfl) (dk_g tcX12_foldsGrowth_8 9 rfl) rfl
theorem dX12_foldsGrowth_106 : decode cX12_foldsGrowth 106 = .ok (.isub, 1) := dk_1100 (dk_g tcX12_foldsGrowth_8 10 rfl)
theorem dX12_foldsGrowth_107 : decode cX12_foldsGrowth 107 = .ok (.iload_n 3, 1) := dk_1029 (dk_g tcX12_foldsGrowth_8 11 rfl)
theorem tcX12_foldsGrowth_9 : (cX12_foldsGrowth.data.toList.drop 108).take 12 = [21, 5, 100, 3, 182, 0, 187, 42, 42, 42, 180, 0] := by decide +kernel
theorem dX12_foldsGrowth_108 : decode cX12_foldsGrowth 108 = .ok (.iload 5, 2) := dk_1021 (dk_g tcX12_foldsGrowth_9 0 rfl) (dk_g tcX12_foldsGrowth_9 1 rfl) rfl
theorem dX12_foldsGrowth_110 : decode cX12_foldsGrowth 110 = .ok (.isub, 1) := dk_1100 (dk_g tcX12_foldsGrowth_9 2 rfl)
theorem dX12_foldsGrowth_111 : decode cX12_foldsGrowth 111 = .ok (.iconst 0, 1) := dk_1003 (dk_g tcX12_foldsGrowth_9 3 rfl)
theorem dX12_foldsGrowth_112 : decode cX12_foldsGrowth 112 = .ok (.invokevirtual 187, 3) := dk_1182 (dk_g tcX12_foldsGrowth_9 4 rfl) (dk_g tcX12_foldsGrowth_9 5 rfl) (dk_g tcX12_foldsGrowth_9 6 rfl) rfl
theorem dX12_foldsGrowth_115 : decode cX12_foldsGrowth 115 = .ok (.aload_n 0, 1) := dk_1042 (dk_g tcX12_foldsGrowth_9 7 rfl)
theorem dX12_foldsGrowth_116 : decode cX12_foldsGrowth 116 = .ok (.aload_n 0, 1) := dk_1042 (dk_g tcX12_foldsGrowth_9 8 rfl)
theorem dX12_foldsGrowth_117 : decode cX12_foldsGrowth 117 = .ok (.aload_n 0, 1) := dk_1042 (dk_g tcX12_foldsGrowth_9 9 rfl)
theorem tcX12_foldsGrowth_10 : (cX12_foldsGrowth.data.toList.drop 120).take 12 = [22, 42, 180, 0, 168, 46, 42, 180, 0, 181, 182, 0] := by decide +kernel
theorem dX12_foldsGrowth_118 : decode cX12_foldsGrowth 118 = .ok (.getfield 22, 3) := dk_1180 (dk_g tcX12_foldsGrowth_9 10 rfl) (dk_g tcX12_foldsGrowth_9 11 rfl) (dk_g tcX12_foldsGrowth_10 0 rfl) rfl
theorem dX12_foldsGrowth_121 : decode cX12_foldsGrowth 121 = .ok (.aload_n 0, 1) := dk_1042 (dk_g tcX12_foldsGrowth_10 1 rfl)
theorem dX12_foldsGrowth_122 : decode cX12_foldsGrowth 122 = .ok (.getfield 168, 3) := dk_1180 (dk_g tcX12_foldsGrowth_10 2 rfl) (dk_g tcX12_foldsGrowth_10 3 rfl) (dk_g tcX12_foldsGrowth_10 4 rfl) rfl
theorem dX12_foldsGrowth_125 : decode cX12_foldsGrowth 125 = .ok (.iaload, 1) := dk_1046 (dk_g tcX12_foldsGrowth_10 5 rfl)
theorem dX12_foldsGrowth_126 : decode cX12_foldsGrowth 126 = .ok (.aload_n 0, 1) := dk_1042 (dk_g tcX12_foldsGrowth_10 6 rfl)
theorem dX12_foldsGrowth_127 : decode cX12_foldsGrowth 127 = .ok (.getfield 181, 3) := dk_1180 (dk_g tcX12_foldsGrowth_10 7 rfl) (dk_g tcX12_foldsGrowth_10 8 rfl) (dk_g tcX12_foldsGrowth_10 9 rfl) rfl
theorem tcX12_foldsGrowth_11 : (cX12_foldsGrowth.data.toList.drop 132).take 12 = [136, 181, 0, 181, 42, 42, 42, 180, 0, 22, 42, 180] := by decide +kernel
theorem dX12_foldsGrowth_130 : decode cX12_foldsGrowth 130 = .ok (.invokevirtual 136, 3) := dk_1182 (dk_g tcX12_foldsGrowth_10 10 rfl) (dk_g tcX12_foldsGrowth_10 11 rfl) (dk_g tcX12_foldsGrowth_11 0 rfl) rfl
theorem dX12_foldsGrowth_133 : decode cX12_foldsGrowth 133 = .ok (.putfield 181, 3) := dk_1181 (dk_g tcX12_foldsGrowth_11 1 rfl) (dk_g tcX12_foldsGrowth_11 2 rfl) (dk_g tcX12_foldsGrowth_11 3 rfl) rfl
theorem dX12_foldsGrowth_136 : decode cX12_foldsGrowth 136 = .ok (.aload_n 0, 1) := dk_1042 (dk_g tcX12_foldsGrowth_11 4 rfl)
theorem dX12_foldsGrowth_137 : decode cX12_foldsGrowth 137 = .ok (.aload_n 0, 1) := dk_1042 (dk_g tcX12_foldsGrowth_11 5 rfl)
theorem dX12_foldsGrowth_138 : decode cX12_foldsGrowth 138 = .ok (.aload_n 0, 1) := dk_1042 (dk_g tcX12_foldsGrowth_11 6 rfl)
theorem dX12_foldsGrowth_139 : decode cX12_foldsGrowth 139 = .ok (.getfield 22, 3) := dk_1180 (dk_g tcX12_foldsGrowth_11 7 rfl) (dk_g tcX12_foldsGrowth_11 8 rfl) (dk_g tcX12_foldsGrowth_11 9 rfl) rfl
theorem dX12_foldsGrowth_142 : decode cX12_foldsGrowth 142 = .ok (.aload_n 0, 1) := dk_1042 (dk_g tcX12_foldsGrowth_11 10 rfl)
theorem tcX12_foldsGrowth_12 : (cX12_foldsGrowth.data.toList.drop 144).take 12 = [0, 168, 46, 42, 180, 0, 184, 182, 0, 136, 181, 0] := by decide +kernel
theorem dX12_foldsGrowth_143 : decode cX12_foldsGrowth 143 = .ok (.getfield 168, 3) := dk_1180 (dk_g tcX12_foldsGrowth_11 11 rfl) (dk_g tcX12_foldsGrowth_12 0 rfl) (dk_g tcX12_foldsGrowth_12 1 rfl) rfl
theorem dX12_foldsGrowth_146 : decode cX12_foldsGrowth 146 = .ok (.iaload, 1) := dk_1046 (dk_g tcX12_foldsGrowth_12 2 rfl)
theorem dX12_foldsGrowth_147 : decode cX12_foldsGrowth 147 = .ok (.aload_n 0, 1) := dk_1042 (dk_g tcX12_foldsGrowth_12 3 rfl)
theorem dX12_foldsGrowth_148 : decode cX12_foldsGrowth 148 = .ok (.getfield 184, 3) := dk_1180 (dk_g tcX12_foldsGrowth_12 4 rfl) (dk_g tcX12_foldsGrowth_12 5 rfl) (dk_g tcX12_foldsGrowth_12 6 rfl) rfl
theorem dX12_foldsGrowth_151 : decode cX12_foldsGrowth 151 = .ok (.invokevirtual 136, 3) := dk_1182 (dk_g tcX12_foldsGrowth_12 7 rfl) (dk_g tcX12_foldsGrowth_12 8 rfl) (dk_g tcX12_foldsGrowth_12 9 rfl) rfl
theorem tcX12_foldsGrowth_13 : (cX12_foldsGrowth.data.toList.drop 156).take 12 = [184, 42, 89, 180, 0, 168, 4, 96, 181, 0, 168, 177] := by decide +kernel
theorem dX12_foldsGrowth_154 : decode cX12_foldsGrowth 154 = .ok (.putfield 184, 3) := dk_1181 (dk_g tcX12_foldsGrowth_12 10 rfl) (dk_g tcX12_foldsGrowth_12 11 rfl) (dk_g tcX12_foldsGrowth_13 0 rfl) rfl
theorem dX12_foldsGrowth_157 : decode cX12_foldsGrowth 157 = .ok (.aload_n 0, 1) := dk_1042 (dk_g tcX12_foldsGrowth_13 1 rfl)
theorem dX12_foldsGrowth_158 : decode cX12_foldsGrowth 158 = .ok (.dup, 1) := dk_1089 (dk_g tcX12_foldsGrowth_13 2 rfl)
theorem dX12_foldsGrowth_159 : decode cX12_foldsGrowth 159 = .ok (.getfield 168, 3) := dk_1180 (dk_g tcX12_foldsGrowth_13 3 rfl) (dk_g tcX12_foldsGrowth_13 4 rfl) (dk_g tcX12_foldsGrowth_13 5 rfl) rfl
theorem dX12_foldsGrowth_162 : decode cX12_foldsGrowth 162 = .ok (.iconst 1, 1) := dk_1004 (dk_g tcX12_foldsGrowth_13 6 rfl)
theorem dX12_foldsGrowth_163 : decode cX12_foldsGrowth 163 = .ok (.iadd, 1) := dk_1096 (dk_g tcX12_foldsGrowth_13 7 rfl)
theorem dX12_foldsGrowth_164 : decode cX12_foldsGrowth 164 = .ok (.putfield 168, 3) := dk_1181 (dk_g tcX12_foldsGrowth_13 8 rfl) (dk_g tcX12_foldsGrowth_13 9 rfl) (dk_g tcX12_foldsGrowth_13 10 rfl) rfl
theorem dX12_foldsGrowth_167 : decode cX12_foldsGrowth 167 = .ok (.return_, 1) := dk_1177 (dk_g tcX12_foldsGrowth_13 11 rfl)
theorem tcX12_whyGrown_0 : (cX12_whyGrown.data.toList.drop 0).take 12 = [42, 28, 21, 4, 182, 0, 190, 27, 42, 180, 0, 139] := by decide +kernel
theorem dX12_whyGrown_0 : decode cX12_whyGrown 0 = .ok (.aload_n 0, 1) := dk_1042 (dk_g tcX12_whyGrown_0 0 rfl)
theorem dX12_whyGrown_1 : decode cX12_whyGrown 1 = .ok (.iload_n 2, 1) := dk_1028 (dk_g tcX12_whyGrown_0 1 rfl)
theorem dX12_whyGrown_2 : decode cX12_whyGrown 2 = .ok (.iload 4, 2) := dk_1021 (dk_g tcX12_whyGrown_0 2 rfl) (dk_g tcX12_whyGrown_0 3 rfl) rfl
theorem dX12_whyGrown_4 : decode cX12_whyGrown 4 = .ok (.invokevirtual 190, 3) := dk_1182 (dk_g tcX12_whyGrown_0 4 rfl) (dk_g tcX12_whyGrown_0 5 rfl) (dk_g tcX12_whyGrown_0 6 rfl) rfl
theorem dX12_whyGrown_7 : decode cX12_whyGrown 7 = .ok (.iload_n 1, 1) := dk_1027 (dk_g tcX12_whyGrown_0 7 rfl)
theorem dX12_whyGrown_8 : decode cX12_whyGrown 8 = .ok (.aload_n 0, 1) := dk_1042 (dk_g tcX12_whyGrown_0 8 rfl)
theorem dX12_whyGrown_9 : decode cX12_whyGrown 9 = .ok (.getfield 139, 3) := dk_1180 (dk_g tcX12_whyGrown_0 9 rfl) (dk_g tcX12_whyGrown_0 10 rfl) (dk_g tcX12_whyGrown_0 11 rfl) rfl
theorem tcX12_whyGrown_1 : (cX12_whyGrown.data.toList.drop 12).take 12 = [159, 0, 17, 27, 42, 180, 0, 139, 162, 0, 7, 4] := by decide +kernel
theorem dX12_whyGrown_12 : decode cX12_whyGrown 12 = .ok (.if_icmp .eq 17, 3) := dk_2159 (dk_g tcX12_whyGrown_1 0 rfl) (dk_g tcX12_whyGrown_1 1 rfl) (dk_g tcX12_whyGrown_1 2 rfl) rfl rfl
theorem dX12_whyGrown_15 : decode cX12_whyGrown 15 = .ok (.iload_n 1, 1) := dk_1027 (dk_g tcX12_whyGrown_1 3 rfl)
theorem dX12_whyGrown_16 : decode cX12_whyGrown 16 = .ok (.aload_n 0, 1) := dk_1042 (dk_g tcX12_whyGrown_1 4 rfl)
theorem dX12_whyGrown_17 : decode cX12_whyGrown 17 = .ok (.getfield 139, 3) := dk_1180 (dk_g tcX12_whyGrown_1 5 rfl) (dk_g tcX12_whyGrown_1 6 rfl) (dk_g tcX12_whyGrown_1 7 rfl) rfl
theorem dX12_whyGrown_20 : decode cX12_whyGrown 20 = .ok (.if_icmp .ge 7, 3) := dk_2162 (dk_g tcX12_whyGrown_1 8 rfl) (dk_g tcX12_whyGrown_1 9 rfl) (dk_g tcX12_whyGrown_1 10 rfl) rfl rfl
theorem dX12_whyGrown_23 : decode cX12_whyGrown 23 = .ok (.iconst 1, 1) := dk_1004 (dk_g tcX12_whyGrown_1 11 rfl)
theorem tcX12_whyGrown_2 : (cX12_whyGrown.data.toList.drop 24).take 12 = [167, 0, 4, 5, 172, 28, 154, 0, 9, 29, 153, 0] := by decide +kernel
theorem dX12_whyGrown_24 : decode cX12_whyGrown 24 = .ok (.goto 4, 3) := dk_2167 (dk_g tcX12_whyGrown_2 0 rfl) (dk_g tcX12_whyGrown_2 1 rfl) (dk_g tcX12_whyGrown_2 2 rfl) rfl rfl
theorem dX12_whyGrown_27 : decode cX12_whyGrown 27 = .ok (.iconst 2, 1) := dk_1005 (dk_g tcX12_whyGrown_2 3 rfl)
theorem dX12_whyGrown_28 : decode cX12_whyGrown 28 = .ok (.ireturn, 1) := dk_1172 (dk_g tcX12_whyGrown_2 4 rfl)
theorem dX12_whyGrown_29 : decode cX12_whyGrown 29 = .ok (.iload_n 2, 1) := dk_1028 (dk_g tcX12_whyGrown_2 5 rfl)
theorem dX12_whyGrown_30 : decode cX12_whyGrown 30 = .ok (.ifCond .ne 9, 3) := dk_2154 (dk_g tcX12_whyGrown_2 6 rfl) (dk_g tcX12_whyGrown_2 7 rfl) (dk_g tcX12_whyGrown_2 8 rfl) rfl rfl
theorem dX12_whyGrown_33 : decode cX12_whyGrown 33 = .ok (.iload_n 3, 1) := dk_1029 (dk_g tcX12_whyGrown_2 9 rfl)
theorem tcX12_whyGrown_3 : (cX12_whyGrown.data.toList.drop 36).take 12 = [5, 6, 172, 28, 21, 4, 160, 0, 15, 29, 21, 5] := by decide +kernel
theorem dX12_whyGrown_34 : decode cX12_whyGrown 34 = .ok (.ifCond .eq 5, 3) := dk_2153 (dk_g tcX12_whyGrown_2 10 rfl) (dk_g tcX12_whyGrown_2 11 rfl) (dk_g tcX12_whyGrown_3 0 rfl) rfl rfl
theorem dX12_whyGrown_37 : decode cX12_whyGrown 37 = .ok (.iconst 3, 1) := dk_1006 (dk_g tcX12_whyGrown_3 1 rfl)
theorem dX12_whyGrown_38 : decode cX12_whyGrown 38 = .ok (.ireturn, 1) := dk_1172 (dk_g tcX12_whyGrown_3 2 rfl)
theorem dX12_whyGrown_39 : decode cX12_whyGrown 39 = .ok (.iload_n 2, 1) := dk_1028 (dk_g tcX12_whyGrown_3 3 rfl)
theorem dX12_whyGrown_40 : decode cX12_whyGrown 40 = .ok (.iload 4, 2) := dk_1021 (dk_g tcX12_whyGrown_3 4 rfl) (dk_g tcX12_whyGrown_3 5 rfl) rfl
theorem dX12_whyGrown_42 : decode cX12_whyGrown 42 = .ok (.if_icmp .ne 15, 3) := dk_2160 (dk_g tcX12_whyGrown_3 6 rfl) (dk_g tcX12_whyGrown_3 7 rfl) (dk_g tcX12_whyGrown_3 8 rfl) rfl rfl
theorem dX12_whyGrown_45 : decode cX12_whyGrown 45 = .ok (.iload_n 3, 1) := dk_1029 (dk_g tcX12_whyGrown_3 9 rfl)
theorem dX12_whyGrown_46 : decode cX12_whyGrown 46 = .ok (.iload 5, 2) := dk_1021 (dk_g tcX12_whyGrown_3 10 rfl) (dk_g tcX12_whyGrown_3 11 rfl) rfl
theorem tcX12_whyGrown_4 : (cX12_whyGrown.data.toList.drop 48).take 12 = [160, 0, 7, 3, 167, 0, 4, 6, 172, 28, 154, 0] := by decide +kernel
theorem dX12_whyGrown_48 : decode cX12_whyGrown 48 = .ok (.if_icmp .ne 7, 3) := dk_2160 (dk_g tcX12_whyGrown_4 0 rfl) (dk_g tcX12_whyGrown_4 1 rfl) (dk_g tcX12_whyGrown_4 2 rfl) rfl rfl
theorem dX12_whyGrown_51 : decode cX12_whyGrown 51 = .ok (.iconst 0, 1) := dk_1003 (dk_g tcX12_whyGrown_4 3 rfl)
theorem dX12_whyGrown_52 : decode cX12_whyGrown 52 = .ok (.goto 4, 3) := dk_2167 (dk_g tcX12_whyGrown_4 4 rfl) (dk_g tcX12_whyGrown_4 5 rfl) (dk_g tcX12_whyGrown_4 6 rfl) rfl rfl
theorem dX12_whyGrown_55 : decode cX12_whyGrown 55 = .ok (.iconst 3, 1) := dk_1006 (dk_g tcX12_whyGrown_4 7 rfl)
theorem dX12_whyGrown_56 : decode cX12_whyGrown 56 = .ok (.ireturn, 1) := dk_1172 (dk_g tcX12_whyGrown_4 8 rfl)
theorem dX12_whyGrown_57 : decode cX12_whyGrown 57 = .ok (.iload_n 2, 1) := dk_1028 (dk_g tcX12_whyGrown_4 9 rfl)
theorem tcX12_whyGrown_5 : (cX12_whyGrown.data.toList.drop 60).take 12 = [5, 3, 172, 42, 3, 181, 0, 168, 42, 29, 28, 21] := by decide +kernel
theorem dX12_whyGrown_58 : decode cX12_whyGrown 58 = .ok (.ifCond .ne 5, 3) := dk_2154 (dk_g tcX12_whyGrown_4 10 rfl) (dk_g tcX12_whyGrown_4 11 rfl) (dk_g tcX12_whyGrown_5 0 rfl) rfl rfl
theorem dX12_whyGrown_61 : decode cX12_whyGrown 61 = .ok (.iconst 0, 1) := dk_1003 (dk_g tcX12_whyGrown_5 1 rfl)
theorem dX12_whyGrown_62 : decode cX12_whyGrown 62 = .ok (.ireturn, 1) := dk_1172 (dk_g tcX12_whyGrown_5 2 rfl)
theorem dX12_whyGrown_63 : decode cX12_whyGrown 63 = .ok (.aload_n 0, 1) := dk_1042 (dk_g tcX12_whyGrown_5 3 rfl)
theorem dX12_whyGrown_64 : decode cX12_whyGrown 64 = .ok (.iconst 0, 1) := dk_1003 (dk_g tcX12_whyGrown_5 4 rfl)
theorem dX12_whyGrown_65 : decode cX12_whyGrown 65 = .ok (.putfield 168, 3) := dk_1181 (dk_g tcX12_whyGrown_5 5 rfl) (dk_g tcX12_whyGrown_5 6 rfl) (dk_g tcX12_whyGrown_5 7 rfl) rfl
theorem dX12_whyGrown_68 : decode cX12_whyGrown 68 = .ok (.aload_n 0, 1) := dk_1042 (dk_g tcX12_whyGrown_5 8 rfl)
theorem dX12_whyGrown_69 : decode cX12_whyGrown 69 = .ok (.iload_n 3, 1) := dk_1029 (dk_g tcX12_whyGrown_5 9 rfl)
theorem dX12_whyGrown_70 : decode cX12_whyGrown 70 = .ok (.iload_n 2, 1) := dk_1028 (dk_g tcX12_whyGrown_5 10 rfl)
theorem tcX12_whyGrown_6 : (cX12_whyGrown.data.toList.drop 72).take 12 = [4, 4, 182, 0, 187, 42, 180, 0, 181, 29, 159, 0] := by decide +kernel
theorem dX12_whyGrown_71 : decode cX12_whyGrown 71 = .ok (.iload 4, 2) := dk_1021 (dk_g tcX12_whyGrown_5 11 rfl) (dk_g tcX12_whyGrown_6 0 rfl) rfl
theorem dX12_whyGrown_73 : decode cX12_whyGrown 73 = .ok (.iconst 1, 1) := dk_1004 (dk_g tcX12_whyGrown_6 1 rfl)
theorem dX12_whyGrown_74 : decode cX12_whyGrown 74 = .ok (.invokevirtual 187, 3) := dk_1182 (dk_g tcX12_whyGrown_6 2 rfl) (dk_g tcX12_whyGrown_6 3 rfl) (dk_g tcX12_whyGrown_6 4 rfl) rfl
theorem dX12_whyGrown_77 : decode cX12_whyGrown 77 = .ok (.aload_n 0, 1) := dk_1042 (dk_g tcX12_whyGrown_6 5 rfl)
theorem dX12_whyGrown_78 : decode cX12_whyGrown 78 = .ok (.getfield 181, 3) := dk_1180 (dk_g tcX12_whyGrown_6 6 rfl) (dk_g tcX12_whyGrown_6 7 rfl) (dk_g tcX12_whyGrown_6 8 rfl) rfl
theorem dX12_whyGrown_81 : decode cX12_whyGrown 81 = .ok (.iload_n 3, 1) := dk_1029 (dk_g tcX12_whyGrown_6 9 rfl)
theorem tcX12_whyGrown_7 : (cX12_whyGrown.data.toList.drop 84).take 12 = [7, 6, 167, 0, 17, 42, 180, 0, 184, 21, 5, 159] := by decide +kernel
theorem dX12_whyGrown_82 : decode cX12_whyGrown 82 = .ok (.if_icmp .eq 7, 3) := dk_2159 (dk_g tcX12_whyGrown_6 10 rfl) (dk_g tcX12_whyGrown_6 11 rfl) (dk_g tcX12_whyGrown_7 0 rfl) rfl rfl
theorem dX12_whyGrown_85 : decode cX12_whyGrown 85 = .ok (.iconst 3, 1) := dk_1006 (dk_g tcX12_whyGrown_7 1 rfl)
theorem dX12_whyGrown_86 : decode cX12_whyGrown 86 = .ok (.goto 17, 3) := dk_2167 (dk_g tcX12_whyGrown_7 2 rfl) (dk_g tcX12_whyGrown_7 3 rfl) (dk_g tcX12_whyGrown_7 4 rfl) rfl rfl
theorem dX12_whyGrown_89 : decode cX12_whyGrown 89 = .ok (.aload_n 0, 1) := dk_1042 (dk_g tcX12_whyGrown_7 5 rfl)
theorem dX12_whyGrown_90 : decode cX12_whyGrown 90 = .ok (.getfield 184, 3) := dk_1180 (dk_g tcX12_whyGrown_7 6 rfl) (dk_g tcX12_whyGrown_7 7 rfl) (dk_g tcX12_whyGrown_7 8 rfl) rfl
theorem dX12_whyGrown_93 : decode cX12_whyGrown 93 = .ok (.iload 5, 2) := dk_1021 (dk_g tcX12_whyGrown_7 9 rfl) (dk_g tcX12_whyGrown_7 10 rfl) rfl
theorem tcX12_whyGrown_8 : (cX12_whyGrown.data.toList.drop 96).take 12 = [0, 7, 7, 167, 0, 4, 3, 172] := by decide +kernel
theorem dX12_whyGrown_95 : decode cX12_whyGrown 95 = .ok (.if_icmp .eq 7, 3) := dk_2159 (dk_g tcX12_whyGrown_7 11 rfl) (dk_g tcX12_whyGrown_8 0 rfl) (dk_g tcX12_whyGrown_8 1 rfl) rfl rfl
theorem dX12_whyGrown_98 : decode cX12_whyGrown 98 = .ok (.iconst 4, 1) := dk_1007 (dk_g tcX12_whyGrown_8 2 rfl)
theorem dX12_whyGrown_99 : decode cX12_whyGrown 99 = .ok (.goto 4, 3) := dk_2167 (dk_g tcX12_whyGrown_8 3 rfl) (dk_g tcX12_whyGrown_8 4 rfl) (dk_g tcX12_whyGrown_8 5 rfl) rfl rfl
theorem dX12_whyGrown_102 : decode cX12_whyGrown 102 = .ok (.iconst 0, 1) := dk_1003 (dk_g tcX12_whyGrown_8 6 rfl)
theorem dX12_whyGrown_103 : decode cX12_whyGrown 103 = .ok (.ireturn, 1) := dk_1172 (dk_g tcX12_whyGrown_8 7 rfl)
theorem tcX12_foldsBundle_0 : (cX12_foldsBundle.data.toList.drop 0).take 12 = [27, 28, 29, 184, 0, 154, 154, 0, 25, 42, 89, 180] := by decide +kernel
theorem dX12_foldsBundle_0 : decode cX12_foldsBundle 0 = .ok (.iload_n 1, 1) := dk_1027 (dk_g tcX12_foldsBundle_0 0 rfl)
theorem dX12_foldsBundle_1 : decode cX12_foldsBundle 1 = .ok (.iload_n 2, 1) := dk_1028 (dk_g tcX12_foldsBundle_0 1 rfl)
theorem dX12_foldsBundle_2 : decode cX12_foldsBundle 2 = .ok (.iload_n 3, 1) := dk_1029 (dk_g tcX12_foldsBundle_0 2 rfl)
theorem dX12_foldsBundle_3 : decode cX12_foldsBundle 3 = .ok (.invokestatic 154, 3) := dk_1184 (dk_g tcX12_foldsBundle_0 3 rfl) (dk_g tcX12_foldsBundle_0 4 rfl) (dk_g tcX12_foldsBundle_0 5 rfl) rfl
theorem dX12_foldsBundle_6 : decode cX12_foldsBundle 6 = .ok (.ifCond .ne 25, 3) := dk_2154 (dk_g tcX12_foldsBundle_0 6 rfl) (dk_g tcX12_foldsBundle_0 7 rfl) (dk_g tcX12_foldsBundle_0 8 rfl) rfl rfl
theorem dX12_foldsBundle_9 : decode cX12_foldsBundle 9 = .ok (.aload_n 0, 1) := dk_1042 (dk_g tcX12_foldsBundle_0 9 rfl)
theorem dX12_foldsBundle_10 : decode cX12_foldsBundle 10 = .ok (.dup, 1) := dk_1089 (dk_g tcX12_foldsBundle_0 10 rfl)
theorem tcX12_foldsBundle_1 : (cX12_foldsBundle.data.toList.drop 12).take 12 = [0, 168, 4, 96, 181, 0, 168, 42, 180, 0, 22, 42] := by decide +kernel
theorem dX12_foldsBundle_11 : decode cX12_foldsBundle 11 = .ok (.getfield 168, 3) := dk_1180 (dk_g tcX12_foldsBundle_0 11 rfl) (dk_g tcX12_foldsBundle_1 0 rfl) (dk_g tcX12_foldsBundle_1 1 rfl) rfl
theorem dX12_foldsBundle_14 : decode cX12_foldsBundle 14 = .ok (.iconst 1, 1) := dk_1004 (dk_g tcX12_foldsBundle_1 2 rfl)
theorem dX12_foldsBundle_15 : decode cX12_foldsBundle 15 = .ok (.iadd, 1) := dk_1096 (dk_g tcX12_foldsBundle_1 3 rfl)
theorem dX12_foldsBundle_16 : decode cX12_foldsBundle 16 = .ok (.putfield 168, 3) := dk_1181 (dk_g tcX12_foldsBundle_1 4 rfl) (dk_g tcX12_foldsBundle_1 5 rfl) (dk_g tcX12_foldsBundle_1 6 rfl) rfl
theorem dX12_foldsBundle_19 : decode cX12_foldsBundle 19 = .ok (.aload_n 0, 1) := dk_1042 (dk_g tcX12_foldsBundle_1 7 rfl)
theorem dX12_foldsBundle_20 : decode cX12_foldsBundle 20 = .ok (.getfield 22, 3) := dk_1180 (dk_g tcX12_foldsBundle_1 8 rfl) (dk_g tcX12_foldsBundle_1 9 rfl) (dk_g tcX12_foldsBundle_1 10 rfl) rfl
theorem dX12_foldsBundle_23 : decode cX12_foldsBundle 23 = .ok (.aload_n 0, 1) := dk_1042 (dk_g tcX12_foldsBundle_1 11 rfl)
theorem tcX12_foldsBundle_2 : (cX12_foldsBundle.data.toList.drop 24).take 12 = [180, 0, 168, 4, 100, 46, 172, 29, 4, 160, 0, 25] := by decide +kernel
theorem dX12_foldsBundle_24 : decode cX12_foldsBundle 24 = .ok (.getfield 168, 3) := dk_1180 (dk_g tcX12_foldsBundle_2 0 rfl) (dk_g tcX12_foldsBundle_2 1 rfl) (dk_g tcX12_foldsBundle_2 2 rfl) rfl
theorem dX12_foldsBundle_27 : decode cX12_foldsBundle 27 = .ok (.iconst 1, 1) := dk_1004 (dk_g tcX12_foldsBundle_2 3 rfl)
theorem dX12_foldsBundle_28 : decode cX12_foldsBundle 28 = .ok (.isub, 1) := dk_1100 (dk_g tcX12_foldsBundle_2 4 rfl)
theorem dX12_foldsBundle_29 : decode cX12_foldsBundle 29 = .ok (.iaload, 1) := dk_1046 (dk_g tcX12_foldsBundle_2 5 rfl)
theorem dX12_foldsBundle_30 : decode cX12_foldsBundle 30 = .ok (.ireturn, 1) := dk_1172 (dk_g tcX12_foldsBundle_2 6 rfl)
theorem dX12_foldsBundle_31 : decode cX12_foldsBundle 31 = .ok (.iload_n 3, 1) := dk_1029 (dk_g tcX12_foldsBundle_2 7 rfl)
theorem dX12_foldsBundle_32 : decode cX12_foldsBundle 32 = .ok (.iconst 1, 1) := dk_1004 (dk_g tcX12_foldsBundle_2 8 rfl)
theorem dX12_foldsBundle_33 : decode cX12_foldsBundle 33 = .ok (.if_icmp .ne 25, 3) := dk_2160 (dk_g tcX12_foldsBundle_2 9 rfl) (dk_g tcX12_foldsBundle_2 10 rfl) (dk_g tcX12_foldsBundle_2 11 rfl) rfl rfl
theorem tcX12_foldsBundle_3 : (cX12_foldsBundle.data.toList.drop 36).take 12 = [42, 89, 180, 0, 193, 4, 96, 181, 0, 193, 42, 180] := by decide +kernel
theorem dX12_foldsBundle_36 : decode cX12_foldsBundle 36 = .ok (.aload_n 0, 1) := dk_1042 (dk_g tcX12_foldsBundle_3 0 rfl)
theorem dX12_foldsBundle_37 : decode cX12_foldsBundle 37 = .ok (.dup, 1) := dk_1089 (dk_g tcX12_foldsBundle_3 1 rfl)
theorem dX12_foldsBundle_38 : decode cX12_foldsBundle 38 = .ok (.getfield 193, 3) := dk_1180 (dk_g tcX12_foldsBundle_3 2 rfl) (dk_g tcX12_foldsBundle_3 3 rfl) (dk_g tcX12_foldsBundle_3 4 rfl) rfl
theorem dX12_foldsBundle_41 : decode cX12_foldsBundle 41 = .ok (.iconst 1, 1) := dk_1004 (dk_g tcX12_foldsBundle_3 5 rfl)
theorem dX12_foldsBundle_42 : decode cX12_foldsBundle 42 = .ok (.iadd, 1) := dk_1096 (dk_g tcX12_foldsBundle_3 6 rfl)
theorem dX12_foldsBundle_43 : decode cX12_foldsBundle 43 = .ok (.putfield 193, 3) := dk_1181 (dk_g tcX12_foldsBundle_3 7 rfl) (dk_g tcX12_foldsBundle_3 8 rfl) (dk_g tcX12_foldsBundle_3 9 rfl) rfl
theorem dX12_foldsBundle_46 : decode cX12_foldsBundle 46 = .ok (.aload_n 0, 1) := dk_1042 (dk_g tcX12_foldsBundle_3 10 rfl)
theorem tcX12_foldsBundle_4 : (cX12_foldsBundle.data.toList.drop 48).take 12 = [0, 22, 42, 180, 0, 193, 4, 100, 46, 172, 29, 184] := by decide +kernel
theorem dX12_foldsBundle_47 : decode cX12_foldsBundle 47 = .ok (.getfield 22, 3) := dk_1180 (dk_g tcX12_foldsBundle_3 11 rfl) (dk_g tcX12_foldsBundle_4 0 rfl) (dk_g tcX12_foldsBundle_4 1 rfl) rfl
theorem dX12_foldsBundle_50 : decode cX12_foldsBundle 50 = .ok (.aload_n 0, 1) := dk_1042 (dk_g tcX12_foldsBundle_4 2 rfl)
theorem dX12_foldsBundle_51 : decode cX12_foldsBundle 51 = .ok (.getfield 193, 3) := dk_1180 (dk_g tcX12_foldsBundle_4 3 rfl) (dk_g tcX12_foldsBundle_4 4 rfl) (dk_g tcX12_foldsBundle_4 5 rfl) rfl
theorem dX12_foldsBundle_54 : decode cX12_foldsBundle 54 = .ok (.iconst 1, 1) := dk_1004 (dk_g tcX12_foldsBundle_4 6 rfl)
theorem dX12_foldsBundle_55 : decode cX12_foldsBundle 55 = .ok (.isub, 1) := dk_1100 (dk_g tcX12_foldsBundle_4 7 rfl)
theorem dX12_foldsBundle_56 : decode cX12_foldsBundle 56 = .ok (.iaload, 1) := dk_1046 (dk_g tcX12_foldsBundle_4 8 rfl)
theorem dX12_foldsBundle_57 : decode cX12_foldsBundle 57 = .ok (.ireturn, 1) := dk_1172 (dk_g tcX12_foldsBundle_4 9 rfl)
theorem dX12_foldsBundle_58 : decode cX12_foldsBundle 58 = .ok (.iload_n 3, 1) := dk_1029 (dk_g tcX12_foldsBundle_4 10 rfl)
theorem tcX12_foldsBundle_5 : (cX12_foldsBundle.data.toList.drop 60).take 12 = [0, 128, 54, 4, 42, 27, 28, 21, 4, 182, 0, 196] := by decide +kernel
theorem dX12_foldsBundle_59 : decode cX12_foldsBundle 59 = .ok (.invokestatic 128, 3) := dk_1184 (dk_g tcX12_foldsBundle_4 11 rfl) (dk_g tcX12_foldsBundle_5 0 rfl) (dk_g tcX12_foldsBundle_5 1 rfl) rfl
theorem dX12_foldsBundle_62 : decode cX12_foldsBundle 62 = .ok (.istore 4, 2) := dk_1054 (dk_g tcX12_foldsBundle_5 2 rfl) (dk_g tcX12_foldsBundle_5 3 rfl) rfl
theorem dX12_foldsBundle_64 : decode cX12_foldsBundle 64 = .ok (.aload_n 0, 1) := dk_1042 (dk_g tcX12_foldsBundle_5 4 rfl)
theorem dX12_foldsBundle_65 : decode cX12_foldsBundle 65 = .ok (.iload_n 1, 1) := dk_1027 (dk_g tcX12_foldsBundle_5 5 rfl)
theorem dX12_foldsBundle_66 : decode cX12_foldsBundle 66 = .ok (.iload_n 2, 1) := dk_1028 (dk_g tcX12_foldsBundle_5 6 rfl)
theorem dX12_foldsBundle_67 : decode cX12_foldsBundle 67 = .ok (.iload 4, 2) := dk_1021 (dk_g tcX12_foldsBundle_5 7 rfl) (dk_g tcX12_foldsBundle_5 8 rfl) rfl
theorem dX12_foldsBundle_69 : decode cX12_foldsBundle 69 = .ok (.invokevirtual 196, 3) := dk_1182 (dk_g tcX12_foldsBundle_5 9 rfl) (dk_g tcX12_foldsBundle_5 10 rfl) (dk_g tcX12_foldsBundle_5 11 rfl) rfl
theorem tcX12_foldsBundle_6 : (cX12_foldsBundle.data.toList.drop 72).take 12 = [54, 5, 42, 21, 5, 42, 27, 28, 21, 4, 96, 29] := by decide +kernel
theorem dX12_foldsBundle_72 : decode cX12_foldsBundle 72 = .ok (.istore 5, 2) := dk_1054 (dk_g tcX12_foldsBundle_6 0 rfl) (dk_g tcX12_foldsBundle_6 1 rfl) rfl
theorem dX12_foldsBundle_74 : decode cX12_foldsBundle 74 = .ok (.aload_n 0, 1) := dk_1042 (dk_g tcX12_foldsBundle_6 2 rfl)
theorem dX12_foldsBundle_75 : decode cX12_foldsBundle 75 = .ok (.iload 5, 2) := dk_1021 (dk_g tcX12_foldsBundle_6 3 rfl) (dk_g tcX12_foldsBundle_6 4 rfl) rfl
theorem dX12_foldsBundle_77 : decode cX12_foldsBundle 77 = .ok (.aload_n 0, 1) := dk_1042 (dk_g tcX12_foldsBundle_6 5 rfl)
theorem dX12_foldsBundle_78 : decode cX12_foldsBundle 78 = .ok (.iload_n 1, 1) := dk_1027 (dk_g tcX12_foldsBundle_6 6 rfl)
theorem dX12_foldsBundle_79 : decode cX12_foldsBundle 79 = .ok (.iload_n 2, 1) := dk_1028 (dk_g tcX12_foldsBundle_6 7 rfl)
theorem dX12_foldsBundle_80 : decode cX12_foldsBundle 80 = .ok (.iload 4, 2) := dk_1021 (dk_g tcX12_foldsBundle_6 8 rfl) (dk_g tcX12_foldsBundle_6 9 rfl) rfl
theorem dX12_foldsBundle_82 : decode cX12_foldsBundle 82 = .ok (.iadd, 1) := dk_1096 (dk_g tcX12_foldsBundle_6 10 rfl)
theorem dX12_foldsBundle_83 : decode cX12_foldsBundle 83 = .ok (.iload_n 3, 1) := dk_1029 (dk_g tcX12_foldsBundle_6 11 rfl)
theorem tcX12_foldsBundle_7 : (cX12_foldsBundle.data.toList.drop 84).take 12 = [21, 4, 100, 182, 0, 196, 182, 0, 136, 172] := by decide +kernel
theorem dX12_foldsBundle_84 : decode cX12_foldsBundle 84 = .ok (.iload 4, 2) := dk_1021 (dk_g tcX12_foldsBundle_7 0 rfl) (dk_g tcX12_foldsBundle_7 1 rfl) rfl
theorem dX12_foldsBundle_86 : decode cX12_foldsBundle 86 = .ok (.isub, 1) := dk_1100 (dk_g tcX12_foldsBundle_7 2 rfl)
theorem dX12_foldsBundle_87 : decode cX12_foldsBundle 87 = .ok (.invokevirtual 196, 3) := dk_1182 (dk_g tcX12_foldsBundle_7 3 rfl) (dk_g tcX12_foldsBundle_7 4 rfl) (dk_g tcX12_foldsBundle_7 5 rfl) rfl
theorem dX12_foldsBundle_90 : decode cX12_foldsBundle 90 = .ok (.invokevirtual 136, 3) := dk_1182 (dk_g tcX12_foldsBundle_7 6 rfl) (dk_g tcX12_foldsBundle_7 7 rfl) (dk_g tcX12_foldsBundle_7 8 rfl) rfl
theorem dX12_foldsBundle_93 : decode cX12_foldsBundle 93 = .ok (.ireturn, 1) := dk_1172 (dk_g tcX12_foldsBundle_7 9 rfl)
theorem tcX12_whyByRecord_0 : (cX12_whyByRecord.data.toList.drop 0).take 12 = [42, 28, 21, 4, 182, 0, 190, 42, 27, 182, 0, 161] := by decide +kernel
theorem dX12_whyByRecord_0 : decode cX12_whyByRecord 0 = .ok (.aload_n 0, 1) := dk_1042 (dk_g tcX12_whyByRecord_0 0 rfl)
theorem dX12_whyByRecord_1 : decode cX12_whyByRecord 1 = .ok (.iload_n 2, 1) := dk_1028 (dk_g tcX12_whyByRecord_0 1 rfl)
theorem dX12_whyByRecord_2 : decode cX12_whyByRecord 2 = .ok (.iload 4, 2) := dk_1021 (dk_g tcX12_whyByRecord_0 2 rfl) (dk_g tcX12_whyByRecord_0 3 rfl) rfl
theorem dX12_whyByRecord_4 : decode cX12_whyByRecord 4 = .ok (.invokevirtual 190, 3) := dk_1182 (dk_g tcX12_whyByRecord_0 4 rfl) (dk_g tcX12_whyByRecord_0 5 rfl) (dk_g tcX12_whyByRecord_0 6 rfl) rfl
theorem dX12_whyByRecord_7 : decode cX12_whyByRecord 7 = .ok (.aload_n 0, 1) := dk_1042 (dk_g tcX12_whyByRecord_0 7 rfl)
theorem dX12_whyByRecord_8 : decode cX12_whyByRecord 8 = .ok (.iload_n 1, 1) := dk_1027 (dk_g tcX12_whyByRecord_0 8 rfl)
theorem dX12_whyByRecord_9 : decode cX12_whyByRecord 9 = .ok (.invokevirtual 161, 3) := dk_1182 (dk_g tcX12_whyByRecord_0 9 rfl) (dk_g tcX12_whyByRecord_0 10 rfl) (dk_g tcX12_whyByRecord_0 11 rfl) rfl
theorem tcX12_whyByRecord_1 : (cX12_whyByRecord.data.toList.drop 12).take 12 = [42, 42, 180, 0, 139, 28, 29, 21, 4, 21, 5, 182] := by decide +kernel
theorem dX12_whyByRecord_12 : decode cX12_whyByRecord 12 = .ok (.aload_n 0, 1) := dk_1042 (dk_g tcX12_whyByRecord_1 0 rfl)
theorem dX12_whyByRecord_13 : decode cX12_whyByRecord 13 = .ok (.aload_n 0, 1) := dk_1042 (dk_g tcX12_whyByRecord_1 1 rfl)
theorem dX12_whyByRecord_14 : decode cX12_whyByRecord 14 = .ok (.getfield 139, 3) := dk_1180 (dk_g tcX12_whyByRecord_1 2 rfl) (dk_g tcX12_whyByRecord_1 3 rfl) (dk_g tcX12_whyByRecord_1 4 rfl) rfl
theorem dX12_whyByRecord_17 : decode cX12_whyByRecord 17 = .ok (.iload_n 2, 1) := dk_1028 (dk_g tcX12_whyByRecord_1 5 rfl)
theorem dX12_whyByRecord_18 : decode cX12_whyByRecord 18 = .ok (.iload_n 3, 1) := dk_1029 (dk_g tcX12_whyByRecord_1 6 rfl)
theorem dX12_whyByRecord_19 : decode cX12_whyByRecord 19 = .ok (.iload 4, 2) := dk_1021 (dk_g tcX12_whyByRecord_1 7 rfl) (dk_g tcX12_whyByRecord_1 8 rfl) rfl
theorem dX12_whyByRecord_21 : decode cX12_whyByRecord 21 = .ok (.iload 5, 2) := dk_1021 (dk_g tcX12_whyByRecord_1 9 rfl) (dk_g tcX12_whyByRecord_1 10 rfl) rfl
theorem tcX12_whyByRecord_2 : (cX12_whyByRecord.data.toList.drop 24).take 12 = [0, 199, 172] := by decide +kernel
theorem dX12_whyByRecord_23 : decode cX12_whyByRecord 23 = .ok (.invokevirtual 199, 3) := dk_1182 (dk_g tcX12_whyByRecord_1 11 rfl) (dk_g tcX12_whyByRecord_2 0 rfl) (dk_g tcX12_whyByRecord_2 1 rfl) rfl
theorem dX12_whyByRecord_26 : decode cX12_whyByRecord 26 = .ok (.ireturn, 1) := dk_1172 (dk_g tcX12_whyByRecord_2 2 rfl)
theorem tcX12_type_0 : (cX12_type.data.toList.drop 0).take 12 = [42, 3, 181, 0, 106, 3, 62, 4, 54, 4, 3, 54] := by decide +kernel
theorem dX12_type_0 : decode cX12_type 0 = .ok (.aload_n 0, 1) := dk_1042 (dk_g tcX12_type_0 0 rfl)
theorem dX12_type_1 : decode cX12_type 1 = .ok (.iconst 0, 1) := dk_1003 (dk_g tcX12_type_0 1 rfl)
theorem dX12_type_2 : decode cX12_type 2 = .ok (.putfield 106, 3) := dk_1181 (dk_g tcX12_type_0 2 rfl) (dk_g tcX12_type_0 3 rfl) (dk_g tcX12_type_0 4 rfl) rfl
theorem dX12_type_5 : decode cX12_type 5 = .ok (.iconst 0, 1) := dk_1003 (dk_g tcX12_type_0 5 rfl)
theorem dX12_type_6 : decode cX12_type 6 = .ok (.istore_n 3, 1) := dk_1062 (dk_g tcX12_type_0 6 rfl)
theorem dX12_type_7 : decode cX12_type 7 = .ok (.iconst 1, 1) := dk_1004 (dk_g tcX12_type_0 7 rfl)
theorem dX12_type_8 : decode cX12_type 8 = .ok (.istore 4, 2) := dk_1054 (dk_g tcX12_type_0 8 rfl) (dk_g tcX12_type_0 9 rfl) rfl
theorem dX12_type_10 : decode cX12_type 10 = .ok (.iconst 0, 1) := dk_1003 (dk_g tcX12_type_0 10 rfl)
theorem tcX12_type_1 : (cX12_type.data.toList.drop 12).take 12 = [5, 21, 5, 16, 8, 162, 0, 82, 21, 4, 153, 0] := by decide +kernel
theorem dX12_type_11 : decode cX12_type 11 = .ok (.istore 5, 2) := dk_1054 (dk_g tcX12_type_0 11 rfl) (dk_g tcX12_type_1 0 rfl) rfl
theorem dX12_type_13 : decode cX12_type 13 = .ok (.iload 5, 2) := dk_1021 (dk_g tcX12_type_1 1 rfl) (dk_g tcX12_type_1 2 rfl) rfl
theorem dX12_type_15 : decode cX12_type 15 = .ok (.bipush 8, 2) := dk_1016 (dk_g tcX12_type_1 3 rfl) (dk_g tcX12_type_1 4 rfl) (by decide +kernel)
theorem dX12_type_17 : decode cX12_type 17 = .ok (.if_icmp .ge 82, 3) := dk_2162 (dk_g tcX12_type_1 5 rfl) (dk_g tcX12_type_1 6 rfl) (dk_g tcX12_type_1 7 rfl) rfl rfl
theorem dX12_type_20 : decode cX12_type 20 = .ok (.iload 4, 2) := dk_1021 (dk_g tcX12_type_1 8 rfl) (dk_g tcX12_type_1 9 rfl) rfl
theorem tcX12_type_2 : (cX12_type.data.toList.drop 24).take 12 = [77, 21, 5, 16, 6, 162, 0, 7, 27, 167, 0, 4] := by decide +kernel
theorem dX12_type_22 : decode cX12_type 22 = .ok (.ifCond .eq 77, 3) := dk_2153 (dk_g tcX12_type_1 10 rfl) (dk_g tcX12_type_1 11 rfl) (dk_g tcX12_type_2 0 rfl) rfl rfl
theorem dX12_type_25 : decode cX12_type 25 = .ok (.iload 5, 2) := dk_1021 (dk_g tcX12_type_2 1 rfl) (dk_g tcX12_type_2 2 rfl) rfl
theorem dX12_type_27 : decode cX12_type 27 = .ok (.bipush 6, 2) := dk_1016 (dk_g tcX12_type_2 3 rfl) (dk_g tcX12_type_2 4 rfl) (by decide +kernel)
theorem dX12_type_29 : decode cX12_type 29 = .ok (.if_icmp .ge 7, 3) := dk_2162 (dk_g tcX12_type_2 5 rfl) (dk_g tcX12_type_2 6 rfl) (dk_g tcX12_type_2 7 rfl) rfl rfl
theorem dX12_type_32 : decode cX12_type 32 = .ok (.iload_n 1, 1) := dk_1027 (dk_g tcX12_type_2 8 rfl)
theorem dX12_type_33 : decode cX12_type 33 = .ok (.goto 4, 3) := dk_2167 (dk_g tcX12_type_2 9 rfl) (dk_g tcX12_type_2 10 rfl) (dk_g tcX12_type_2 11 rfl) rfl rfl
theorem tcX12_type_3 : (cX12_type.data.toList.drop 36).take 12 = [28, 8, 21, 5, 16, 6, 112, 104, 124, 16, 31, 126] := by decide +kernel
theorem dX12_type_36 : decode cX12_type 36 = .ok (.iload_n 2, 1) := dk_1028 (dk_g tcX12_type_3 0 rfl)
theorem dX12_type_37 : decode cX12_type 37 = .ok (.iconst 5, 1) := dk_1008 (dk_g tcX12_type_3 1 rfl)
theorem dX12_type_38 : decode cX12_type 38 = .ok (.iload 5, 2) := dk_1021 (dk_g tcX12_type_3 2 rfl) (dk_g tcX12_type_3 3 rfl) rfl
theorem dX12_type_40 : decode cX12_type 40 = .ok (.bipush 6, 2) := dk_1016 (dk_g tcX12_type_3 4 rfl) (dk_g tcX12_type_3 5 rfl) (by decide +kernel)
theorem dX12_type_42 : decode cX12_type 42 = .ok (.irem, 1) := dk_1112 (dk_g tcX12_type_3 6 rfl)
theorem dX12_type_43 : decode cX12_type 43 = .ok (.imul, 1) := dk_1104 (dk_g tcX12_type_3 7 rfl)
theorem dX12_type_44 : decode cX12_type 44 = .ok (.iushr, 1) := dk_1124 (dk_g tcX12_type_3 8 rfl)
theorem dX12_type_45 : decode cX12_type 45 = .ok (.bipush 31, 2) := dk_1016 (dk_g tcX12_type_3 9 rfl) (dk_g tcX12_type_3 10 rfl) (by decide +kernel)
theorem dX12_type_47 : decode cX12_type 47 = .ok (.iand, 1) := dk_1126 (dk_g tcX12_type_3 11 rfl)
theorem tcX12_type_4 : (cX12_type.data.toList.drop 48).take 12 = [54, 6, 21, 6, 16, 26, 164, 0, 5, 2, 172, 21] := by decide +kernel
theorem dX12_type_48 : decode cX12_type 48 = .ok (.istore 6, 2) := dk_1054 (dk_g tcX12_type_4 0 rfl) (dk_g tcX12_type_4 1 rfl) rfl
theorem dX12_type_50 : decode cX12_type 50 = .ok (.iload 6, 2) := dk_1021 (dk_g tcX12_type_4 2 rfl) (dk_g tcX12_type_4 3 rfl) rfl
theorem dX12_type_52 : decode cX12_type 52 = .ok (.bipush 26, 2) := dk_1016 (dk_g tcX12_type_4 4 rfl) (dk_g tcX12_type_4 5 rfl) (by decide +kernel)
theorem dX12_type_54 : decode cX12_type 54 = .ok (.if_icmp .le 5, 3) := dk_2164 (dk_g tcX12_type_4 6 rfl) (dk_g tcX12_type_4 7 rfl) (dk_g tcX12_type_4 8 rfl) rfl rfl
theorem dX12_type_57 : decode cX12_type 57 = .ok (.iconst (-1), 1) := dk_1002 (dk_g tcX12_type_4 9 rfl)
theorem dX12_type_58 : decode cX12_type 58 = .ok (.ireturn, 1) := dk_1172 (dk_g tcX12_type_4 10 rfl)
theorem tcX12_type_5 : (cX12_type.data.toList.drop 60).take 12 = [6, 158, 0, 7, 4, 167, 0, 4, 3, 54, 4, 42] := by decide +kernel
theorem dX12_type_59 : decode cX12_type 59 = .ok (.iload 6, 2) := dk_1021 (dk_g tcX12_type_4 11 rfl) (dk_g tcX12_type_5 0 rfl) rfl
theorem dX12_type_61 : decode cX12_type 61 = .ok (.ifCond .le 7, 3) := dk_2158 (dk_g tcX12_type_5 1 rfl) (dk_g tcX12_type_5 2 rfl) (dk_g tcX12_type_5 3 rfl) rfl rfl
theorem dX12_type_64 : decode cX12_type 64 = .ok (.iconst 1, 1) := dk_1004 (dk_g tcX12_type_5 4 rfl)
theorem dX12_type_65 : decode cX12_type 65 = .ok (.goto 4, 3) := dk_2167 (dk_g tcX12_type_5 5 rfl) (dk_g tcX12_type_5 6 rfl) (dk_g tcX12_type_5 7 rfl) rfl rfl
theorem dX12_type_68 : decode cX12_type 68 = .ok (.iconst 0, 1) := dk_1003 (dk_g tcX12_type_5 8 rfl)
theorem dX12_type_69 : decode cX12_type 69 = .ok (.istore 4, 2) := dk_1054 (dk_g tcX12_type_5 9 rfl) (dk_g tcX12_type_5 10 rfl) rfl
theorem dX12_type_71 : decode cX12_type 71 = .ok (.aload_n 0, 1) := dk_1042 (dk_g tcX12_type_5 11 rfl)
theorem tcX12_type_6 : (cX12_type.data.toList.drop 72).take 12 = [180, 0, 28, 21, 5, 21, 6, 79, 29, 21, 4, 153] := by decide +kernel
theorem dX12_type_72 : decode cX12_type 72 = .ok (.getfield 28, 3) := dk_1180 (dk_g tcX12_type_6 0 rfl) (dk_g tcX12_type_6 1 rfl) (dk_g tcX12_type_6 2 rfl) rfl
theorem dX12_type_75 : decode cX12_type 75 = .ok (.iload 5, 2) := dk_1021 (dk_g tcX12_type_6 3 rfl) (dk_g tcX12_type_6 4 rfl) rfl
theorem dX12_type_77 : decode cX12_type 77 = .ok (.iload 6, 2) := dk_1021 (dk_g tcX12_type_6 5 rfl) (dk_g tcX12_type_6 6 rfl) rfl
theorem dX12_type_79 : decode cX12_type 79 = .ok (.iastore, 1) := dk_1079 (dk_g tcX12_type_6 7 rfl)
theorem dX12_type_80 : decode cX12_type 80 = .ok (.iload_n 3, 1) := dk_1029 (dk_g tcX12_type_6 8 rfl)
theorem dX12_type_81 : decode cX12_type 81 = .ok (.iload 4, 2) := dk_1021 (dk_g tcX12_type_6 9 rfl) (dk_g tcX12_type_6 10 rfl) rfl
theorem tcX12_type_7 : (cX12_type.data.toList.drop 84).take 12 = [0, 7, 4, 167, 0, 4, 3, 96, 62, 132, 5, 1] := by decide +kernel
theorem dX12_type_83 : decode cX12_type 83 = .ok (.ifCond .eq 7, 3) := dk_2153 (dk_g tcX12_type_6 11 rfl) (dk_g tcX12_type_7 0 rfl) (dk_g tcX12_type_7 1 rfl) rfl rfl
theorem dX12_type_86 : decode cX12_type 86 = .ok (.iconst 1, 1) := dk_1004 (dk_g tcX12_type_7 2 rfl)
theorem dX12_type_87 : decode cX12_type 87 = .ok (.goto 4, 3) := dk_2167 (dk_g tcX12_type_7 3 rfl) (dk_g tcX12_type_7 4 rfl) (dk_g tcX12_type_7 5 rfl) rfl rfl
theorem dX12_type_90 : decode cX12_type 90 = .ok (.iconst 0, 1) := dk_1003 (dk_g tcX12_type_7 6 rfl)
theorem dX12_type_91 : decode cX12_type 91 = .ok (.iadd, 1) := dk_1096 (dk_g tcX12_type_7 7 rfl)
theorem dX12_type_92 : decode cX12_type 92 = .ok (.istore_n 3, 1) := dk_1062 (dk_g tcX12_type_7 8 rfl)
theorem dX12_type_93 : decode cX12_type 93 = .ok (.iinc 5 1, 3) := dk_1132 (dk_g tcX12_type_7 9 rfl) (dk_g tcX12_type_7 10 rfl) (dk_g tcX12_type_7 11 rfl) rfl (by decide +kernel)
theorem tcX12_type_8 : (cX12_type.data.toList.drop 96).take 12 = [167, 255, 173, 3, 54, 5, 21, 5, 29, 162, 0, 23] := by decide +kernel
theorem dX12_type_96 : decode cX12_type 96 = .ok (.goto (-83), 3) := dk_1167 (dk_g tcX12_type_8 0 rfl) (dk_g tcX12_type_8 1 rfl) (dk_g tcX12_type_8 2 rfl) (by decide +kernel)
theorem dX12_type_99 : decode cX12_type 99 = .ok (.iconst 0, 1) := dk_1003 (dk_g tcX12_type_8 3 rfl)
theorem dX12_type_100 : decode cX12_type 100 = .ok (.istore 5, 2) := dk_1054 (dk_g tcX12_type_8 4 rfl) (dk_g tcX12_type_8 5 rfl) rfl
theorem dX12_type_102 : decode cX12_type 102 = .ok (.iload 5, 2) := dk_1021 (dk_g tcX12_type_8 6 rfl) (dk_g tcX12_type_8 7 rfl) rfl
theorem dX12_type_104 : decode cX12_type 104 = .ok (.iload_n 3, 1) := dk_1029 (dk_g tcX12_type_8 8 rfl)
theorem dX12_type_105 : decode cX12_type 105 = .ok (.if_icmp .ge 23, 3) := dk_2162 (dk_g tcX12_type_8 9 rfl) (dk_g tcX12_type_8 10 rfl) (dk_g tcX12_type_8 11 rfl) rfl rfl
theorem tcX12_type_9 : (cX12_type.data.toList.drop 108).take 12 = [42, 180, 0, 25, 21, 5, 42, 180, 0, 28, 21, 5] := by decide +kernel
theorem dX12_type_108 : decode cX12_type 108 = .ok (.aload_n 0, 1) := dk_1042 (dk_g tcX12_type_9 0 rfl)
theorem dX12_type_109 : decode cX12_type 109 = .ok (.getfield 25, 3) := dk_1180 (dk_g tcX12_type_9 1 rfl) (dk_g tcX12_type_9 2 rfl) (dk_g tcX12_type_9 3 rfl) rfl
theorem dX12_type_112 : decode cX12_type 112 = .ok (.iload 5, 2) := dk_1021 (dk_g tcX12_type_9 4 rfl) (dk_g tcX12_type_9 5 rfl) rfl
theorem dX12_type_114 : decode cX12_type 114 = .ok (.aload_n 0, 1) := dk_1042 (dk_g tcX12_type_9 6 rfl)
theorem dX12_type_115 : decode cX12_type 115 = .ok (.getfield 28, 3) := dk_1180 (dk_g tcX12_type_9 7 rfl) (dk_g tcX12_type_9 8 rfl) (dk_g tcX12_type_9 9 rfl) rfl
theorem dX12_type_118 : decode cX12_type 118 = .ok (.iload 5, 2) := dk_1021 (dk_g tcX12_type_9 10 rfl) (dk_g tcX12_type_9 11 rfl) rfl
theorem tcX12_type_10 : (cX12_type.data.toList.drop 120).take 12 = [46, 79, 132, 5, 1, 167, 255, 233, 42, 29, 181, 0] := by decide +kernel
theorem dX12_type_120 : decode cX12_type 120 = .ok (.iaload, 1) := dk_1046 (dk_g tcX12_type_10 0 rfl)
theorem dX12_type_121 : decode cX12_type 121 = .ok (.iastore, 1) := dk_1079 (dk_g tcX12_type_10 1 rfl)
theorem dX12_type_122 : decode cX12_type 122 = .ok (.iinc 5 1, 3) := dk_1132 (dk_g tcX12_type_10 2 rfl) (dk_g tcX12_type_10 3 rfl) (dk_g tcX12_type_10 4 rfl) rfl (by decide +kernel)
theorem dX12_type_125 : decode cX12_type 125 = .ok (.goto (-23), 3) := dk_1167 (dk_g tcX12_type_10 5 rfl) (dk_g tcX12_type_10 6 rfl) (dk_g tcX12_type_10 7 rfl) (by decide +kernel)
theorem dX12_type_128 : decode cX12_type 128 = .ok (.aload_n 0, 1) := dk_1042 (dk_g tcX12_type_10 8 rfl)
theorem dX12_type_129 : decode cX12_type 129 = .ok (.iload_n 3, 1) := dk_1029 (dk_g tcX12_type_10 9 rfl)
theorem tcX12_type_11 : (cX12_type.data.toList.drop 132).take 12 = [203, 29, 172] := by decide +kernel
theorem dX12_type_130 : decode cX12_type 130 = .ok (.putfield 203, 3) := dk_1181 (dk_g tcX12_type_10 10 rfl) (dk_g tcX12_type_10 11 rfl) (dk_g tcX12_type_11 0 rfl) rfl
theorem dX12_type_133 : decode cX12_type 133 = .ok (.iload_n 3, 1) := dk_1029 (dk_g tcX12_type_11 1 rfl)
theorem dX12_type_134 : decode cX12_type 134 = .ok (.ireturn, 1) := dk_1172 (dk_g tcX12_type_11 2 rfl)
theorem tcX12_hand_0 : (cX12_hand.data.toList.drop 0).take 12 = [3, 60, 27, 42, 180, 0, 203, 162, 0, 21, 42, 180] := by decide +kernel
theorem dX12_hand_0 : decode cX12_hand 0 = .ok (.iconst 0, 1) := dk_1003 (dk_g tcX12_hand_0 0 rfl)
theorem dX12_hand_1 : decode cX12_hand 1 = .ok (.istore_n 1, 1) := dk_1060 (dk_g tcX12_hand_0 1 rfl)
theorem dX12_hand_2 : decode cX12_hand 2 = .ok (.iload_n 1, 1) := dk_1027 (dk_g tcX12_hand_0 2 rfl)
theorem dX12_hand_3 : decode cX12_hand 3 = .ok (.aload_n 0, 1) := dk_1042 (dk_g tcX12_hand_0 3 rfl)
theorem dX12_hand_4 : decode cX12_hand 4 = .ok (.getfield 203, 3) := dk_1180 (dk_g tcX12_hand_0 4 rfl) (dk_g tcX12_hand_0 5 rfl) (dk_g tcX12_hand_0 6 rfl) rfl
theorem dX12_hand_7 : decode cX12_hand 7 = .ok (.if_icmp .ge 21, 3) := dk_2162 (dk_g tcX12_hand_0 7 rfl) (dk_g tcX12_hand_0 8 rfl) (dk_g tcX12_hand_0 9 rfl) rfl rfl
theorem dX12_hand_10 : decode cX12_hand 10 = .ok (.aload_n 0, 1) := dk_1042 (dk_g tcX12_hand_0 10 rfl)
theorem tcX12_hand_1 : (cX12_hand.data.toList.drop 12).take 12 = [0, 28, 27, 42, 180, 0, 25, 27, 46, 79, 132, 1] := by decide +kernel
theorem dX12_hand_11 : decode cX12_hand 11 = .ok (.getfield 28, 3) := dk_1180 (dk_g tcX12_hand_0 11 rfl) (dk_g tcX12_hand_1 0 rfl) (dk_g tcX12_hand_1 1 rfl) rfl
theorem dX12_hand_14 : decode cX12_hand 14 = .ok (.iload_n 1, 1) := dk_1027 (dk_g tcX12_hand_1 2 rfl)
theorem dX12_hand_15 : decode cX12_hand 15 = .ok (.aload_n 0, 1) := dk_1042 (dk_g tcX12_hand_1 3 rfl)
theorem dX12_hand_16 : decode cX12_hand 16 = .ok (.getfield 25, 3) := dk_1180 (dk_g tcX12_hand_1 4 rfl) (dk_g tcX12_hand_1 5 rfl) (dk_g tcX12_hand_1 6 rfl) rfl
theorem dX12_hand_19 : decode cX12_hand 19 = .ok (.iload_n 1, 1) := dk_1027 (dk_g tcX12_hand_1 7 rfl)
theorem dX12_hand_20 : decode cX12_hand 20 = .ok (.iaload, 1) := dk_1046 (dk_g tcX12_hand_1 8 rfl)
theorem dX12_hand_21 : decode cX12_hand 21 = .ok (.iastore, 1) := dk_1079 (dk_g tcX12_hand_1 9 rfl)
theorem tcX12_hand_2 : (cX12_hand.data.toList.drop 24).take 12 = [1, 167, 255, 233, 42, 42, 180, 0, 203, 181, 0, 206] := by decide +kernel
theorem dX12_hand_22 : decode cX12_hand 22 = .ok (.iinc 1 1, 3) := dk_1132 (dk_g tcX12_hand_1 10 rfl) (dk_g tcX12_hand_1 11 rfl) (dk_g tcX12_hand_2 0 rfl) rfl (by decide +kernel)
theorem dX12_hand_25 : decode cX12_hand 25 = .ok (.goto (-23), 3) := dk_1167 (dk_g tcX12_hand_2 1 rfl) (dk_g tcX12_hand_2 2 rfl) (dk_g tcX12_hand_2 3 rfl) (by decide +kernel)
theorem dX12_hand_28 : decode cX12_hand 28 = .ok (.aload_n 0, 1) := dk_1042 (dk_g tcX12_hand_2 4 rfl)
theorem dX12_hand_29 : decode cX12_hand 29 = .ok (.aload_n 0, 1) := dk_1042 (dk_g tcX12_hand_2 5 rfl)
theorem dX12_hand_30 : decode cX12_hand 30 = .ok (.getfield 203, 3) := dk_1180 (dk_g tcX12_hand_2 6 rfl) (dk_g tcX12_hand_2 7 rfl) (dk_g tcX12_hand_2 8 rfl) rfl
theorem dX12_hand_33 : decode cX12_hand 33 = .ok (.putfield 206, 3) := dk_1181 (dk_g tcX12_hand_2 9 rfl) (dk_g tcX12_hand_2 10 rfl) (dk_g tcX12_hand_2 11 rfl) rfl
theorem tcX12_hand_3 : (cX12_hand.data.toList.drop 36).take 12 = [177] := by decide +kernel
theorem dX12_hand_36 : decode cX12_hand 36 = .ok (.return_, 1) := dk_1177 (dk_g tcX12_hand_3 0 rfl)
theorem tcX12_adds_0 : (cX12_adds.data.toList.drop 0).take 12 = [42, 27, 182, 0, 209, 16, 48, 160, 0, 9, 42, 6] := by decide +kernel
theorem dX12_adds_0 : decode cX12_adds 0 = .ok (.aload_n 0, 1) := dk_1042 (dk_g tcX12_adds_0 0 rfl)
theorem dX12_adds_1 : decode cX12_adds 1 = .ok (.iload_n 1, 1) := dk_1027 (dk_g tcX12_adds_0 1 rfl)
theorem dX12_adds_2 : decode cX12_adds 2 = .ok (.invokevirtual 209, 3) := dk_1182 (dk_g tcX12_adds_0 2 rfl) (dk_g tcX12_adds_0 3 rfl) (dk_g tcX12_adds_0 4 rfl) rfl
theorem dX12_adds_5 : decode cX12_adds 5 = .ok (.bipush 48, 2) := dk_1016 (dk_g tcX12_adds_0 5 rfl) (dk_g tcX12_adds_0 6 rfl) (by decide +kernel)
theorem dX12_adds_7 : decode cX12_adds 7 = .ok (.if_icmp .ne 9, 3) := dk_2160 (dk_g tcX12_adds_0 7 rfl) (dk_g tcX12_adds_0 8 rfl) (dk_g tcX12_adds_0 9 rfl) rfl rfl
theorem dX12_adds_10 : decode cX12_adds 10 = .ok (.aload_n 0, 1) := dk_1042 (dk_g tcX12_adds_0 10 rfl)
theorem dX12_adds_11 : decode cX12_adds 11 = .ok (.iconst 3, 1) := dk_1006 (dk_g tcX12_adds_0 11 rfl)
theorem tcX12_adds_1 : (cX12_adds.data.toList.drop 12).take 12 = [182, 0, 212, 172, 16, 48, 27, 104, 42, 27, 182, 0] := by decide +kernel
theorem dX12_adds_12 : decode cX12_adds 12 = .ok (.invokevirtual 212, 3) := dk_1182 (dk_g tcX12_adds_1 0 rfl) (dk_g tcX12_adds_1 1 rfl) (dk_g tcX12_adds_1 2 rfl) rfl
theorem dX12_adds_15 : decode cX12_adds 15 = .ok (.ireturn, 1) := dk_1172 (dk_g tcX12_adds_1 3 rfl)
theorem dX12_adds_16 : decode cX12_adds 16 = .ok (.bipush 48, 2) := dk_1016 (dk_g tcX12_adds_1 4 rfl) (dk_g tcX12_adds_1 5 rfl) (by decide +kernel)
theorem dX12_adds_18 : decode cX12_adds 18 = .ok (.iload_n 1, 1) := dk_1027 (dk_g tcX12_adds_1 6 rfl)
theorem dX12_adds_19 : decode cX12_adds 19 = .ok (.imul, 1) := dk_1104 (dk_g tcX12_adds_1 7 rfl)
theorem dX12_adds_20 : decode cX12_adds 20 = .ok (.aload_n 0, 1) := dk_1042 (dk_g tcX12_adds_1 8 rfl)
theorem dX12_adds_21 : decode cX12_adds 21 = .ok (.iload_n 1, 1) := dk_1027 (dk_g tcX12_adds_1 9 rfl)
theorem tcX12_adds_2 : (cX12_adds.data.toList.drop 24).take 12 = [209, 96, 61, 42, 180, 0, 7, 17, 0, 252, 28, 96] := by decide +kernel
theorem dX12_adds_22 : decode cX12_adds 22 = .ok (.invokevirtual 209, 3) := dk_1182 (dk_g tcX12_adds_1 10 rfl) (dk_g tcX12_adds_1 11 rfl) (dk_g tcX12_adds_2 0 rfl) rfl
theorem dX12_adds_25 : decode cX12_adds 25 = .ok (.iadd, 1) := dk_1096 (dk_g tcX12_adds_2 1 rfl)
theorem dX12_adds_26 : decode cX12_adds 26 = .ok (.istore_n 2, 1) := dk_1061 (dk_g tcX12_adds_2 2 rfl)
theorem dX12_adds_27 : decode cX12_adds 27 = .ok (.aload_n 0, 1) := dk_1042 (dk_g tcX12_adds_2 3 rfl)
theorem dX12_adds_28 : decode cX12_adds 28 = .ok (.getfield 7, 3) := dk_1180 (dk_g tcX12_adds_2 4 rfl) (dk_g tcX12_adds_2 5 rfl) (dk_g tcX12_adds_2 6 rfl) rfl
theorem dX12_adds_31 : decode cX12_adds 31 = .ok (.sipush 252, 3) := dk_2017 (dk_g tcX12_adds_2 7 rfl) (dk_g tcX12_adds_2 8 rfl) (dk_g tcX12_adds_2 9 rfl) rfl rfl
theorem dX12_adds_34 : decode cX12_adds 34 = .ok (.iload_n 2, 1) := dk_1028 (dk_g tcX12_adds_2 10 rfl)
theorem dX12_adds_35 : decode cX12_adds 35 = .ok (.iadd, 1) := dk_1096 (dk_g tcX12_adds_2 11 rfl)
theorem tcX12_adds_3 : (cX12_adds.data.toList.drop 36).take 12 = [42, 180, 0, 206, 79, 3, 62, 29, 42, 180, 0, 206] := by decide +kernel
theorem dX12_adds_36 : decode cX12_adds 36 = .ok (.aload_n 0, 1) := dk_1042 (dk_g tcX12_adds_3 0 rfl)
theorem dX12_adds_37 : decode cX12_adds 37 = .ok (.getfield 206, 3) := dk_1180 (dk_g tcX12_adds_3 1 rfl) (dk_g tcX12_adds_3 2 rfl) (dk_g tcX12_adds_3 3 rfl) rfl
theorem dX12_adds_40 : decode cX12_adds 40 = .ok (.iastore, 1) := dk_1079 (dk_g tcX12_adds_3 4 rfl)
theorem dX12_adds_41 : decode cX12_adds 41 = .ok (.iconst 0, 1) := dk_1003 (dk_g tcX12_adds_3 5 rfl)
theorem dX12_adds_42 : decode cX12_adds 42 = .ok (.istore_n 3, 1) := dk_1062 (dk_g tcX12_adds_3 6 rfl)
theorem dX12_adds_43 : decode cX12_adds 43 = .ok (.iload_n 3, 1) := dk_1029 (dk_g tcX12_adds_3 7 rfl)
theorem dX12_adds_44 : decode cX12_adds 44 = .ok (.aload_n 0, 1) := dk_1042 (dk_g tcX12_adds_3 8 rfl)
theorem dX12_adds_45 : decode cX12_adds 45 = .ok (.getfield 206, 3) := dk_1180 (dk_g tcX12_adds_3 9 rfl) (dk_g tcX12_adds_3 10 rfl) (dk_g tcX12_adds_3 11 rfl) rfl
theorem tcX12_adds_4 : (cX12_adds.data.toList.drop 48).take 12 = [162, 0, 30, 42, 180, 0, 7, 17, 1, 188, 16, 8] := by decide +kernel
theorem dX12_adds_48 : decode cX12_adds 48 = .ok (.if_icmp .ge 30, 3) := dk_2162 (dk_g tcX12_adds_4 0 rfl) (dk_g tcX12_adds_4 1 rfl) (dk_g tcX12_adds_4 2 rfl) rfl rfl
theorem dX12_adds_51 : decode cX12_adds 51 = .ok (.aload_n 0, 1) := dk_1042 (dk_g tcX12_adds_4 3 rfl)
theorem dX12_adds_52 : decode cX12_adds 52 = .ok (.getfield 7, 3) := dk_1180 (dk_g tcX12_adds_4 4 rfl) (dk_g tcX12_adds_4 5 rfl) (dk_g tcX12_adds_4 6 rfl) rfl
theorem dX12_adds_55 : decode cX12_adds 55 = .ok (.sipush 444, 3) := dk_2017 (dk_g tcX12_adds_4 7 rfl) (dk_g tcX12_adds_4 8 rfl) (dk_g tcX12_adds_4 9 rfl) rfl rfl
theorem dX12_adds_58 : decode cX12_adds 58 = .ok (.bipush 8, 2) := dk_1016 (dk_g tcX12_adds_4 10 rfl) (dk_g tcX12_adds_4 11 rfl) (by decide +kernel)
theorem tcX12_adds_5 : (cX12_adds.data.toList.drop 60).take 12 = [28, 104, 96, 29, 96, 42, 180, 0, 28, 29, 46, 79] := by decide +kernel
theorem dX12_adds_60 : decode cX12_adds 60 = .ok (.iload_n 2, 1) := dk_1028 (dk_g tcX12_adds_5 0 rfl)
theorem dX12_adds_61 : decode cX12_adds 61 = .ok (.imul, 1) := dk_1104 (dk_g tcX12_adds_5 1 rfl)
theorem dX12_adds_62 : decode cX12_adds 62 = .ok (.iadd, 1) := dk_1096 (dk_g tcX12_adds_5 2 rfl)
theorem dX12_adds_63 : decode cX12_adds 63 = .ok (.iload_n 3, 1) := dk_1029 (dk_g tcX12_adds_5 3 rfl)
theorem dX12_adds_64 : decode cX12_adds 64 = .ok (.iadd, 1) := dk_1096 (dk_g tcX12_adds_5 4 rfl)
theorem dX12_adds_65 : decode cX12_adds 65 = .ok (.aload_n 0, 1) := dk_1042 (dk_g tcX12_adds_5 5 rfl)
theorem dX12_adds_66 : decode cX12_adds 66 = .ok (.getfield 28, 3) := dk_1180 (dk_g tcX12_adds_5 6 rfl) (dk_g tcX12_adds_5 7 rfl) (dk_g tcX12_adds_5 8 rfl) rfl
theorem dX12_adds_69 : decode cX12_adds 69 = .ok (.iload_n 3, 1) := dk_1029 (dk_g tcX12_adds_5 9 rfl)
theorem dX12_adds_70 : decode cX12_adds 70 = .ok (.iaload, 1) := dk_1046 (dk_g tcX12_adds_5 10 rfl)
theorem dX12_adds_71 : decode cX12_adds 71 = .ok (.iastore, 1) := dk_1079 (dk_g tcX12_adds_5 11 rfl)
theorem tcX12_adds_6 : (cX12_adds.data.toList.drop 72).take 12 = [132, 3, 1, 167, 255, 224, 42, 180, 0, 7, 16, 72] := by decide +kernel
theorem dX12_adds_72 : decode cX12_adds 72 = .ok (.iinc 3 1, 3) := dk_1132 (dk_g tcX12_adds_6 0 rfl) (dk_g tcX12_adds_6 1 rfl) (dk_g tcX12_adds_6 2 rfl) rfl (by decide +kernel)
theorem dX12_adds_75 : decode cX12_adds 75 = .ok (.goto (-32), 3) := dk_1167 (dk_g tcX12_adds_6 3 rfl) (dk_g tcX12_adds_6 4 rfl) (dk_g tcX12_adds_6 5 rfl) (by decide +kernel)
theorem dX12_adds_78 : decode cX12_adds 78 = .ok (.aload_n 0, 1) := dk_1042 (dk_g tcX12_adds_6 6 rfl)
theorem dX12_adds_79 : decode cX12_adds 79 = .ok (.getfield 7, 3) := dk_1180 (dk_g tcX12_adds_6 7 rfl) (dk_g tcX12_adds_6 8 rfl) (dk_g tcX12_adds_6 9 rfl) rfl
theorem dX12_adds_82 : decode cX12_adds 82 = .ok (.bipush 72, 2) := dk_1016 (dk_g tcX12_adds_6 10 rfl) (dk_g tcX12_adds_6 11 rfl) (by decide +kernel)
theorem tcX12_adds_7 : (cX12_adds.data.toList.drop 84).take 12 = [27, 96, 92, 46, 4, 96, 79, 42, 180, 0, 7, 7] := by decide +kernel
theorem dX12_adds_84 : decode cX12_adds 84 = .ok (.iload_n 1, 1) := dk_1027 (dk_g tcX12_adds_7 0 rfl)
theorem dX12_adds_85 : decode cX12_adds 85 = .ok (.iadd, 1) := dk_1096 (dk_g tcX12_adds_7 1 rfl)
theorem dX12_adds_86 : decode cX12_adds 86 = .ok (.dup2, 1) := dk_1092 (dk_g tcX12_adds_7 2 rfl)
theorem dX12_adds_87 : decode cX12_adds 87 = .ok (.iaload, 1) := dk_1046 (dk_g tcX12_adds_7 3 rfl)
theorem dX12_adds_88 : decode cX12_adds 88 = .ok (.iconst 1, 1) := dk_1004 (dk_g tcX12_adds_7 4 rfl)
theorem dX12_adds_89 : decode cX12_adds 89 = .ok (.iadd, 1) := dk_1096 (dk_g tcX12_adds_7 5 rfl)
theorem dX12_adds_90 : decode cX12_adds 90 = .ok (.iastore, 1) := dk_1079 (dk_g tcX12_adds_7 6 rfl)
theorem dX12_adds_91 : decode cX12_adds 91 = .ok (.aload_n 0, 1) := dk_1042 (dk_g tcX12_adds_7 7 rfl)
theorem dX12_adds_92 : decode cX12_adds 92 = .ok (.getfield 7, 3) := dk_1180 (dk_g tcX12_adds_7 8 rfl) (dk_g tcX12_adds_7 9 rfl) (dk_g tcX12_adds_7 10 rfl) rfl
theorem dX12_adds_95 : decode cX12_adds 95 = .ok (.iconst 4, 1) := dk_1007 (dk_g tcX12_adds_7 11 rfl)
theorem tcX12_adds_8 : (cX12_adds.data.toList.drop 96).take 12 = [92, 46, 4, 96, 79, 42, 27, 182, 0, 209, 4, 100] := by decide +kernel
theorem dX12_adds_96 : decode cX12_adds 96 = .ok (.dup2, 1) := dk_1092 (dk_g tcX12_adds_8 0 rfl)
theorem dX12_adds_97 : decode cX12_adds 97 = .ok (.iaload, 1) := dk_1046 (dk_g tcX12_adds_8 1 rfl)
theorem dX12_adds_98 : decode cX12_adds 98 = .ok (.iconst 1, 1) := dk_1004 (dk_g tcX12_adds_8 2 rfl)
theorem dX12_adds_99 : decode cX12_adds 99 = .ok (.iadd, 1) := dk_1096 (dk_g tcX12_adds_8 3 rfl)
theorem dX12_adds_100 : decode cX12_adds 100 = .ok (.iastore, 1) := dk_1079 (dk_g tcX12_adds_8 4 rfl)
theorem dX12_adds_101 : decode cX12_adds 101 = .ok (.aload_n 0, 1) := dk_1042 (dk_g tcX12_adds_8 5 rfl)
theorem dX12_adds_102 : decode cX12_adds 102 = .ok (.iload_n 1, 1) := dk_1027 (dk_g tcX12_adds_8 6 rfl)
theorem dX12_adds_103 : decode cX12_adds 103 = .ok (.invokevirtual 209, 3) := dk_1182 (dk_g tcX12_adds_8 7 rfl) (dk_g tcX12_adds_8 8 rfl) (dk_g tcX12_adds_8 9 rfl) rfl
theorem dX12_adds_106 : decode cX12_adds 106 = .ok (.iconst 1, 1) := dk_1004 (dk_g tcX12_adds_8 10 rfl)
theorem dX12_adds_107 : decode cX12_adds 107 = .ok (.isub, 1) := dk_1100 (dk_g tcX12_adds_8 11 rfl)
theorem tcX12_adds_9 : (cX12_adds.data.toList.drop 108).take 12 = [172] := by decide +kernel
theorem dX12_adds_108 : decode cX12_adds 108 = .ok (.ireturn, 1) := dk_1172 (dk_g tcX12_adds_9 0 rfl)
theorem tcX12_forks_0 : (cX12_forks.data.toList.drop 0).take 12 = [28, 42, 27, 182, 0, 209, 164, 0, 9, 42, 8, 182] := by decide +kernel
theorem dX12_forks_0 : decode cX12_forks 0 = .ok (.iload_n 2, 1) := dk_1028 (dk_g tcX12_forks_0 0 rfl)
theorem dX12_forks_1 : decode cX12_forks 1 = .ok (.aload_n 0, 1) := dk_1042 (dk_g tcX12_forks_0 1 rfl)
theorem dX12_forks_2 : decode cX12_forks 2 = .ok (.iload_n 1, 1) := dk_1027 (dk_g tcX12_forks_0 2 rfl)
theorem dX12_forks_3 : decode cX12_forks 3 = .ok (.invokevirtual 209, 3) := dk_1182 (dk_g tcX12_forks_0 3 rfl) (dk_g tcX12_forks_0 4 rfl) (dk_g tcX12_forks_0 5 rfl) rfl
theorem dX12_forks_6 : decode cX12_forks 6 = .ok (.if_icmp .le 9, 3) := dk_2164 (dk_g tcX12_forks_0 6 rfl) (dk_g tcX12_forks_0 7 rfl) (dk_g tcX12_forks_0 8 rfl) rfl rfl
theorem dX12_forks_9 : decode cX12_forks 9 = .ok (.aload_n 0, 1) := dk_1042 (dk_g tcX12_forks_0 9 rfl)
theorem dX12_forks_10 : decode cX12_forks 10 = .ok (.iconst 5, 1) := dk_1008 (dk_g tcX12_forks_0 10 rfl)
theorem tcX12_forks_1 : (cX12_forks.data.toList.drop 12).take 12 = [0, 212, 172, 42, 180, 0, 7, 3, 46, 7, 160, 0] := by decide +kernel
theorem dX12_forks_11 : decode cX12_forks 11 = .ok (.invokevirtual 212, 3) := dk_1182 (dk_g tcX12_forks_0 11 rfl) (dk_g tcX12_forks_1 0 rfl) (dk_g tcX12_forks_1 1 rfl) rfl
theorem dX12_forks_14 : decode cX12_forks 14 = .ok (.ireturn, 1) := dk_1172 (dk_g tcX12_forks_1 2 rfl)
theorem dX12_forks_15 : decode cX12_forks 15 = .ok (.aload_n 0, 1) := dk_1042 (dk_g tcX12_forks_1 3 rfl)
theorem dX12_forks_16 : decode cX12_forks 16 = .ok (.getfield 7, 3) := dk_1180 (dk_g tcX12_forks_1 4 rfl) (dk_g tcX12_forks_1 5 rfl) (dk_g tcX12_forks_1 6 rfl) rfl
theorem dX12_forks_19 : decode cX12_forks 19 = .ok (.iconst 0, 1) := dk_1003 (dk_g tcX12_forks_1 7 rfl)
theorem dX12_forks_20 : decode cX12_forks 20 = .ok (.iaload, 1) := dk_1046 (dk_g tcX12_forks_1 8 rfl)
theorem dX12_forks_21 : decode cX12_forks 21 = .ok (.iconst 4, 1) := dk_1007 (dk_g tcX12_forks_1 9 rfl)
theorem tcX12_forks_2 : (cX12_forks.data.toList.drop 24).take 12 = [9, 42, 6, 182, 0, 212, 172, 42, 180, 0, 7, 3] := by decide +kernel
theorem dX12_forks_22 : decode cX12_forks 22 = .ok (.if_icmp .ne 9, 3) := dk_2160 (dk_g tcX12_forks_1 10 rfl) (dk_g tcX12_forks_1 11 rfl) (dk_g tcX12_forks_2 0 rfl) rfl rfl
theorem dX12_forks_25 : decode cX12_forks 25 = .ok (.aload_n 0, 1) := dk_1042 (dk_g tcX12_forks_2 1 rfl)
theorem dX12_forks_26 : decode cX12_forks 26 = .ok (.iconst 3, 1) := dk_1006 (dk_g tcX12_forks_2 2 rfl)
theorem dX12_forks_27 : decode cX12_forks 27 = .ok (.invokevirtual 212, 3) := dk_1182 (dk_g tcX12_forks_2 3 rfl) (dk_g tcX12_forks_2 4 rfl) (dk_g tcX12_forks_2 5 rfl) rfl
theorem dX12_forks_30 : decode cX12_forks 30 = .ok (.ireturn, 1) := dk_1172 (dk_g tcX12_forks_2 6 rfl)
theorem dX12_forks_31 : decode cX12_forks 31 = .ok (.aload_n 0, 1) := dk_1042 (dk_g tcX12_forks_2 7 rfl)
theorem dX12_forks_32 : decode cX12_forks 32 = .ok (.getfield 7, 3) := dk_1180 (dk_g tcX12_forks_2 8 rfl) (dk_g tcX12_forks_2 9 rfl) (dk_g tcX12_forks_2 10 rfl) rfl
theorem dX12_forks_35 : decode cX12_forks 35 = .ok (.iconst 0, 1) := dk_1003 (dk_g tcX12_forks_2 11 rfl)
theorem tcX12_forks_3 : (cX12_forks.data.toList.drop 36).take 12 = [46, 62, 3, 54, 4, 21, 4, 28, 162, 0, 101, 42] := by decide +kernel
theorem dX12_forks_36 : decode cX12_forks 36 = .ok (.iaload, 1) := dk_1046 (dk_g tcX12_forks_3 0 rfl)
theorem dX12_forks_37 : decode cX12_forks 37 = .ok (.istore_n 3, 1) := dk_1062 (dk_g tcX12_forks_3 1 rfl)
theorem dX12_forks_38 : decode cX12_forks 38 = .ok (.iconst 0, 1) := dk_1003 (dk_g tcX12_forks_3 2 rfl)
theorem dX12_forks_39 : decode cX12_forks 39 = .ok (.istore 4, 2) := dk_1054 (dk_g tcX12_forks_3 3 rfl) (dk_g tcX12_forks_3 4 rfl) rfl
theorem dX12_forks_41 : decode cX12_forks 41 = .ok (.iload 4, 2) := dk_1021 (dk_g tcX12_forks_3 5 rfl) (dk_g tcX12_forks_3 6 rfl) rfl
theorem dX12_forks_43 : decode cX12_forks 43 = .ok (.iload_n 2, 1) := dk_1028 (dk_g tcX12_forks_3 7 rfl)
theorem dX12_forks_44 : decode cX12_forks 44 = .ok (.if_icmp .ge 101, 3) := dk_2162 (dk_g tcX12_forks_3 8 rfl) (dk_g tcX12_forks_3 9 rfl) (dk_g tcX12_forks_3 10 rfl) rfl rfl
theorem dX12_forks_47 : decode cX12_forks 47 = .ok (.aload_n 0, 1) := dk_1042 (dk_g tcX12_forks_3 11 rfl)
theorem tcX12_forks_4 : (cX12_forks.data.toList.drop 48).take 12 = [180, 0, 7, 17, 0, 252, 16, 48, 29, 104, 96, 21] := by decide +kernel
theorem dX12_forks_48 : decode cX12_forks 48 = .ok (.getfield 7, 3) := dk_1180 (dk_g tcX12_forks_4 0 rfl) (dk_g tcX12_forks_4 1 rfl) (dk_g tcX12_forks_4 2 rfl) rfl
theorem dX12_forks_51 : decode cX12_forks 51 = .ok (.sipush 252, 3) := dk_2017 (dk_g tcX12_forks_4 3 rfl) (dk_g tcX12_forks_4 4 rfl) (dk_g tcX12_forks_4 5 rfl) rfl rfl
theorem dX12_forks_54 : decode cX12_forks 54 = .ok (.bipush 48, 2) := dk_1016 (dk_g tcX12_forks_4 6 rfl) (dk_g tcX12_forks_4 7 rfl) (by decide +kernel)
theorem dX12_forks_56 : decode cX12_forks 56 = .ok (.iload_n 3, 1) := dk_1029 (dk_g tcX12_forks_4 8 rfl)
theorem dX12_forks_57 : decode cX12_forks 57 = .ok (.imul, 1) := dk_1104 (dk_g tcX12_forks_4 9 rfl)
theorem dX12_forks_58 : decode cX12_forks 58 = .ok (.iadd, 1) := dk_1096 (dk_g tcX12_forks_4 10 rfl)
theorem tcX12_forks_5 : (cX12_forks.data.toList.drop 60).take 12 = [4, 96, 42, 180, 0, 7, 17, 0, 252, 16, 48, 27] := by decide +kernel
theorem dX12_forks_59 : decode cX12_forks 59 = .ok (.iload 4, 2) := dk_1021 (dk_g tcX12_forks_4 11 rfl) (dk_g tcX12_forks_5 0 rfl) rfl
theorem dX12_forks_61 : decode cX12_forks 61 = .ok (.iadd, 1) := dk_1096 (dk_g tcX12_forks_5 1 rfl)
theorem dX12_forks_62 : decode cX12_forks 62 = .ok (.aload_n 0, 1) := dk_1042 (dk_g tcX12_forks_5 2 rfl)
theorem dX12_forks_63 : decode cX12_forks 63 = .ok (.getfield 7, 3) := dk_1180 (dk_g tcX12_forks_5 3 rfl) (dk_g tcX12_forks_5 4 rfl) (dk_g tcX12_forks_5 5 rfl) rfl
theorem dX12_forks_66 : decode cX12_forks 66 = .ok (.sipush 252, 3) := dk_2017 (dk_g tcX12_forks_5 6 rfl) (dk_g tcX12_forks_5 7 rfl) (dk_g tcX12_forks_5 8 rfl) rfl rfl
theorem dX12_forks_69 : decode cX12_forks 69 = .ok (.bipush 48, 2) := dk_1016 (dk_g tcX12_forks_5 9 rfl) (dk_g tcX12_forks_5 10 rfl) (by decide +kernel)
theorem dX12_forks_71 : decode cX12_forks 71 = .ok (.iload_n 1, 1) := dk_1027 (dk_g tcX12_forks_5 11 rfl)
theorem tcX12_forks_6 : (cX12_forks.data.toList.drop 72).take 12 = [104, 96, 21, 4, 96, 46, 79, 3, 54, 5, 21, 5] := by decide +kernel
theorem dX12_forks_72 : decode cX12_forks 72 = .ok (.imul, 1) := dk_1104 (dk_g tcX12_forks_6 0 rfl)
theorem dX12_forks_73 : decode cX12_forks 73 = .ok (.iadd, 1) := dk_1096 (dk_g tcX12_forks_6 1 rfl)
theorem dX12_forks_74 : decode cX12_forks 74 = .ok (.iload 4, 2) := dk_1021 (dk_g tcX12_forks_6 2 rfl) (dk_g tcX12_forks_6 3 rfl) rfl
theorem dX12_forks_76 : decode cX12_forks 76 = .ok (.iadd, 1) := dk_1096 (dk_g tcX12_forks_6 4 rfl)
theorem dX12_forks_77 : decode cX12_forks 77 = .ok (.iaload, 1) := dk_1046 (dk_g tcX12_forks_6 5 rfl)
theorem dX12_forks_78 : decode cX12_forks 78 = .ok (.iastore, 1) := dk_1079 (dk_g tcX12_forks_6 6 rfl)
theorem dX12_forks_79 : decode cX12_forks 79 = .ok (.iconst 0, 1) := dk_1003 (dk_g tcX12_forks_6 7 rfl)
theorem dX12_forks_80 : decode cX12_forks 80 = .ok (.istore 5, 2) := dk_1054 (dk_g tcX12_forks_6 8 rfl) (dk_g tcX12_forks_6 9 rfl) rfl
theorem dX12_forks_82 : decode cX12_forks 82 = .ok (.iload 5, 2) := dk_1021 (dk_g tcX12_forks_6 10 rfl) (dk_g tcX12_forks_6 11 rfl) rfl
theorem tcX12_forks_7 : (cX12_forks.data.toList.drop 84).take 12 = [16, 8, 162, 0, 53, 42, 180, 0, 7, 17, 1, 188] := by decide +kernel
theorem dX12_forks_84 : decode cX12_forks 84 = .ok (.bipush 8, 2) := dk_1016 (dk_g tcX12_forks_7 0 rfl) (dk_g tcX12_forks_7 1 rfl) (by decide +kernel)
theorem dX12_forks_86 : decode cX12_forks 86 = .ok (.if_icmp .ge 53, 3) := dk_2162 (dk_g tcX12_forks_7 2 rfl) (dk_g tcX12_forks_7 3 rfl) (dk_g tcX12_forks_7 4 rfl) rfl rfl
theorem dX12_forks_89 : decode cX12_forks 89 = .ok (.aload_n 0, 1) := dk_1042 (dk_g tcX12_forks_7 5 rfl)
theorem dX12_forks_90 : decode cX12_forks 90 = .ok (.getfield 7, 3) := dk_1180 (dk_g tcX12_forks_7 6 rfl) (dk_g tcX12_forks_7 7 rfl) (dk_g tcX12_forks_7 8 rfl) rfl
theorem dX12_forks_93 : decode cX12_forks 93 = .ok (.sipush 444, 3) := dk_2017 (dk_g tcX12_forks_7 9 rfl) (dk_g tcX12_forks_7 10 rfl) (dk_g tcX12_forks_7 11 rfl) rfl rfl
theorem tcX12_forks_8 : (cX12_forks.data.toList.drop 96).take 12 = [16, 8, 16, 48, 29, 104, 21, 4, 96, 104, 96, 21] := by decide +kernel
theorem dX12_forks_96 : decode cX12_forks 96 = .ok (.bipush 8, 2) := dk_1016 (dk_g tcX12_forks_8 0 rfl) (dk_g tcX12_forks_8 1 rfl) (by decide +kernel)
theorem dX12_forks_98 : decode cX12_forks 98 = .ok (.bipush 48, 2) := dk_1016 (dk_g tcX12_forks_8 2 rfl) (dk_g tcX12_forks_8 3 rfl) (by decide +kernel)
theorem dX12_forks_100 : decode cX12_forks 100 = .ok (.iload_n 3, 1) := dk_1029 (dk_g tcX12_forks_8 4 rfl)
theorem dX12_forks_101 : decode cX12_forks 101 = .ok (.imul, 1) := dk_1104 (dk_g tcX12_forks_8 5 rfl)
theorem dX12_forks_102 : decode cX12_forks 102 = .ok (.iload 4, 2) := dk_1021 (dk_g tcX12_forks_8 6 rfl) (dk_g tcX12_forks_8 7 rfl) rfl
theorem dX12_forks_104 : decode cX12_forks 104 = .ok (.iadd, 1) := dk_1096 (dk_g tcX12_forks_8 8 rfl)
theorem dX12_forks_105 : decode cX12_forks 105 = .ok (.imul, 1) := dk_1104 (dk_g tcX12_forks_8 9 rfl)
theorem dX12_forks_106 : decode cX12_forks 106 = .ok (.iadd, 1) := dk_1096 (dk_g tcX12_forks_8 10 rfl)
theorem tcX12_forks_9 : (cX12_forks.data.toList.drop 108).take 12 = [5, 96, 42, 180, 0, 7, 17, 1, 188, 16, 8, 16] := by decide +kernel
theorem dX12_forks_107 : decode cX12_forks 107 = .ok (.iload 5, 2) := dk_1021 (dk_g tcX12_forks_8 11 rfl) (dk_g tcX12_forks_9 0 rfl) rfl
theorem dX12_forks_109 : decode cX12_forks 109 = .ok (.iadd, 1) := dk_1096 (dk_g tcX12_forks_9 1 rfl)
theorem dX12_forks_110 : decode cX12_forks 110 = .ok (.aload_n 0, 1) := dk_1042 (dk_g tcX12_forks_9 2 rfl)
theorem dX12_forks_111 : decode cX12_forks 111 = .ok (.getfield 7, 3) := dk_1180 (dk_g tcX12_forks_9 3 rfl) (dk_g tcX12_forks_9 4 rfl) (dk_g tcX12_forks_9 5 rfl) rfl
theorem dX12_forks_114 : decode cX12_forks 114 = .ok (.sipush 444, 3) := dk_2017 (dk_g tcX12_forks_9 6 rfl) (dk_g tcX12_forks_9 7 rfl) (dk_g tcX12_forks_9 8 rfl) rfl rfl
theorem dX12_forks_117 : decode cX12_forks 117 = .ok (.bipush 8, 2) := dk_1016 (dk_g tcX12_forks_9 9 rfl) (dk_g tcX12_forks_9 10 rfl) (by decide +kernel)
theorem tcX12_forks_10 : (cX12_forks.data.toList.drop 120).take 12 = [48, 27, 104, 21, 4, 96, 104, 96, 21, 5, 96, 46] := by decide +kernel
theorem dX12_forks_119 : decode cX12_forks 119 = .ok (.bipush 48, 2) := dk_1016 (dk_g tcX12_forks_9 11 rfl) (dk_g tcX12_forks_10 0 rfl) (by decide +kernel)
theorem dX12_forks_121 : decode cX12_forks 121 = .ok (.iload_n 1, 1) := dk_1027 (dk_g tcX12_forks_10 1 rfl)
theorem dX12_forks_122 : decode cX12_forks 122 = .ok (.imul, 1) := dk_1104 (dk_g tcX12_forks_10 2 rfl)
theorem dX12_forks_123 : decode cX12_forks 123 = .ok (.iload 4, 2) := dk_1021 (dk_g tcX12_forks_10 3 rfl) (dk_g tcX12_forks_10 4 rfl) rfl
theorem dX12_forks_125 : decode cX12_forks 125 = .ok (.iadd, 1) := dk_1096 (dk_g tcX12_forks_10 5 rfl)
theorem dX12_forks_126 : decode cX12_forks 126 = .ok (.imul, 1) := dk_1104 (dk_g tcX12_forks_10 6 rfl)
theorem dX12_forks_127 : decode cX12_forks 127 = .ok (.iadd, 1) := dk_1096 (dk_g tcX12_forks_10 7 rfl)
theorem dX12_forks_128 : decode cX12_forks 128 = .ok (.iload 5, 2) := dk_1021 (dk_g tcX12_forks_10 8 rfl) (dk_g tcX12_forks_10 9 rfl) rfl
theorem dX12_forks_130 : decode cX12_forks 130 = .ok (.iadd, 1) := dk_1096 (dk_g tcX12_forks_10 10 rfl)
theorem dX12_forks_131 : decode cX12_forks 131 = .ok (.iaload, 1) := dk_1046 (dk_g tcX12_forks_10 11 rfl)
theorem tcX12_forks_11 : (cX12_forks.data.toList.drop 132).take 12 = [79, 132, 5, 1, 167, 255, 202, 132, 4, 1, 167, 255] := by decide +kernel
theorem dX12_forks_132 : decode cX12_forks 132 = .ok (.iastore, 1) := dk_1079 (dk_g tcX12_forks_11 0 rfl)
theorem dX12_forks_133 : decode cX12_forks 133 = .ok (.iinc 5 1, 3) := dk_1132 (dk_g tcX12_forks_11 1 rfl) (dk_g tcX12_forks_11 2 rfl) (dk_g tcX12_forks_11 3 rfl) rfl (by decide +kernel)
theorem dX12_forks_136 : decode cX12_forks 136 = .ok (.goto (-54), 3) := dk_1167 (dk_g tcX12_forks_11 4 rfl) (dk_g tcX12_forks_11 5 rfl) (dk_g tcX12_forks_11 6 rfl) (by decide +kernel)
theorem dX12_forks_139 : decode cX12_forks 139 = .ok (.iinc 4 1, 3) := dk_1132 (dk_g tcX12_forks_11 7 rfl) (dk_g tcX12_forks_11 8 rfl) (dk_g tcX12_forks_11 9 rfl) rfl (by decide +kernel)
theorem tcX12_forks_12 : (cX12_forks.data.toList.drop 144).take 12 = [155, 42, 180, 0, 7, 16, 72, 29, 96, 28, 79, 42] := by decide +kernel
theorem dX12_forks_142 : decode cX12_forks 142 = .ok (.goto (-101), 3) := dk_1167 (dk_g tcX12_forks_11 10 rfl) (dk_g tcX12_forks_11 11 rfl) (dk_g tcX12_forks_12 0 rfl) (by decide +kernel)
theorem dX12_forks_145 : decode cX12_forks 145 = .ok (.aload_n 0, 1) := dk_1042 (dk_g tcX12_forks_12 1 rfl)
theorem dX12_forks_146 : decode cX12_forks 146 = .ok (.getfield 7, 3) := dk_1180 (dk_g tcX12_forks_12 2 rfl) (dk_g tcX12_forks_12 3 rfl) (dk_g tcX12_forks_12 4 rfl) rfl
theorem dX12_forks_149 : decode cX12_forks 149 = .ok (.bipush 72, 2) := dk_1016 (dk_g tcX12_forks_12 5 rfl) (dk_g tcX12_forks_12 6 rfl) (by decide +kernel)
theorem dX12_forks_151 : decode cX12_forks 151 = .ok (.iload_n 3, 1) := dk_1029 (dk_g tcX12_forks_12 7 rfl)
theorem dX12_forks_152 : decode cX12_forks 152 = .ok (.iadd, 1) := dk_1096 (dk_g tcX12_forks_12 8 rfl)
theorem dX12_forks_153 : decode cX12_forks 153 = .ok (.iload_n 2, 1) := dk_1028 (dk_g tcX12_forks_12 9 rfl)
theorem dX12_forks_154 : decode cX12_forks 154 = .ok (.iastore, 1) := dk_1079 (dk_g tcX12_forks_12 10 rfl)
theorem dX12_forks_155 : decode cX12_forks 155 = .ok (.aload_n 0, 1) := dk_1042 (dk_g tcX12_forks_12 11 rfl)
theorem tcX12_forks_13 : (cX12_forks.data.toList.drop 156).take 12 = [180, 0, 7, 3, 92, 46, 4, 96, 79, 42, 180, 0] := by decide +kernel
theorem dX12_forks_156 : decode cX12_forks 156 = .ok (.getfield 7, 3) := dk_1180 (dk_g tcX12_forks_13 0 rfl) (dk_g tcX12_forks_13 1 rfl) (dk_g tcX12_forks_13 2 rfl) rfl
theorem dX12_forks_159 : decode cX12_forks 159 = .ok (.iconst 0, 1) := dk_1003 (dk_g tcX12_forks_13 3 rfl)
theorem dX12_forks_160 : decode cX12_forks 160 = .ok (.dup2, 1) := dk_1092 (dk_g tcX12_forks_13 4 rfl)
theorem dX12_forks_161 : decode cX12_forks 161 = .ok (.iaload, 1) := dk_1046 (dk_g tcX12_forks_13 5 rfl)
theorem dX12_forks_162 : decode cX12_forks 162 = .ok (.iconst 1, 1) := dk_1004 (dk_g tcX12_forks_13 6 rfl)
theorem dX12_forks_163 : decode cX12_forks 163 = .ok (.iadd, 1) := dk_1096 (dk_g tcX12_forks_13 7 rfl)
theorem dX12_forks_164 : decode cX12_forks 164 = .ok (.iastore, 1) := dk_1079 (dk_g tcX12_forks_13 8 rfl)
theorem dX12_forks_165 : decode cX12_forks 165 = .ok (.aload_n 0, 1) := dk_1042 (dk_g tcX12_forks_13 9 rfl)
theorem tcX12_forks_14 : (cX12_forks.data.toList.drop 168).take 12 = [7, 7, 92, 46, 4, 96, 79, 29, 172] := by decide +kernel
theorem dX12_forks_166 : decode cX12_forks 166 = .ok (.getfield 7, 3) := dk_1180 (dk_g tcX12_forks_13 10 rfl) (dk_g tcX12_forks_13 11 rfl) (dk_g tcX12_forks_14 0 rfl) rfl
theorem dX12_forks_169 : decode cX12_forks 169 = .ok (.iconst 4, 1) := dk_1007 (dk_g tcX12_forks_14 1 rfl)
theorem dX12_forks_170 : decode cX12_forks 170 = .ok (.dup2, 1) := dk_1092 (dk_g tcX12_forks_14 2 rfl)
theorem dX12_forks_171 : decode cX12_forks 171 = .ok (.iaload, 1) := dk_1046 (dk_g tcX12_forks_14 3 rfl)
theorem dX12_forks_172 : decode cX12_forks 172 = .ok (.iconst 1, 1) := dk_1004 (dk_g tcX12_forks_14 4 rfl)
theorem dX12_forks_173 : decode cX12_forks 173 = .ok (.iadd, 1) := dk_1096 (dk_g tcX12_forks_14 5 rfl)
theorem dX12_forks_174 : decode cX12_forks 174 = .ok (.iastore, 1) := dk_1079 (dk_g tcX12_forks_14 6 rfl)
theorem dX12_forks_175 : decode cX12_forks 175 = .ok (.iload_n 3, 1) := dk_1029 (dk_g tcX12_forks_14 7 rfl)
theorem dX12_forks_176 : decode cX12_forks 176 = .ok (.ireturn, 1) := dk_1172 (dk_g tcX12_forks_14 8 rfl)
theorem tcX12_freezes_0 : (cX12_freezes.data.toList.drop 0).take 12 = [42, 180, 0, 7, 6, 46, 16, 16, 160, 0, 9, 42] := by decide +kernel
theorem dX12_freezes_0 : decode cX12_freezes 0 = .ok (.aload_n 0, 1) := dk_1042 (dk_g tcX12_freezes_0 0 rfl)
theorem dX12_freezes_1 : decode cX12_freezes 1 = .ok (.getfield 7, 3) := dk_1180 (dk_g tcX12_freezes_0 1 rfl) (dk_g tcX12_freezes_0 2 rfl) (dk_g tcX12_freezes_0 3 rfl) rfl
theorem dX12_freezes_4 : decode cX12_freezes 4 = .ok (.iconst 3, 1) := dk_1006 (dk_g tcX12_freezes_0 4 rfl)
theorem dX12_freezes_5 : decode cX12_freezes 5 = .ok (.iaload, 1) := dk_1046 (dk_g tcX12_freezes_0 5 rfl)
theorem dX12_freezes_6 : decode cX12_freezes 6 = .ok (.bipush 16, 2) := dk_1016 (dk_g tcX12_freezes_0 6 rfl) (dk_g tcX12_freezes_0 7 rfl) (by decide +kernel)
theorem dX12_freezes_8 : decode cX12_freezes 8 = .ok (.if_icmp .ne 9, 3) := dk_2160 (dk_g tcX12_freezes_0 8 rfl) (dk_g tcX12_freezes_0 9 rfl) (dk_g tcX12_freezes_0 10 rfl) rfl rfl
theorem dX12_freezes_11 : decode cX12_freezes 11 = .ok (.aload_n 0, 1) := dk_1042 (dk_g tcX12_freezes_0 11 rfl)
theorem tcX12_freezes_1 : (cX12_freezes.data.toList.drop 12).take 12 = [6, 182, 0, 212, 172, 16, 92, 16, 10, 42, 180, 0] := by decide +kernel
theorem dX12_freezes_12 : decode cX12_freezes 12 = .ok (.iconst 3, 1) := dk_1006 (dk_g tcX12_freezes_1 0 rfl)
theorem dX12_freezes_13 : decode cX12_freezes 13 = .ok (.invokevirtual 212, 3) := dk_1182 (dk_g tcX12_freezes_1 1 rfl) (dk_g tcX12_freezes_1 2 rfl) (dk_g tcX12_freezes_1 3 rfl) rfl
theorem dX12_freezes_16 : decode cX12_freezes 16 = .ok (.ireturn, 1) := dk_1172 (dk_g tcX12_freezes_1 4 rfl)
theorem dX12_freezes_17 : decode cX12_freezes 17 = .ok (.bipush 92, 2) := dk_1016 (dk_g tcX12_freezes_1 5 rfl) (dk_g tcX12_freezes_1 6 rfl) (by decide +kernel)
theorem dX12_freezes_19 : decode cX12_freezes 19 = .ok (.bipush 10, 2) := dk_1016 (dk_g tcX12_freezes_1 7 rfl) (dk_g tcX12_freezes_1 8 rfl) (by decide +kernel)
theorem dX12_freezes_21 : decode cX12_freezes 21 = .ok (.aload_n 0, 1) := dk_1042 (dk_g tcX12_freezes_1 9 rfl)
theorem tcX12_freezes_2 : (cX12_freezes.data.toList.drop 24).take 12 = [7, 6, 46, 104, 96, 61, 42, 180, 0, 7, 28, 27] := by decide +kernel
theorem dX12_freezes_22 : decode cX12_freezes 22 = .ok (.getfield 7, 3) := dk_1180 (dk_g tcX12_freezes_1 10 rfl) (dk_g tcX12_freezes_1 11 rfl) (dk_g tcX12_freezes_2 0 rfl) rfl
theorem dX12_freezes_25 : decode cX12_freezes 25 = .ok (.iconst 3, 1) := dk_1006 (dk_g tcX12_freezes_2 1 rfl)
theorem dX12_freezes_26 : decode cX12_freezes 26 = .ok (.iaload, 1) := dk_1046 (dk_g tcX12_freezes_2 2 rfl)
theorem dX12_freezes_27 : decode cX12_freezes 27 = .ok (.imul, 1) := dk_1104 (dk_g tcX12_freezes_2 3 rfl)
theorem dX12_freezes_28 : decode cX12_freezes 28 = .ok (.iadd, 1) := dk_1096 (dk_g tcX12_freezes_2 4 rfl)
theorem dX12_freezes_29 : decode cX12_freezes 29 = .ok (.istore_n 2, 1) := dk_1061 (dk_g tcX12_freezes_2 5 rfl)
theorem dX12_freezes_30 : decode cX12_freezes 30 = .ok (.aload_n 0, 1) := dk_1042 (dk_g tcX12_freezes_2 6 rfl)
theorem dX12_freezes_31 : decode cX12_freezes 31 = .ok (.getfield 7, 3) := dk_1180 (dk_g tcX12_freezes_2 7 rfl) (dk_g tcX12_freezes_2 8 rfl) (dk_g tcX12_freezes_2 9 rfl) rfl
theorem dX12_freezes_34 : decode cX12_freezes 34 = .ok (.iload_n 2, 1) := dk_1028 (dk_g tcX12_freezes_2 10 rfl)
theorem dX12_freezes_35 : decode cX12_freezes 35 = .ok (.iload_n 1, 1) := dk_1027 (dk_g tcX12_freezes_2 11 rfl)
theorem tcX12_freezes_3 : (cX12_freezes.data.toList.drop 36).take 12 = [79, 42, 180, 0, 7, 28, 4, 96, 42, 27, 182, 0] := by decide +kernel
theorem dX12_freezes_36 : decode cX12_freezes 36 = .ok (.iastore, 1) := dk_1079 (dk_g tcX12_freezes_3 0 rfl)
theorem dX12_freezes_37 : decode cX12_freezes 37 = .ok (.aload_n 0, 1) := dk_1042 (dk_g tcX12_freezes_3 1 rfl)
theorem dX12_freezes_38 : decode cX12_freezes 38 = .ok (.getfield 7, 3) := dk_1180 (dk_g tcX12_freezes_3 2 rfl) (dk_g tcX12_freezes_3 3 rfl) (dk_g tcX12_freezes_3 4 rfl) rfl
theorem dX12_freezes_41 : decode cX12_freezes 41 = .ok (.iload_n 2, 1) := dk_1028 (dk_g tcX12_freezes_3 5 rfl)
theorem dX12_freezes_42 : decode cX12_freezes 42 = .ok (.iconst 1, 1) := dk_1004 (dk_g tcX12_freezes_3 6 rfl)
theorem dX12_freezes_43 : decode cX12_freezes 43 = .ok (.iadd, 1) := dk_1096 (dk_g tcX12_freezes_3 7 rfl)
theorem dX12_freezes_44 : decode cX12_freezes 44 = .ok (.aload_n 0, 1) := dk_1042 (dk_g tcX12_freezes_3 8 rfl)
theorem dX12_freezes_45 : decode cX12_freezes 45 = .ok (.iload_n 1, 1) := dk_1027 (dk_g tcX12_freezes_3 9 rfl)
theorem tcX12_freezes_4 : (cX12_freezes.data.toList.drop 48).take 12 = [209, 79, 42, 180, 0, 7, 28, 5, 96, 42, 27, 42] := by decide +kernel
theorem dX12_freezes_46 : decode cX12_freezes 46 = .ok (.invokevirtual 209, 3) := dk_1182 (dk_g tcX12_freezes_3 10 rfl) (dk_g tcX12_freezes_3 11 rfl) (dk_g tcX12_freezes_4 0 rfl) rfl
theorem dX12_freezes_49 : decode cX12_freezes 49 = .ok (.iastore, 1) := dk_1079 (dk_g tcX12_freezes_4 1 rfl)
theorem dX12_freezes_50 : decode cX12_freezes 50 = .ok (.aload_n 0, 1) := dk_1042 (dk_g tcX12_freezes_4 2 rfl)
theorem dX12_freezes_51 : decode cX12_freezes 51 = .ok (.getfield 7, 3) := dk_1180 (dk_g tcX12_freezes_4 3 rfl) (dk_g tcX12_freezes_4 4 rfl) (dk_g tcX12_freezes_4 5 rfl) rfl
theorem dX12_freezes_54 : decode cX12_freezes 54 = .ok (.iload_n 2, 1) := dk_1028 (dk_g tcX12_freezes_4 6 rfl)
theorem dX12_freezes_55 : decode cX12_freezes 55 = .ok (.iconst 2, 1) := dk_1005 (dk_g tcX12_freezes_4 7 rfl)
theorem dX12_freezes_56 : decode cX12_freezes 56 = .ok (.iadd, 1) := dk_1096 (dk_g tcX12_freezes_4 8 rfl)
theorem dX12_freezes_57 : decode cX12_freezes 57 = .ok (.aload_n 0, 1) := dk_1042 (dk_g tcX12_freezes_4 9 rfl)
theorem dX12_freezes_58 : decode cX12_freezes 58 = .ok (.iload_n 1, 1) := dk_1027 (dk_g tcX12_freezes_4 10 rfl)
theorem dX12_freezes_59 : decode cX12_freezes 59 = .ok (.aload_n 0, 1) := dk_1042 (dk_g tcX12_freezes_4 11 rfl)
theorem tcX12_freezes_5 : (cX12_freezes.data.toList.drop 60).take 12 = [27, 182, 0, 209, 182, 0, 215, 79, 42, 180, 0, 7] := by decide +kernel
theorem dX12_freezes_60 : decode cX12_freezes 60 = .ok (.iload_n 1, 1) := dk_1027 (dk_g tcX12_freezes_5 0 rfl)
theorem dX12_freezes_61 : decode cX12_freezes 61 = .ok (.invokevirtual 209, 3) := dk_1182 (dk_g tcX12_freezes_5 1 rfl) (dk_g tcX12_freezes_5 2 rfl) (dk_g tcX12_freezes_5 3 rfl) rfl
theorem dX12_freezes_64 : decode cX12_freezes 64 = .ok (.invokevirtual 215, 3) := dk_1182 (dk_g tcX12_freezes_5 4 rfl) (dk_g tcX12_freezes_5 5 rfl) (dk_g tcX12_freezes_5 6 rfl) rfl
theorem dX12_freezes_67 : decode cX12_freezes 67 = .ok (.iastore, 1) := dk_1079 (dk_g tcX12_freezes_5 7 rfl)
theorem dX12_freezes_68 : decode cX12_freezes 68 = .ok (.aload_n 0, 1) := dk_1042 (dk_g tcX12_freezes_5 8 rfl)
theorem dX12_freezes_69 : decode cX12_freezes 69 = .ok (.getfield 7, 3) := dk_1180 (dk_g tcX12_freezes_5 9 rfl) (dk_g tcX12_freezes_5 10 rfl) (dk_g tcX12_freezes_5 11 rfl) rfl
theorem tcX12_freezes_6 : (cX12_freezes.data.toList.drop 72).take 12 = [28, 6, 96, 42, 180, 0, 7, 7, 46, 79, 42, 42] := by decide +kernel
theorem dX12_freezes_72 : decode cX12_freezes 72 = .ok (.iload_n 2, 1) := dk_1028 (dk_g tcX12_freezes_6 0 rfl)
theorem dX12_freezes_73 : decode cX12_freezes 73 = .ok (.iconst 3, 1) := dk_1006 (dk_g tcX12_freezes_6 1 rfl)
theorem dX12_freezes_74 : decode cX12_freezes 74 = .ok (.iadd, 1) := dk_1096 (dk_g tcX12_freezes_6 2 rfl)
theorem dX12_freezes_75 : decode cX12_freezes 75 = .ok (.aload_n 0, 1) := dk_1042 (dk_g tcX12_freezes_6 3 rfl)
theorem dX12_freezes_76 : decode cX12_freezes 76 = .ok (.getfield 7, 3) := dk_1180 (dk_g tcX12_freezes_6 4 rfl) (dk_g tcX12_freezes_6 5 rfl) (dk_g tcX12_freezes_6 6 rfl) rfl
theorem dX12_freezes_79 : decode cX12_freezes 79 = .ok (.iconst 4, 1) := dk_1007 (dk_g tcX12_freezes_6 7 rfl)
theorem dX12_freezes_80 : decode cX12_freezes 80 = .ok (.iaload, 1) := dk_1046 (dk_g tcX12_freezes_6 8 rfl)
theorem dX12_freezes_81 : decode cX12_freezes 81 = .ok (.iastore, 1) := dk_1079 (dk_g tcX12_freezes_6 9 rfl)
theorem dX12_freezes_82 : decode cX12_freezes 82 = .ok (.aload_n 0, 1) := dk_1042 (dk_g tcX12_freezes_6 10 rfl)
theorem dX12_freezes_83 : decode cX12_freezes 83 = .ok (.aload_n 0, 1) := dk_1042 (dk_g tcX12_freezes_6 11 rfl)
theorem tcX12_freezes_7 : (cX12_freezes.data.toList.drop 84).take 12 = [27, 182, 0, 209, 182, 0, 218, 42, 27, 182, 0, 161] := by decide +kernel
theorem dX12_freezes_84 : decode cX12_freezes 84 = .ok (.iload_n 1, 1) := dk_1027 (dk_g tcX12_freezes_7 0 rfl)
theorem dX12_freezes_85 : decode cX12_freezes 85 = .ok (.invokevirtual 209, 3) := dk_1182 (dk_g tcX12_freezes_7 1 rfl) (dk_g tcX12_freezes_7 2 rfl) (dk_g tcX12_freezes_7 3 rfl) rfl
theorem dX12_freezes_88 : decode cX12_freezes 88 = .ok (.invokevirtual 218, 3) := dk_1182 (dk_g tcX12_freezes_7 4 rfl) (dk_g tcX12_freezes_7 5 rfl) (dk_g tcX12_freezes_7 6 rfl) rfl
theorem dX12_freezes_91 : decode cX12_freezes 91 = .ok (.aload_n 0, 1) := dk_1042 (dk_g tcX12_freezes_7 7 rfl)
theorem dX12_freezes_92 : decode cX12_freezes 92 = .ok (.iload_n 1, 1) := dk_1027 (dk_g tcX12_freezes_7 8 rfl)
theorem dX12_freezes_93 : decode cX12_freezes 93 = .ok (.invokevirtual 161, 3) := dk_1182 (dk_g tcX12_freezes_7 9 rfl) (dk_g tcX12_freezes_7 10 rfl) (dk_g tcX12_freezes_7 11 rfl) rfl
theorem tcX12_freezes_8 : (cX12_freezes.data.toList.drop 96).take 12 = [3, 62, 29, 42, 180, 0, 139, 162, 0, 25, 42, 180] := by decide +kernel
theorem dX12_freezes_96 : decode cX12_freezes 96 = .ok (.iconst 0, 1) := dk_1003 (dk_g tcX12_freezes_8 0 rfl)
theorem dX12_freezes_97 : decode cX12_freezes 97 = .ok (.istore_n 3, 1) := dk_1062 (dk_g tcX12_freezes_8 1 rfl)
theorem dX12_freezes_98 : decode cX12_freezes 98 = .ok (.iload_n 3, 1) := dk_1029 (dk_g tcX12_freezes_8 2 rfl)
theorem dX12_freezes_99 : decode cX12_freezes 99 = .ok (.aload_n 0, 1) := dk_1042 (dk_g tcX12_freezes_8 3 rfl)
theorem dX12_freezes_100 : decode cX12_freezes 100 = .ok (.getfield 139, 3) := dk_1180 (dk_g tcX12_freezes_8 4 rfl) (dk_g tcX12_freezes_8 5 rfl) (dk_g tcX12_freezes_8 6 rfl) rfl
theorem dX12_freezes_103 : decode cX12_freezes 103 = .ok (.if_icmp .ge 25, 3) := dk_2162 (dk_g tcX12_freezes_8 7 rfl) (dk_g tcX12_freezes_8 8 rfl) (dk_g tcX12_freezes_8 9 rfl) rfl rfl
theorem dX12_freezes_106 : decode cX12_freezes 106 = .ok (.aload_n 0, 1) := dk_1042 (dk_g tcX12_freezes_8 10 rfl)
theorem tcX12_freezes_9 : (cX12_freezes.data.toList.drop 108).take 12 = [0, 7, 28, 7, 96, 29, 96, 42, 180, 0, 22, 29] := by decide +kernel
theorem dX12_freezes_107 : decode cX12_freezes 107 = .ok (.getfield 7, 3) := dk_1180 (dk_g tcX12_freezes_8 11 rfl) (dk_g tcX12_freezes_9 0 rfl) (dk_g tcX12_freezes_9 1 rfl) rfl
theorem dX12_freezes_110 : decode cX12_freezes 110 = .ok (.iload_n 2, 1) := dk_1028 (dk_g tcX12_freezes_9 2 rfl)
theorem dX12_freezes_111 : decode cX12_freezes 111 = .ok (.iconst 4, 1) := dk_1007 (dk_g tcX12_freezes_9 3 rfl)
theorem dX12_freezes_112 : decode cX12_freezes 112 = .ok (.iadd, 1) := dk_1096 (dk_g tcX12_freezes_9 4 rfl)
theorem dX12_freezes_113 : decode cX12_freezes 113 = .ok (.iload_n 3, 1) := dk_1029 (dk_g tcX12_freezes_9 5 rfl)
theorem dX12_freezes_114 : decode cX12_freezes 114 = .ok (.iadd, 1) := dk_1096 (dk_g tcX12_freezes_9 6 rfl)
theorem dX12_freezes_115 : decode cX12_freezes 115 = .ok (.aload_n 0, 1) := dk_1042 (dk_g tcX12_freezes_9 7 rfl)
theorem dX12_freezes_116 : decode cX12_freezes 116 = .ok (.getfield 22, 3) := dk_1180 (dk_g tcX12_freezes_9 8 rfl) (dk_g tcX12_freezes_9 9 rfl) (dk_g tcX12_freezes_9 10 rfl) rfl
theorem dX12_freezes_119 : decode cX12_freezes 119 = .ok (.iload_n 3, 1) := dk_1029 (dk_g tcX12_freezes_9 11 rfl)
theorem tcX12_freezes_10 : (cX12_freezes.data.toList.drop 120).take 12 = [46, 79, 132, 3, 1, 167, 255, 229, 42, 180, 0, 7] := by decide +kernel
theorem dX12_freezes_120 : decode cX12_freezes 120 = .ok (.iaload, 1) := dk_1046 (dk_g tcX12_freezes_10 0 rfl)
theorem dX12_freezes_121 : decode cX12_freezes 121 = .ok (.iastore, 1) := dk_1079 (dk_g tcX12_freezes_10 1 rfl)
theorem dX12_freezes_122 : decode cX12_freezes 122 = .ok (.iinc 3 1, 3) := dk_1132 (dk_g tcX12_freezes_10 2 rfl) (dk_g tcX12_freezes_10 3 rfl) (dk_g tcX12_freezes_10 4 rfl) rfl (by decide +kernel)
theorem dX12_freezes_125 : decode cX12_freezes 125 = .ok (.goto (-27), 3) := dk_1167 (dk_g tcX12_freezes_10 5 rfl) (dk_g tcX12_freezes_10 6 rfl) (dk_g tcX12_freezes_10 7 rfl) (by decide +kernel)
theorem dX12_freezes_128 : decode cX12_freezes 128 = .ok (.aload_n 0, 1) := dk_1042 (dk_g tcX12_freezes_10 8 rfl)
theorem dX12_freezes_129 : decode cX12_freezes 129 = .ok (.getfield 7, 3) := dk_1180 (dk_g tcX12_freezes_10 9 rfl) (dk_g tcX12_freezes_10 10 rfl) (dk_g tcX12_freezes_10 11 rfl) rfl
theorem tcX12_freezes_11 : (cX12_freezes.data.toList.drop 132).take 12 = [6, 92, 46, 4, 96, 79, 42, 180, 0, 7, 7, 92] := by decide +kernel
theorem dX12_freezes_132 : decode cX12_freezes 132 = .ok (.iconst 3, 1) := dk_1006 (dk_g tcX12_freezes_11 0 rfl)
theorem dX12_freezes_133 : decode cX12_freezes 133 = .ok (.dup2, 1) := dk_1092 (dk_g tcX12_freezes_11 1 rfl)
theorem dX12_freezes_134 : decode cX12_freezes 134 = .ok (.iaload, 1) := dk_1046 (dk_g tcX12_freezes_11 2 rfl)
theorem dX12_freezes_135 : decode cX12_freezes 135 = .ok (.iconst 1, 1) := dk_1004 (dk_g tcX12_freezes_11 3 rfl)
theorem dX12_freezes_136 : decode cX12_freezes 136 = .ok (.iadd, 1) := dk_1096 (dk_g tcX12_freezes_11 4 rfl)
theorem dX12_freezes_137 : decode cX12_freezes 137 = .ok (.iastore, 1) := dk_1079 (dk_g tcX12_freezes_11 5 rfl)
theorem dX12_freezes_138 : decode cX12_freezes 138 = .ok (.aload_n 0, 1) := dk_1042 (dk_g tcX12_freezes_11 6 rfl)
theorem dX12_freezes_139 : decode cX12_freezes 139 = .ok (.getfield 7, 3) := dk_1180 (dk_g tcX12_freezes_11 7 rfl) (dk_g tcX12_freezes_11 8 rfl) (dk_g tcX12_freezes_11 9 rfl) rfl
theorem dX12_freezes_142 : decode cX12_freezes 142 = .ok (.iconst 4, 1) := dk_1007 (dk_g tcX12_freezes_11 10 rfl)
theorem dX12_freezes_143 : decode cX12_freezes 143 = .ok (.dup2, 1) := dk_1092 (dk_g tcX12_freezes_11 11 rfl)
theorem tcX12_freezes_12 : (cX12_freezes.data.toList.drop 144).take 12 = [46, 4, 96, 79, 42, 180, 0, 7, 6, 46, 4, 100] := by decide +kernel
theorem dX12_freezes_144 : decode cX12_freezes 144 = .ok (.iaload, 1) := dk_1046 (dk_g tcX12_freezes_12 0 rfl)
theorem dX12_freezes_145 : decode cX12_freezes 145 = .ok (.iconst 1, 1) := dk_1004 (dk_g tcX12_freezes_12 1 rfl)
theorem dX12_freezes_146 : decode cX12_freezes 146 = .ok (.iadd, 1) := dk_1096 (dk_g tcX12_freezes_12 2 rfl)
theorem dX12_freezes_147 : decode cX12_freezes 147 = .ok (.iastore, 1) := dk_1079 (dk_g tcX12_freezes_12 3 rfl)
theorem dX12_freezes_148 : decode cX12_freezes 148 = .ok (.aload_n 0, 1) := dk_1042 (dk_g tcX12_freezes_12 4 rfl)
theorem dX12_freezes_149 : decode cX12_freezes 149 = .ok (.getfield 7, 3) := dk_1180 (dk_g tcX12_freezes_12 5 rfl) (dk_g tcX12_freezes_12 6 rfl) (dk_g tcX12_freezes_12 7 rfl) rfl
theorem dX12_freezes_152 : decode cX12_freezes 152 = .ok (.iconst 3, 1) := dk_1006 (dk_g tcX12_freezes_12 8 rfl)
theorem dX12_freezes_153 : decode cX12_freezes 153 = .ok (.iaload, 1) := dk_1046 (dk_g tcX12_freezes_12 9 rfl)
theorem dX12_freezes_154 : decode cX12_freezes 154 = .ok (.iconst 1, 1) := dk_1004 (dk_g tcX12_freezes_12 10 rfl)
theorem dX12_freezes_155 : decode cX12_freezes 155 = .ok (.isub, 1) := dk_1100 (dk_g tcX12_freezes_12 11 rfl)
theorem tcX12_freezes_13 : (cX12_freezes.data.toList.drop 156).take 12 = [172] := by decide +kernel
theorem dX12_freezes_156 : decode cX12_freezes 156 = .ok (.ireturn, 1) := dk_1172 (dk_g tcX12_freezes_13 0 rfl)
theorem tcX12_trust_0 : (cX12_trust.data.toList.drop 0).take 12 = [42, 180, 0, 7, 16, 76, 7, 27, 104, 96, 28, 96] := by decide +kernel
theorem dX12_trust_0 : decode cX12_trust 0 = .ok (.aload_n 0, 1) := dk_1042 (dk_g tcX12_trust_0 0 rfl)
theorem dX12_trust_1 : decode cX12_trust 1 = .ok (.getfield 7, 3) := dk_1180 (dk_g tcX12_trust_0 1 rfl) (dk_g tcX12_trust_0 2 rfl) (dk_g tcX12_trust_0 3 rfl) rfl
theorem dX12_trust_4 : decode cX12_trust 4 = .ok (.bipush 76, 2) := dk_1016 (dk_g tcX12_trust_0 4 rfl) (dk_g tcX12_trust_0 5 rfl) (by decide +kernel)
theorem dX12_trust_6 : decode cX12_trust 6 = .ok (.iconst 4, 1) := dk_1007 (dk_g tcX12_trust_0 6 rfl)
theorem dX12_trust_7 : decode cX12_trust 7 = .ok (.iload_n 1, 1) := dk_1027 (dk_g tcX12_trust_0 7 rfl)
theorem dX12_trust_8 : decode cX12_trust 8 = .ok (.imul, 1) := dk_1104 (dk_g tcX12_trust_0 8 rfl)
theorem dX12_trust_9 : decode cX12_trust 9 = .ok (.iadd, 1) := dk_1096 (dk_g tcX12_trust_0 9 rfl)
theorem dX12_trust_10 : decode cX12_trust 10 = .ok (.iload_n 2, 1) := dk_1028 (dk_g tcX12_trust_0 10 rfl)
theorem dX12_trust_11 : decode cX12_trust 11 = .ok (.iadd, 1) := dk_1096 (dk_g tcX12_trust_0 11 rfl)
theorem tcX12_trust_1 : (cX12_trust.data.toList.drop 12).take 12 = [46, 172] := by decide +kernel
theorem dX12_trust_12 : decode cX12_trust 12 = .ok (.iaload, 1) := dk_1046 (dk_g tcX12_trust_1 0 rfl)
theorem dX12_trust_13 : decode cX12_trust 13 = .ok (.ireturn, 1) := dk_1172 (dk_g tcX12_trust_1 1 rfl)
theorem tcX12_trusts_0 : (cX12_trusts.data.toList.drop 0).take 12 = [42, 180, 0, 7, 16, 76, 7, 27, 104, 96, 28, 79] := by decide +kernel
theorem dX12_trusts_0 : decode cX12_trusts 0 = .ok (.aload_n 0, 1) := dk_1042 (dk_g tcX12_trusts_0 0 rfl)
theorem dX12_trusts_1 : decode cX12_trusts 1 = .ok (.getfield 7, 3) := dk_1180 (dk_g tcX12_trusts_0 1 rfl) (dk_g tcX12_trusts_0 2 rfl) (dk_g tcX12_trusts_0 3 rfl) rfl
theorem dX12_trusts_4 : decode cX12_trusts 4 = .ok (.bipush 76, 2) := dk_1016 (dk_g tcX12_trusts_0 4 rfl) (dk_g tcX12_trusts_0 5 rfl) (by decide +kernel)
theorem dX12_trusts_6 : decode cX12_trusts 6 = .ok (.iconst 4, 1) := dk_1007 (dk_g tcX12_trusts_0 6 rfl)
theorem dX12_trusts_7 : decode cX12_trusts 7 = .ok (.iload_n 1, 1) := dk_1027 (dk_g tcX12_trusts_0 7 rfl)
theorem dX12_trusts_8 : decode cX12_trusts 8 = .ok (.imul, 1) := dk_1104 (dk_g tcX12_trusts_0 8 rfl)
theorem dX12_trusts_9 : decode cX12_trusts 9 = .ok (.iadd, 1) := dk_1096 (dk_g tcX12_trusts_0 9 rfl)
theorem dX12_trusts_10 : decode cX12_trusts 10 = .ok (.iload_n 2, 1) := dk_1028 (dk_g tcX12_trusts_0 10 rfl)
theorem dX12_trusts_11 : decode cX12_trusts 11 = .ok (.iastore, 1) := dk_1079 (dk_g tcX12_trusts_0 11 rfl)
theorem tcX12_trusts_1 : (cX12_trusts.data.toList.drop 12).take 12 = [42, 180, 0, 7, 16, 76, 7, 27, 104, 96, 4, 96] := by decide +kernel
theorem dX12_trusts_12 : decode cX12_trusts 12 = .ok (.aload_n 0, 1) := dk_1042 (dk_g tcX12_trusts_1 0 rfl)
theorem dX12_trusts_13 : decode cX12_trusts 13 = .ok (.getfield 7, 3) := dk_1180 (dk_g tcX12_trusts_1 1 rfl) (dk_g tcX12_trusts_1 2 rfl) (dk_g tcX12_trusts_1 3 rfl) rfl
theorem dX12_trusts_16 : decode cX12_trusts 16 = .ok (.bipush 76, 2) := dk_1016 (dk_g tcX12_trusts_1 4 rfl) (dk_g tcX12_trusts_1 5 rfl) (by decide +kernel)
theorem dX12_trusts_18 : decode cX12_trusts 18 = .ok (.iconst 4, 1) := dk_1007 (dk_g tcX12_trusts_1 6 rfl)
theorem dX12_trusts_19 : decode cX12_trusts 19 = .ok (.iload_n 1, 1) := dk_1027 (dk_g tcX12_trusts_1 7 rfl)
theorem dX12_trusts_20 : decode cX12_trusts 20 = .ok (.imul, 1) := dk_1104 (dk_g tcX12_trusts_1 8 rfl)
theorem dX12_trusts_21 : decode cX12_trusts 21 = .ok (.iadd, 1) := dk_1096 (dk_g tcX12_trusts_1 9 rfl)
theorem dX12_trusts_22 : decode cX12_trusts 22 = .ok (.iconst 1, 1) := dk_1004 (dk_g tcX12_trusts_1 10 rfl)
theorem dX12_trusts_23 : decode cX12_trusts 23 = .ok (.iadd, 1) := dk_1096 (dk_g tcX12_trusts_1 11 rfl)
theorem tcX12_trusts_2 : (cX12_trusts.data.toList.drop 24).take 12 = [29, 79, 177] := by decide +kernel
theorem dX12_trusts_24 : decode cX12_trusts 24 = .ok (.iload_n 3, 1) := dk_1029 (dk_g tcX12_trusts_2 0 rfl)
theorem dX12_trusts_25 : decode cX12_trusts 25 = .ok (.iastore, 1) := dk_1079 (dk_g tcX12_trusts_2 1 rfl)
theorem dX12_trusts_26 : decode cX12_trusts 26 = .ok (.return_, 1) := dk_1177 (dk_g tcX12_trusts_2 2 rfl)
theorem tcX12_shows_0 : (cX12_shows.data.toList.drop 0).take 12 = [42, 27, 3, 182, 0, 221, 54, 4, 42, 28, 29, 182] := by decide +kernel
theorem dX12_shows_0 : decode cX12_shows 0 = .ok (.aload_n 0, 1) := dk_1042 (dk_g tcX12_shows_0 0 rfl)
theorem dX12_shows_1 : decode cX12_shows 1 = .ok (.iload_n 1, 1) := dk_1027 (dk_g tcX12_shows_0 1 rfl)
theorem dX12_shows_2 : decode cX12_shows 2 = .ok (.iconst 0, 1) := dk_1003 (dk_g tcX12_shows_0 2 rfl)
theorem dX12_shows_3 : decode cX12_shows 3 = .ok (.invokevirtual 221, 3) := dk_1182 (dk_g tcX12_shows_0 3 rfl) (dk_g tcX12_shows_0 4 rfl) (dk_g tcX12_shows_0 5 rfl) rfl
theorem dX12_shows_6 : decode cX12_shows 6 = .ok (.istore 4, 2) := dk_1054 (dk_g tcX12_shows_0 6 rfl) (dk_g tcX12_shows_0 7 rfl) rfl
theorem dX12_shows_8 : decode cX12_shows 8 = .ok (.aload_n 0, 1) := dk_1042 (dk_g tcX12_shows_0 8 rfl)
theorem dX12_shows_9 : decode cX12_shows 9 = .ok (.iload_n 2, 1) := dk_1028 (dk_g tcX12_shows_0 9 rfl)
theorem dX12_shows_10 : decode cX12_shows 10 = .ok (.iload_n 3, 1) := dk_1029 (dk_g tcX12_shows_0 10 rfl)
theorem tcX12_shows_1 : (cX12_shows.data.toList.drop 12).take 12 = [0, 215, 54, 5, 21, 4, 29, 164, 0, 36, 42, 28] := by decide +kernel
theorem dX12_shows_11 : decode cX12_shows 11 = .ok (.invokevirtual 215, 3) := dk_1182 (dk_g tcX12_shows_0 11 rfl) (dk_g tcX12_shows_1 0 rfl) (dk_g tcX12_shows_1 1 rfl) rfl
theorem dX12_shows_14 : decode cX12_shows 14 = .ok (.istore 5, 2) := dk_1054 (dk_g tcX12_shows_1 2 rfl) (dk_g tcX12_shows_1 3 rfl) rfl
theorem dX12_shows_16 : decode cX12_shows 16 = .ok (.iload 4, 2) := dk_1021 (dk_g tcX12_shows_1 4 rfl) (dk_g tcX12_shows_1 5 rfl) rfl
theorem dX12_shows_18 : decode cX12_shows 18 = .ok (.iload_n 3, 1) := dk_1029 (dk_g tcX12_shows_1 6 rfl)
theorem dX12_shows_19 : decode cX12_shows 19 = .ok (.if_icmp .le 36, 3) := dk_2164 (dk_g tcX12_shows_1 7 rfl) (dk_g tcX12_shows_1 8 rfl) (dk_g tcX12_shows_1 9 rfl) rfl rfl
theorem dX12_shows_22 : decode cX12_shows 22 = .ok (.aload_n 0, 1) := dk_1042 (dk_g tcX12_shows_1 10 rfl)
theorem dX12_shows_23 : decode cX12_shows 23 = .ok (.iload_n 2, 1) := dk_1028 (dk_g tcX12_shows_1 11 rfl)
theorem tcX12_shows_2 : (cX12_shows.data.toList.drop 24).take 12 = [182, 0, 209, 21, 4, 162, 0, 7, 8, 167, 0, 38] := by decide +kernel
theorem dX12_shows_24 : decode cX12_shows 24 = .ok (.invokevirtual 209, 3) := dk_1182 (dk_g tcX12_shows_2 0 rfl) (dk_g tcX12_shows_2 1 rfl) (dk_g tcX12_shows_2 2 rfl) rfl
theorem dX12_shows_27 : decode cX12_shows 27 = .ok (.iload 4, 2) := dk_1021 (dk_g tcX12_shows_2 3 rfl) (dk_g tcX12_shows_2 4 rfl) rfl
theorem dX12_shows_29 : decode cX12_shows 29 = .ok (.if_icmp .ge 7, 3) := dk_2162 (dk_g tcX12_shows_2 5 rfl) (dk_g tcX12_shows_2 6 rfl) (dk_g tcX12_shows_2 7 rfl) rfl rfl
theorem dX12_shows_32 : decode cX12_shows 32 = .ok (.iconst 5, 1) := dk_1008 (dk_g tcX12_shows_2 8 rfl)
theorem dX12_shows_33 : decode cX12_shows 33 = .ok (.goto 38, 3) := dk_2167 (dk_g tcX12_shows_2 9 rfl) (dk_g tcX12_shows_2 10 rfl) (dk_g tcX12_shows_2 11 rfl) rfl rfl
theorem tcX12_shows_3 : (cX12_shows.data.toList.drop 36).take 12 = [42, 28, 29, 21, 5, 21, 4, 42, 27, 4, 182, 0] := by decide +kernel
theorem dX12_shows_36 : decode cX12_shows 36 = .ok (.aload_n 0, 1) := dk_1042 (dk_g tcX12_shows_3 0 rfl)
theorem dX12_shows_37 : decode cX12_shows 37 = .ok (.iload_n 2, 1) := dk_1028 (dk_g tcX12_shows_3 1 rfl)
theorem dX12_shows_38 : decode cX12_shows 38 = .ok (.iload_n 3, 1) := dk_1029 (dk_g tcX12_shows_3 2 rfl)
theorem dX12_shows_39 : decode cX12_shows 39 = .ok (.iload 5, 2) := dk_1021 (dk_g tcX12_shows_3 3 rfl) (dk_g tcX12_shows_3 4 rfl) rfl
theorem dX12_shows_41 : decode cX12_shows 41 = .ok (.iload 4, 2) := dk_1021 (dk_g tcX12_shows_3 5 rfl) (dk_g tcX12_shows_3 6 rfl) rfl
theorem dX12_shows_43 : decode cX12_shows 43 = .ok (.aload_n 0, 1) := dk_1042 (dk_g tcX12_shows_3 7 rfl)
theorem dX12_shows_44 : decode cX12_shows 44 = .ok (.iload_n 1, 1) := dk_1027 (dk_g tcX12_shows_3 8 rfl)
theorem dX12_shows_45 : decode cX12_shows 45 = .ok (.iconst 1, 1) := dk_1004 (dk_g tcX12_shows_3 9 rfl)
theorem tcX12_shows_4 : (cX12_shows.data.toList.drop 48).take 12 = [221, 182, 0, 224, 167, 0, 19, 42, 28, 21, 4, 42] := by decide +kernel
theorem dX12_shows_46 : decode cX12_shows 46 = .ok (.invokevirtual 221, 3) := dk_1182 (dk_g tcX12_shows_3 10 rfl) (dk_g tcX12_shows_3 11 rfl) (dk_g tcX12_shows_4 0 rfl) rfl
theorem dX12_shows_49 : decode cX12_shows 49 = .ok (.invokevirtual 224, 3) := dk_1182 (dk_g tcX12_shows_4 1 rfl) (dk_g tcX12_shows_4 2 rfl) (dk_g tcX12_shows_4 3 rfl) rfl
theorem dX12_shows_52 : decode cX12_shows 52 = .ok (.goto 19, 3) := dk_2167 (dk_g tcX12_shows_4 4 rfl) (dk_g tcX12_shows_4 5 rfl) (dk_g tcX12_shows_4 6 rfl) rfl rfl
theorem dX12_shows_55 : decode cX12_shows 55 = .ok (.aload_n 0, 1) := dk_1042 (dk_g tcX12_shows_4 7 rfl)
theorem dX12_shows_56 : decode cX12_shows 56 = .ok (.iload_n 2, 1) := dk_1028 (dk_g tcX12_shows_4 8 rfl)
theorem dX12_shows_57 : decode cX12_shows 57 = .ok (.iload 4, 2) := dk_1021 (dk_g tcX12_shows_4 9 rfl) (dk_g tcX12_shows_4 10 rfl) rfl
theorem dX12_shows_59 : decode cX12_shows 59 = .ok (.aload_n 0, 1) := dk_1042 (dk_g tcX12_shows_4 11 rfl)
theorem tcX12_shows_5 : (cX12_shows.data.toList.drop 60).take 12 = [27, 4, 182, 0, 221, 29, 21, 5, 182, 0, 224, 54] := by decide +kernel
theorem dX12_shows_60 : decode cX12_shows 60 = .ok (.iload_n 1, 1) := dk_1027 (dk_g tcX12_shows_5 0 rfl)
theorem dX12_shows_61 : decode cX12_shows 61 = .ok (.iconst 1, 1) := dk_1004 (dk_g tcX12_shows_5 1 rfl)
theorem dX12_shows_62 : decode cX12_shows 62 = .ok (.invokevirtual 221, 3) := dk_1182 (dk_g tcX12_shows_5 2 rfl) (dk_g tcX12_shows_5 3 rfl) (dk_g tcX12_shows_5 4 rfl) rfl
theorem dX12_shows_65 : decode cX12_shows 65 = .ok (.iload_n 3, 1) := dk_1029 (dk_g tcX12_shows_5 5 rfl)
theorem dX12_shows_66 : decode cX12_shows 66 = .ok (.iload 5, 2) := dk_1021 (dk_g tcX12_shows_5 6 rfl) (dk_g tcX12_shows_5 7 rfl) rfl
theorem dX12_shows_68 : decode cX12_shows 68 = .ok (.invokevirtual 224, 3) := dk_1182 (dk_g tcX12_shows_5 8 rfl) (dk_g tcX12_shows_5 9 rfl) (dk_g tcX12_shows_5 10 rfl) rfl
theorem tcX12_shows_6 : (cX12_shows.data.toList.drop 72).take 12 = [6, 21, 6, 154, 0, 17, 29, 21, 4, 164, 0, 11] := by decide +kernel
theorem dX12_shows_71 : decode cX12_shows 71 = .ok (.istore 6, 2) := dk_1054 (dk_g tcX12_shows_5 11 rfl) (dk_g tcX12_shows_6 0 rfl) rfl
theorem dX12_shows_73 : decode cX12_shows 73 = .ok (.iload 6, 2) := dk_1021 (dk_g tcX12_shows_6 1 rfl) (dk_g tcX12_shows_6 2 rfl) rfl
theorem dX12_shows_75 : decode cX12_shows 75 = .ok (.ifCond .ne 17, 3) := dk_2154 (dk_g tcX12_shows_6 3 rfl) (dk_g tcX12_shows_6 4 rfl) (dk_g tcX12_shows_6 5 rfl) rfl rfl
theorem dX12_shows_78 : decode cX12_shows 78 = .ok (.iload_n 3, 1) := dk_1029 (dk_g tcX12_shows_6 6 rfl)
theorem dX12_shows_79 : decode cX12_shows 79 = .ok (.iload 4, 2) := dk_1021 (dk_g tcX12_shows_6 7 rfl) (dk_g tcX12_shows_6 8 rfl) rfl
theorem dX12_shows_81 : decode cX12_shows 81 = .ok (.if_icmp .le 11, 3) := dk_2164 (dk_g tcX12_shows_6 9 rfl) (dk_g tcX12_shows_6 10 rfl) (dk_g tcX12_shows_6 11 rfl) rfl rfl
theorem tcX12_shows_7 : (cX12_shows.data.toList.drop 84).take 12 = [42, 27, 29, 21, 5, 182, 0, 227, 21, 6, 158, 0] := by decide +kernel
theorem dX12_shows_84 : decode cX12_shows 84 = .ok (.aload_n 0, 1) := dk_1042 (dk_g tcX12_shows_7 0 rfl)
theorem dX12_shows_85 : decode cX12_shows 85 = .ok (.iload_n 1, 1) := dk_1027 (dk_g tcX12_shows_7 1 rfl)
theorem dX12_shows_86 : decode cX12_shows 86 = .ok (.iload_n 3, 1) := dk_1029 (dk_g tcX12_shows_7 2 rfl)
theorem dX12_shows_87 : decode cX12_shows 87 = .ok (.iload 5, 2) := dk_1021 (dk_g tcX12_shows_7 3 rfl) (dk_g tcX12_shows_7 4 rfl) rfl
theorem dX12_shows_89 : decode cX12_shows 89 = .ok (.invokevirtual 227, 3) := dk_1182 (dk_g tcX12_shows_7 5 rfl) (dk_g tcX12_shows_7 6 rfl) (dk_g tcX12_shows_7 7 rfl) rfl
theorem dX12_shows_92 : decode cX12_shows 92 = .ok (.iload 6, 2) := dk_1021 (dk_g tcX12_shows_7 8 rfl) (dk_g tcX12_shows_7 9 rfl) rfl
theorem tcX12_shows_8 : (cX12_shows.data.toList.drop 96).take 12 = [23, 21, 6, 8, 162, 0, 17, 42, 180, 0, 7, 16] := by decide +kernel
theorem dX12_shows_94 : decode cX12_shows 94 = .ok (.ifCond .le 23, 3) := dk_2158 (dk_g tcX12_shows_7 10 rfl) (dk_g tcX12_shows_7 11 rfl) (dk_g tcX12_shows_8 0 rfl) rfl rfl
theorem dX12_shows_97 : decode cX12_shows 97 = .ok (.iload 6, 2) := dk_1021 (dk_g tcX12_shows_8 1 rfl) (dk_g tcX12_shows_8 2 rfl) rfl
theorem dX12_shows_99 : decode cX12_shows 99 = .ok (.iconst 5, 1) := dk_1008 (dk_g tcX12_shows_8 3 rfl)
theorem dX12_shows_100 : decode cX12_shows 100 = .ok (.if_icmp .ge 17, 3) := dk_2162 (dk_g tcX12_shows_8 4 rfl) (dk_g tcX12_shows_8 5 rfl) (dk_g tcX12_shows_8 6 rfl) rfl rfl
theorem dX12_shows_103 : decode cX12_shows 103 = .ok (.aload_n 0, 1) := dk_1042 (dk_g tcX12_shows_8 7 rfl)
theorem dX12_shows_104 : decode cX12_shows 104 = .ok (.getfield 7, 3) := dk_1180 (dk_g tcX12_shows_8 8 rfl) (dk_g tcX12_shows_8 9 rfl) (dk_g tcX12_shows_8 10 rfl) rfl
theorem tcX12_shows_9 : (cX12_shows.data.toList.drop 108).take 12 = [76, 7, 27, 104, 96, 5, 96, 4, 79, 42, 180, 0] := by decide +kernel
theorem dX12_shows_107 : decode cX12_shows 107 = .ok (.bipush 76, 2) := dk_1016 (dk_g tcX12_shows_8 11 rfl) (dk_g tcX12_shows_9 0 rfl) (by decide +kernel)
theorem dX12_shows_109 : decode cX12_shows 109 = .ok (.iconst 4, 1) := dk_1007 (dk_g tcX12_shows_9 1 rfl)
theorem dX12_shows_110 : decode cX12_shows 110 = .ok (.iload_n 1, 1) := dk_1027 (dk_g tcX12_shows_9 2 rfl)
theorem dX12_shows_111 : decode cX12_shows 111 = .ok (.imul, 1) := dk_1104 (dk_g tcX12_shows_9 3 rfl)
theorem dX12_shows_112 : decode cX12_shows 112 = .ok (.iadd, 1) := dk_1096 (dk_g tcX12_shows_9 4 rfl)
theorem dX12_shows_113 : decode cX12_shows 113 = .ok (.iconst 2, 1) := dk_1005 (dk_g tcX12_shows_9 5 rfl)
theorem dX12_shows_114 : decode cX12_shows 114 = .ok (.iadd, 1) := dk_1096 (dk_g tcX12_shows_9 6 rfl)
theorem dX12_shows_115 : decode cX12_shows 115 = .ok (.iconst 1, 1) := dk_1004 (dk_g tcX12_shows_9 7 rfl)
theorem dX12_shows_116 : decode cX12_shows 116 = .ok (.iastore, 1) := dk_1079 (dk_g tcX12_shows_9 8 rfl)
theorem dX12_shows_117 : decode cX12_shows 117 = .ok (.aload_n 0, 1) := dk_1042 (dk_g tcX12_shows_9 9 rfl)
theorem tcX12_shows_10 : (cX12_shows.data.toList.drop 120).take 12 = [7, 16, 76, 7, 27, 104, 96, 6, 96, 92, 46, 4] := by decide +kernel
theorem dX12_shows_118 : decode cX12_shows 118 = .ok (.getfield 7, 3) := dk_1180 (dk_g tcX12_shows_9 10 rfl) (dk_g tcX12_shows_9 11 rfl) (dk_g tcX12_shows_10 0 rfl) rfl
theorem dX12_shows_121 : decode cX12_shows 121 = .ok (.bipush 76, 2) := dk_1016 (dk_g tcX12_shows_10 1 rfl) (dk_g tcX12_shows_10 2 rfl) (by decide +kernel)
theorem dX12_shows_123 : decode cX12_shows 123 = .ok (.iconst 4, 1) := dk_1007 (dk_g tcX12_shows_10 3 rfl)
theorem dX12_shows_124 : decode cX12_shows 124 = .ok (.iload_n 1, 1) := dk_1027 (dk_g tcX12_shows_10 4 rfl)
theorem dX12_shows_125 : decode cX12_shows 125 = .ok (.imul, 1) := dk_1104 (dk_g tcX12_shows_10 5 rfl)
theorem dX12_shows_126 : decode cX12_shows 126 = .ok (.iadd, 1) := dk_1096 (dk_g tcX12_shows_10 6 rfl)
theorem dX12_shows_127 : decode cX12_shows 127 = .ok (.iconst 3, 1) := dk_1006 (dk_g tcX12_shows_10 7 rfl)
theorem dX12_shows_128 : decode cX12_shows 128 = .ok (.iadd, 1) := dk_1096 (dk_g tcX12_shows_10 8 rfl)
theorem dX12_shows_129 : decode cX12_shows 129 = .ok (.dup2, 1) := dk_1092 (dk_g tcX12_shows_10 9 rfl)
theorem dX12_shows_130 : decode cX12_shows 130 = .ok (.iaload, 1) := dk_1046 (dk_g tcX12_shows_10 10 rfl)
theorem dX12_shows_131 : decode cX12_shows 131 = .ok (.iconst 1, 1) := dk_1004 (dk_g tcX12_shows_10 11 rfl)
theorem tcX12_shows_11 : (cX12_shows.data.toList.drop 132).take 12 = [96, 79, 42, 180, 0, 7, 7, 92, 46, 4, 96, 79] := by decide +kernel
theorem dX12_shows_132 : decode cX12_shows 132 = .ok (.iadd, 1) := dk_1096 (dk_g tcX12_shows_11 0 rfl)
theorem dX12_shows_133 : decode cX12_shows 133 = .ok (.iastore, 1) := dk_1079 (dk_g tcX12_shows_11 1 rfl)
theorem dX12_shows_134 : decode cX12_shows 134 = .ok (.aload_n 0, 1) := dk_1042 (dk_g tcX12_shows_11 2 rfl)
theorem dX12_shows_135 : decode cX12_shows 135 = .ok (.getfield 7, 3) := dk_1180 (dk_g tcX12_shows_11 3 rfl) (dk_g tcX12_shows_11 4 rfl) (dk_g tcX12_shows_11 5 rfl) rfl
theorem dX12_shows_138 : decode cX12_shows 138 = .ok (.iconst 4, 1) := dk_1007 (dk_g tcX12_shows_11 6 rfl)
theorem dX12_shows_139 : decode cX12_shows 139 = .ok (.dup2, 1) := dk_1092 (dk_g tcX12_shows_11 7 rfl)
theorem dX12_shows_140 : decode cX12_shows 140 = .ok (.iaload, 1) := dk_1046 (dk_g tcX12_shows_11 8 rfl)
theorem dX12_shows_141 : decode cX12_shows 141 = .ok (.iconst 1, 1) := dk_1004 (dk_g tcX12_shows_11 9 rfl)
theorem dX12_shows_142 : decode cX12_shows 142 = .ok (.iadd, 1) := dk_1096 (dk_g tcX12_shows_11 10 rfl)
theorem dX12_shows_143 : decode cX12_shows 143 = .ok (.iastore, 1) := dk_1079 (dk_g tcX12_shows_11 11 rfl)
theorem tcX12_shows_12 : (cX12_shows.data.toList.drop 144).take 12 = [21, 6, 172] := by decide +kernel
theorem dX12_shows_144 : decode cX12_shows 144 = .ok (.iload 6, 2) := dk_1021 (dk_g tcX12_shows_12 0 rfl) (dk_g tcX12_shows_12 1 rfl) rfl
theorem dX12_shows_146 : decode cX12_shows 146 = .ok (.ireturn, 1) := dk_1172 (dk_g tcX12_shows_12 2 rfl)
theorem tcX12_puts_0 : (cX12_puts.data.toList.drop 0).take 12 = [16, 24, 61, 28, 155, 0, 32, 42, 180, 0, 31, 42] := by decide +kernel
theorem dX12_puts_0 : decode cX12_puts 0 = .ok (.bipush 24, 2) := dk_1016 (dk_g tcX12_puts_0 0 rfl) (dk_g tcX12_puts_0 1 rfl) (by decide +kernel)
theorem dX12_puts_2 : decode cX12_puts 2 = .ok (.istore_n 2, 1) := dk_1061 (dk_g tcX12_puts_0 2 rfl)
theorem dX12_puts_3 : decode cX12_puts 3 = .ok (.iload_n 2, 1) := dk_1028 (dk_g tcX12_puts_0 3 rfl)
theorem dX12_puts_4 : decode cX12_puts 4 = .ok (.ifCond .lt 32, 3) := dk_2155 (dk_g tcX12_puts_0 4 rfl) (dk_g tcX12_puts_0 5 rfl) (dk_g tcX12_puts_0 6 rfl) rfl rfl
theorem dX12_puts_7 : decode cX12_puts 7 = .ok (.aload_n 0, 1) := dk_1042 (dk_g tcX12_puts_0 7 rfl)
theorem dX12_puts_8 : decode cX12_puts 8 = .ok (.getfield 31, 3) := dk_1180 (dk_g tcX12_puts_0 8 rfl) (dk_g tcX12_puts_0 9 rfl) (dk_g tcX12_puts_0 10 rfl) rfl
theorem dX12_puts_11 : decode cX12_puts 11 = .ok (.aload_n 0, 1) := dk_1042 (dk_g tcX12_puts_0 11 rfl)
theorem tcX12_puts_1 : (cX12_puts.data.toList.drop 12).take 12 = [180, 0, 230, 27, 28, 122, 145, 84, 42, 89, 180, 0] := by decide +kernel
theorem dX12_puts_12 : decode cX12_puts 12 = .ok (.getfield 230, 3) := dk_1180 (dk_g tcX12_puts_1 0 rfl) (dk_g tcX12_puts_1 1 rfl) (dk_g tcX12_puts_1 2 rfl) rfl
theorem dX12_puts_15 : decode cX12_puts 15 = .ok (.iload_n 1, 1) := dk_1027 (dk_g tcX12_puts_1 3 rfl)
theorem dX12_puts_16 : decode cX12_puts 16 = .ok (.iload_n 2, 1) := dk_1028 (dk_g tcX12_puts_1 4 rfl)
theorem dX12_puts_17 : decode cX12_puts 17 = .ok (.ishr, 1) := dk_1122 (dk_g tcX12_puts_1 5 rfl)
theorem dX12_puts_18 : decode cX12_puts 18 = .ok (.i2b, 1) := dk_1145 (dk_g tcX12_puts_1 6 rfl)
theorem dX12_puts_19 : decode cX12_puts 19 = .ok (.bastore, 1) := dk_1084 (dk_g tcX12_puts_1 7 rfl)
theorem dX12_puts_20 : decode cX12_puts 20 = .ok (.aload_n 0, 1) := dk_1042 (dk_g tcX12_puts_1 8 rfl)
theorem dX12_puts_21 : decode cX12_puts 21 = .ok (.dup, 1) := dk_1089 (dk_g tcX12_puts_1 9 rfl)
theorem tcX12_puts_2 : (cX12_puts.data.toList.drop 24).take 12 = [230, 4, 96, 181, 0, 230, 132, 2, 248, 167, 255, 226] := by decide +kernel
theorem dX12_puts_22 : decode cX12_puts 22 = .ok (.getfield 230, 3) := dk_1180 (dk_g tcX12_puts_1 10 rfl) (dk_g tcX12_puts_1 11 rfl) (dk_g tcX12_puts_2 0 rfl) rfl
theorem dX12_puts_25 : decode cX12_puts 25 = .ok (.iconst 1, 1) := dk_1004 (dk_g tcX12_puts_2 1 rfl)
theorem dX12_puts_26 : decode cX12_puts 26 = .ok (.iadd, 1) := dk_1096 (dk_g tcX12_puts_2 2 rfl)
theorem dX12_puts_27 : decode cX12_puts 27 = .ok (.putfield 230, 3) := dk_1181 (dk_g tcX12_puts_2 3 rfl) (dk_g tcX12_puts_2 4 rfl) (dk_g tcX12_puts_2 5 rfl) rfl
theorem dX12_puts_30 : decode cX12_puts 30 = .ok (.iinc 2 (-8), 3) := dk_1132 (dk_g tcX12_puts_2 6 rfl) (dk_g tcX12_puts_2 7 rfl) (dk_g tcX12_puts_2 8 rfl) rfl (by decide +kernel)
theorem dX12_puts_33 : decode cX12_puts 33 = .ok (.goto (-30), 3) := dk_1167 (dk_g tcX12_puts_2 9 rfl) (dk_g tcX12_puts_2 10 rfl) (dk_g tcX12_puts_2 11 rfl) (by decide +kernel)
theorem tcX12_puts_3 : (cX12_puts.data.toList.drop 36).take 12 = [177] := by decide +kernel
theorem dX12_puts_36 : decode cX12_puts 36 = .ok (.return_, 1) := dk_1177 (dk_g tcX12_puts_3 0 rfl)
theorem tcX12_feed_0 : (cX12_feed.data.toList.drop 0).take 12 = [42, 3, 181, 0, 106, 42, 180, 0, 230, 16, 20, 96] := by decide +kernel
theorem dX12_feed_0 : decode cX12_feed 0 = .ok (.aload_n 0, 1) := dk_1042 (dk_g tcX12_feed_0 0 rfl)
theorem dX12_feed_1 : decode cX12_feed 1 = .ok (.iconst 0, 1) := dk_1003 (dk_g tcX12_feed_0 1 rfl)
theorem dX12_feed_2 : decode cX12_feed 2 = .ok (.putfield 106, 3) := dk_1181 (dk_g tcX12_feed_0 2 rfl) (dk_g tcX12_feed_0 3 rfl) (dk_g tcX12_feed_0 4 rfl) rfl
theorem dX12_feed_5 : decode cX12_feed 5 = .ok (.aload_n 0, 1) := dk_1042 (dk_g tcX12_feed_0 5 rfl)
theorem dX12_feed_6 : decode cX12_feed 6 = .ok (.getfield 230, 3) := dk_1180 (dk_g tcX12_feed_0 6 rfl) (dk_g tcX12_feed_0 7 rfl) (dk_g tcX12_feed_0 8 rfl) rfl
theorem dX12_feed_9 : decode cX12_feed 9 = .ok (.bipush 20, 2) := dk_1016 (dk_g tcX12_feed_0 9 rfl) (dk_g tcX12_feed_0 10 rfl) (by decide +kernel)
theorem dX12_feed_11 : decode cX12_feed 11 = .ok (.iadd, 1) := dk_1096 (dk_g tcX12_feed_0 11 rfl)
theorem tcX12_feed_1 : (cX12_feed.data.toList.drop 12).take 12 = [17, 3, 132, 164, 0, 5, 2, 172, 42, 27, 182, 0] := by decide +kernel
theorem dX12_feed_12 : decode cX12_feed 12 = .ok (.sipush 900, 3) := dk_2017 (dk_g tcX12_feed_1 0 rfl) (dk_g tcX12_feed_1 1 rfl) (dk_g tcX12_feed_1 2 rfl) rfl rfl
theorem dX12_feed_15 : decode cX12_feed 15 = .ok (.if_icmp .le 5, 3) := dk_2164 (dk_g tcX12_feed_1 3 rfl) (dk_g tcX12_feed_1 4 rfl) (dk_g tcX12_feed_1 5 rfl) rfl rfl
theorem dX12_feed_18 : decode cX12_feed 18 = .ok (.iconst (-1), 1) := dk_1002 (dk_g tcX12_feed_1 6 rfl)
theorem dX12_feed_19 : decode cX12_feed 19 = .ok (.ireturn, 1) := dk_1172 (dk_g tcX12_feed_1 7 rfl)
theorem dX12_feed_20 : decode cX12_feed 20 = .ok (.aload_n 0, 1) := dk_1042 (dk_g tcX12_feed_1 8 rfl)
theorem dX12_feed_21 : decode cX12_feed 21 = .ok (.iload_n 1, 1) := dk_1027 (dk_g tcX12_feed_1 9 rfl)
theorem tcX12_feed_2 : (cX12_feed.data.toList.drop 24).take 12 = [233, 42, 28, 182, 0, 233, 42, 29, 182, 0, 233, 42] := by decide +kernel
theorem dX12_feed_22 : decode cX12_feed 22 = .ok (.invokevirtual 233, 3) := dk_1182 (dk_g tcX12_feed_1 10 rfl) (dk_g tcX12_feed_1 11 rfl) (dk_g tcX12_feed_2 0 rfl) rfl
theorem dX12_feed_25 : decode cX12_feed 25 = .ok (.aload_n 0, 1) := dk_1042 (dk_g tcX12_feed_2 1 rfl)
theorem dX12_feed_26 : decode cX12_feed 26 = .ok (.iload_n 2, 1) := dk_1028 (dk_g tcX12_feed_2 2 rfl)
theorem dX12_feed_27 : decode cX12_feed 27 = .ok (.invokevirtual 233, 3) := dk_1182 (dk_g tcX12_feed_2 3 rfl) (dk_g tcX12_feed_2 4 rfl) (dk_g tcX12_feed_2 5 rfl) rfl
theorem dX12_feed_30 : decode cX12_feed 30 = .ok (.aload_n 0, 1) := dk_1042 (dk_g tcX12_feed_2 6 rfl)
theorem dX12_feed_31 : decode cX12_feed 31 = .ok (.iload_n 3, 1) := dk_1029 (dk_g tcX12_feed_2 7 rfl)
theorem dX12_feed_32 : decode cX12_feed 32 = .ok (.invokevirtual 233, 3) := dk_1182 (dk_g tcX12_feed_2 8 rfl) (dk_g tcX12_feed_2 9 rfl) (dk_g tcX12_feed_2 10 rfl) rfl
theorem dX12_feed_35 : decode cX12_feed 35 = .ok (.aload_n 0, 1) := dk_1042 (dk_g tcX12_feed_2 11 rfl)
theorem tcX12_feed_3 : (cX12_feed.data.toList.drop 36).take 12 = [21, 4, 182, 0, 233, 42, 21, 5, 182, 0, 233, 42] := by decide +kernel
theorem dX12_feed_36 : decode cX12_feed 36 = .ok (.iload 4, 2) := dk_1021 (dk_g tcX12_feed_3 0 rfl) (dk_g tcX12_feed_3 1 rfl) rfl
theorem dX12_feed_38 : decode cX12_feed 38 = .ok (.invokevirtual 233, 3) := dk_1182 (dk_g tcX12_feed_3 2 rfl) (dk_g tcX12_feed_3 3 rfl) (dk_g tcX12_feed_3 4 rfl) rfl
theorem dX12_feed_41 : decode cX12_feed 41 = .ok (.aload_n 0, 1) := dk_1042 (dk_g tcX12_feed_3 5 rfl)
theorem dX12_feed_42 : decode cX12_feed 42 = .ok (.iload 5, 2) := dk_1021 (dk_g tcX12_feed_3 6 rfl) (dk_g tcX12_feed_3 7 rfl) rfl
theorem dX12_feed_44 : decode cX12_feed 44 = .ok (.invokevirtual 233, 3) := dk_1182 (dk_g tcX12_feed_3 8 rfl) (dk_g tcX12_feed_3 9 rfl) (dk_g tcX12_feed_3 10 rfl) rfl
theorem dX12_feed_47 : decode cX12_feed 47 = .ok (.aload_n 0, 1) := dk_1042 (dk_g tcX12_feed_3 11 rfl)
theorem tcX12_feed_4 : (cX12_feed.data.toList.drop 48).take 12 = [180, 0, 230, 172] := by decide +kernel
theorem dX12_feed_48 : decode cX12_feed 48 = .ok (.getfield 230, 3) := dk_1180 (dk_g tcX12_feed_4 0 rfl) (dk_g tcX12_feed_4 1 rfl) (dk_g tcX12_feed_4 2 rfl) rfl
theorem dX12_feed_51 : decode cX12_feed 51 = .ok (.ireturn, 1) := dk_1172 (dk_g tcX12_feed_4 3 rfl)
theorem tcX12_isOf_0 : (cX12_isOf.data.toList.drop 0).take 12 = [27, 42, 180, 0, 236, 162, 0, 21, 42, 180, 0, 31] := by decide +kernel
theorem dX12_isOf_0 : decode cX12_isOf 0 = .ok (.iload_n 1, 1) := dk_1027 (dk_g tcX12_isOf_0 0 rfl)
theorem dX12_isOf_1 : decode cX12_isOf 1 = .ok (.aload_n 0, 1) := dk_1042 (dk_g tcX12_isOf_0 1 rfl)
theorem dX12_isOf_2 : decode cX12_isOf 2 = .ok (.getfield 236, 3) := dk_1180 (dk_g tcX12_isOf_0 2 rfl) (dk_g tcX12_isOf_0 3 rfl) (dk_g tcX12_isOf_0 4 rfl) rfl
theorem dX12_isOf_5 : decode cX12_isOf 5 = .ok (.if_icmp .ge 21, 3) := dk_2162 (dk_g tcX12_isOf_0 5 rfl) (dk_g tcX12_isOf_0 6 rfl) (dk_g tcX12_isOf_0 7 rfl) rfl rfl
theorem dX12_isOf_8 : decode cX12_isOf 8 = .ok (.aload_n 0, 1) := dk_1042 (dk_g tcX12_isOf_0 8 rfl)
theorem dX12_isOf_9 : decode cX12_isOf 9 = .ok (.getfield 31, 3) := dk_1180 (dk_g tcX12_isOf_0 9 rfl) (dk_g tcX12_isOf_0 10 rfl) (dk_g tcX12_isOf_0 11 rfl) rfl
theorem tcX12_isOf_1 : (cX12_isOf.data.toList.drop 12).take 12 = [27, 51, 28, 29, 184, 0, 113, 153, 0, 7, 4, 167] := by decide +kernel
theorem dX12_isOf_12 : decode cX12_isOf 12 = .ok (.iload_n 1, 1) := dk_1027 (dk_g tcX12_isOf_1 0 rfl)
theorem dX12_isOf_13 : decode cX12_isOf 13 = .ok (.baload, 1) := dk_1051 (dk_g tcX12_isOf_1 1 rfl)
theorem dX12_isOf_14 : decode cX12_isOf 14 = .ok (.iload_n 2, 1) := dk_1028 (dk_g tcX12_isOf_1 2 rfl)
theorem dX12_isOf_15 : decode cX12_isOf 15 = .ok (.iload_n 3, 1) := dk_1029 (dk_g tcX12_isOf_1 3 rfl)
theorem dX12_isOf_16 : decode cX12_isOf 16 = .ok (.invokestatic 113, 3) := dk_1184 (dk_g tcX12_isOf_1 4 rfl) (dk_g tcX12_isOf_1 5 rfl) (dk_g tcX12_isOf_1 6 rfl) rfl
theorem dX12_isOf_19 : decode cX12_isOf 19 = .ok (.ifCond .eq 7, 3) := dk_2153 (dk_g tcX12_isOf_1 7 rfl) (dk_g tcX12_isOf_1 8 rfl) (dk_g tcX12_isOf_1 9 rfl) rfl rfl
theorem dX12_isOf_22 : decode cX12_isOf 22 = .ok (.iconst 1, 1) := dk_1004 (dk_g tcX12_isOf_1 10 rfl)
theorem tcX12_isOf_2 : (cX12_isOf.data.toList.drop 24).take 12 = [0, 4, 3, 172] := by decide +kernel
theorem dX12_isOf_23 : decode cX12_isOf 23 = .ok (.goto 4, 3) := dk_2167 (dk_g tcX12_isOf_1 11 rfl) (dk_g tcX12_isOf_2 0 rfl) (dk_g tcX12_isOf_2 1 rfl) rfl rfl
theorem dX12_isOf_26 : decode cX12_isOf 26 = .ok (.iconst 0, 1) := dk_1003 (dk_g tcX12_isOf_2 2 rfl)
theorem dX12_isOf_27 : decode cX12_isOf 27 = .ok (.ireturn, 1) := dk_1172 (dk_g tcX12_isOf_2 3 rfl)
theorem tcX12_reads_0 : (cX12_reads.data.toList.drop 0).take 12 = [42, 42, 180, 0, 239, 181, 0, 242, 42, 180, 0, 242] := by decide +kernel
theorem dX12_reads_0 : decode cX12_reads 0 = .ok (.aload_n 0, 1) := dk_1042 (dk_g tcX12_reads_0 0 rfl)
theorem dX12_reads_1 : decode cX12_reads 1 = .ok (.aload_n 0, 1) := dk_1042 (dk_g tcX12_reads_0 1 rfl)
theorem dX12_reads_2 : decode cX12_reads 2 = .ok (.getfield 239, 3) := dk_1180 (dk_g tcX12_reads_0 2 rfl) (dk_g tcX12_reads_0 3 rfl) (dk_g tcX12_reads_0 4 rfl) rfl
theorem dX12_reads_5 : decode cX12_reads 5 = .ok (.putfield 242, 3) := dk_1181 (dk_g tcX12_reads_0 5 rfl) (dk_g tcX12_reads_0 6 rfl) (dk_g tcX12_reads_0 7 rfl) rfl
theorem dX12_reads_8 : decode cX12_reads 8 = .ok (.aload_n 0, 1) := dk_1042 (dk_g tcX12_reads_0 8 rfl)
theorem dX12_reads_9 : decode cX12_reads 9 = .ok (.getfield 242, 3) := dk_1180 (dk_g tcX12_reads_0 9 rfl) (dk_g tcX12_reads_0 10 rfl) (dk_g tcX12_reads_0 11 rfl) rfl
theorem tcX12_reads_1 : (cX12_reads.data.toList.drop 12).take 12 = [42, 180, 0, 236, 162, 0, 44, 42, 180, 0, 31, 42] := by decide +kernel
theorem dX12_reads_12 : decode cX12_reads 12 = .ok (.aload_n 0, 1) := dk_1042 (dk_g tcX12_reads_1 0 rfl)
theorem dX12_reads_13 : decode cX12_reads 13 = .ok (.getfield 236, 3) := dk_1180 (dk_g tcX12_reads_1 1 rfl) (dk_g tcX12_reads_1 2 rfl) (dk_g tcX12_reads_1 3 rfl) rfl
theorem dX12_reads_16 : decode cX12_reads 16 = .ok (.if_icmp .ge 44, 3) := dk_2162 (dk_g tcX12_reads_1 4 rfl) (dk_g tcX12_reads_1 5 rfl) (dk_g tcX12_reads_1 6 rfl) rfl rfl
theorem dX12_reads_19 : decode cX12_reads 19 = .ok (.aload_n 0, 1) := dk_1042 (dk_g tcX12_reads_1 7 rfl)
theorem dX12_reads_20 : decode cX12_reads 20 = .ok (.getfield 31, 3) := dk_1180 (dk_g tcX12_reads_1 8 rfl) (dk_g tcX12_reads_1 9 rfl) (dk_g tcX12_reads_1 10 rfl) rfl
theorem dX12_reads_23 : decode cX12_reads 23 = .ok (.aload_n 0, 1) := dk_1042 (dk_g tcX12_reads_1 11 rfl)
theorem tcX12_reads_2 : (cX12_reads.data.toList.drop 24).take 12 = [180, 0, 242, 51, 16, 10, 159, 0, 17, 42, 180, 0] := by decide +kernel
theorem dX12_reads_24 : decode cX12_reads 24 = .ok (.getfield 242, 3) := dk_1180 (dk_g tcX12_reads_2 0 rfl) (dk_g tcX12_reads_2 1 rfl) (dk_g tcX12_reads_2 2 rfl) rfl
theorem dX12_reads_27 : decode cX12_reads 27 = .ok (.baload, 1) := dk_1051 (dk_g tcX12_reads_2 3 rfl)
theorem dX12_reads_28 : decode cX12_reads 28 = .ok (.bipush 10, 2) := dk_1016 (dk_g tcX12_reads_2 4 rfl) (dk_g tcX12_reads_2 5 rfl) (by decide +kernel)
theorem dX12_reads_30 : decode cX12_reads 30 = .ok (.if_icmp .eq 17, 3) := dk_2159 (dk_g tcX12_reads_2 6 rfl) (dk_g tcX12_reads_2 7 rfl) (dk_g tcX12_reads_2 8 rfl) rfl rfl
theorem dX12_reads_33 : decode cX12_reads 33 = .ok (.aload_n 0, 1) := dk_1042 (dk_g tcX12_reads_2 9 rfl)
theorem tcX12_reads_3 : (cX12_reads.data.toList.drop 36).take 12 = [31, 42, 180, 0, 242, 51, 16, 32, 160, 0, 16, 42] := by decide +kernel
theorem dX12_reads_34 : decode cX12_reads 34 = .ok (.getfield 31, 3) := dk_1180 (dk_g tcX12_reads_2 10 rfl) (dk_g tcX12_reads_2 11 rfl) (dk_g tcX12_reads_3 0 rfl) rfl
theorem dX12_reads_37 : decode cX12_reads 37 = .ok (.aload_n 0, 1) := dk_1042 (dk_g tcX12_reads_3 1 rfl)
theorem dX12_reads_38 : decode cX12_reads 38 = .ok (.getfield 242, 3) := dk_1180 (dk_g tcX12_reads_3 2 rfl) (dk_g tcX12_reads_3 3 rfl) (dk_g tcX12_reads_3 4 rfl) rfl
theorem dX12_reads_41 : decode cX12_reads 41 = .ok (.baload, 1) := dk_1051 (dk_g tcX12_reads_3 5 rfl)
theorem dX12_reads_42 : decode cX12_reads 42 = .ok (.bipush 32, 2) := dk_1016 (dk_g tcX12_reads_3 6 rfl) (dk_g tcX12_reads_3 7 rfl) (by decide +kernel)
theorem dX12_reads_44 : decode cX12_reads 44 = .ok (.if_icmp .ne 16, 3) := dk_2160 (dk_g tcX12_reads_3 8 rfl) (dk_g tcX12_reads_3 9 rfl) (dk_g tcX12_reads_3 10 rfl) rfl rfl
theorem dX12_reads_47 : decode cX12_reads 47 = .ok (.aload_n 0, 1) := dk_1042 (dk_g tcX12_reads_3 11 rfl)
theorem tcX12_reads_4 : (cX12_reads.data.toList.drop 48).take 12 = [89, 180, 0, 242, 4, 96, 181, 0, 242, 167, 255, 207] := by decide +kernel
theorem dX12_reads_48 : decode cX12_reads 48 = .ok (.dup, 1) := dk_1089 (dk_g tcX12_reads_4 0 rfl)
theorem dX12_reads_49 : decode cX12_reads 49 = .ok (.getfield 242, 3) := dk_1180 (dk_g tcX12_reads_4 1 rfl) (dk_g tcX12_reads_4 2 rfl) (dk_g tcX12_reads_4 3 rfl) rfl
theorem dX12_reads_52 : decode cX12_reads 52 = .ok (.iconst 1, 1) := dk_1004 (dk_g tcX12_reads_4 4 rfl)
theorem dX12_reads_53 : decode cX12_reads 53 = .ok (.iadd, 1) := dk_1096 (dk_g tcX12_reads_4 5 rfl)
theorem dX12_reads_54 : decode cX12_reads 54 = .ok (.putfield 242, 3) := dk_1181 (dk_g tcX12_reads_4 6 rfl) (dk_g tcX12_reads_4 7 rfl) (dk_g tcX12_reads_4 8 rfl) rfl
theorem dX12_reads_57 : decode cX12_reads 57 = .ok (.goto (-49), 3) := dk_1167 (dk_g tcX12_reads_4 9 rfl) (dk_g tcX12_reads_4 10 rfl) (dk_g tcX12_reads_4 11 rfl) (by decide +kernel)
theorem tcX12_reads_5 : (cX12_reads.data.toList.drop 60).take 12 = [42, 42, 180, 0, 242, 4, 96, 181, 0, 239, 42, 42] := by decide +kernel
theorem dX12_reads_60 : decode cX12_reads 60 = .ok (.aload_n 0, 1) := dk_1042 (dk_g tcX12_reads_5 0 rfl)
theorem dX12_reads_61 : decode cX12_reads 61 = .ok (.aload_n 0, 1) := dk_1042 (dk_g tcX12_reads_5 1 rfl)
theorem dX12_reads_62 : decode cX12_reads 62 = .ok (.getfield 242, 3) := dk_1180 (dk_g tcX12_reads_5 2 rfl) (dk_g tcX12_reads_5 3 rfl) (dk_g tcX12_reads_5 4 rfl) rfl
theorem dX12_reads_65 : decode cX12_reads 65 = .ok (.iconst 1, 1) := dk_1004 (dk_g tcX12_reads_5 5 rfl)
theorem dX12_reads_66 : decode cX12_reads 66 = .ok (.iadd, 1) := dk_1096 (dk_g tcX12_reads_5 6 rfl)
theorem dX12_reads_67 : decode cX12_reads 67 = .ok (.putfield 239, 3) := dk_1181 (dk_g tcX12_reads_5 7 rfl) (dk_g tcX12_reads_5 8 rfl) (dk_g tcX12_reads_5 9 rfl) rfl
theorem dX12_reads_70 : decode cX12_reads 70 = .ok (.aload_n 0, 1) := dk_1042 (dk_g tcX12_reads_5 10 rfl)
theorem dX12_reads_71 : decode cX12_reads 71 = .ok (.aload_n 0, 1) := dk_1042 (dk_g tcX12_reads_5 11 rfl)
theorem tcX12_reads_6 : (cX12_reads.data.toList.drop 72).take 12 = [180, 0, 242, 42, 180, 0, 236, 161, 0, 7, 3, 167] := by decide +kernel
theorem dX12_reads_72 : decode cX12_reads 72 = .ok (.getfield 242, 3) := dk_1180 (dk_g tcX12_reads_6 0 rfl) (dk_g tcX12_reads_6 1 rfl) (dk_g tcX12_reads_6 2 rfl) rfl
theorem dX12_reads_75 : decode cX12_reads 75 = .ok (.aload_n 0, 1) := dk_1042 (dk_g tcX12_reads_6 3 rfl)
theorem dX12_reads_76 : decode cX12_reads 76 = .ok (.getfield 236, 3) := dk_1180 (dk_g tcX12_reads_6 4 rfl) (dk_g tcX12_reads_6 5 rfl) (dk_g tcX12_reads_6 6 rfl) rfl
theorem dX12_reads_79 : decode cX12_reads 79 = .ok (.if_icmp .lt 7, 3) := dk_2161 (dk_g tcX12_reads_6 7 rfl) (dk_g tcX12_reads_6 8 rfl) (dk_g tcX12_reads_6 9 rfl) rfl rfl
theorem dX12_reads_82 : decode cX12_reads 82 = .ok (.iconst 0, 1) := dk_1003 (dk_g tcX12_reads_6 10 rfl)
theorem tcX12_reads_7 : (cX12_reads.data.toList.drop 84).take 12 = [0, 22, 42, 180, 0, 31, 42, 180, 0, 242, 51, 16] := by decide +kernel
theorem dX12_reads_83 : decode cX12_reads 83 = .ok (.goto 22, 3) := dk_2167 (dk_g tcX12_reads_6 11 rfl) (dk_g tcX12_reads_7 0 rfl) (dk_g tcX12_reads_7 1 rfl) rfl rfl
theorem dX12_reads_86 : decode cX12_reads 86 = .ok (.aload_n 0, 1) := dk_1042 (dk_g tcX12_reads_7 2 rfl)
theorem dX12_reads_87 : decode cX12_reads 87 = .ok (.getfield 31, 3) := dk_1180 (dk_g tcX12_reads_7 3 rfl) (dk_g tcX12_reads_7 4 rfl) (dk_g tcX12_reads_7 5 rfl) rfl
theorem dX12_reads_90 : decode cX12_reads 90 = .ok (.aload_n 0, 1) := dk_1042 (dk_g tcX12_reads_7 6 rfl)
theorem dX12_reads_91 : decode cX12_reads 91 = .ok (.getfield 242, 3) := dk_1180 (dk_g tcX12_reads_7 7 rfl) (dk_g tcX12_reads_7 8 rfl) (dk_g tcX12_reads_7 9 rfl) rfl
theorem dX12_reads_94 : decode cX12_reads 94 = .ok (.baload, 1) := dk_1051 (dk_g tcX12_reads_7 10 rfl)
theorem tcX12_reads_8 : (cX12_reads.data.toList.drop 96).take 12 = [59, 160, 0, 7, 6, 167, 0, 4, 7, 181, 0, 245] := by decide +kernel
theorem dX12_reads_95 : decode cX12_reads 95 = .ok (.bipush 59, 2) := dk_1016 (dk_g tcX12_reads_7 11 rfl) (dk_g tcX12_reads_8 0 rfl) (by decide +kernel)
theorem dX12_reads_97 : decode cX12_reads 97 = .ok (.if_icmp .ne 7, 3) := dk_2160 (dk_g tcX12_reads_8 1 rfl) (dk_g tcX12_reads_8 2 rfl) (dk_g tcX12_reads_8 3 rfl) rfl rfl
theorem dX12_reads_100 : decode cX12_reads 100 = .ok (.iconst 3, 1) := dk_1006 (dk_g tcX12_reads_8 4 rfl)
theorem dX12_reads_101 : decode cX12_reads 101 = .ok (.goto 4, 3) := dk_2167 (dk_g tcX12_reads_8 5 rfl) (dk_g tcX12_reads_8 6 rfl) (dk_g tcX12_reads_8 7 rfl) rfl rfl
theorem dX12_reads_104 : decode cX12_reads 104 = .ok (.iconst 4, 1) := dk_1007 (dk_g tcX12_reads_8 8 rfl)
theorem dX12_reads_105 : decode cX12_reads 105 = .ok (.putfield 245, 3) := dk_1181 (dk_g tcX12_reads_8 9 rfl) (dk_g tcX12_reads_8 10 rfl) (dk_g tcX12_reads_8 11 rfl) rfl
theorem tcX12_reads_9 : (cX12_reads.data.toList.drop 108).take 12 = [42, 42, 180, 0, 242, 16, 97, 16, 122, 182, 0, 248] := by decide +kernel
theorem dX12_reads_108 : decode cX12_reads 108 = .ok (.aload_n 0, 1) := dk_1042 (dk_g tcX12_reads_9 0 rfl)
theorem dX12_reads_109 : decode cX12_reads 109 = .ok (.aload_n 0, 1) := dk_1042 (dk_g tcX12_reads_9 1 rfl)
theorem dX12_reads_110 : decode cX12_reads 110 = .ok (.getfield 242, 3) := dk_1180 (dk_g tcX12_reads_9 2 rfl) (dk_g tcX12_reads_9 3 rfl) (dk_g tcX12_reads_9 4 rfl) rfl
theorem dX12_reads_113 : decode cX12_reads 113 = .ok (.bipush 97, 2) := dk_1016 (dk_g tcX12_reads_9 5 rfl) (dk_g tcX12_reads_9 6 rfl) (by decide +kernel)
theorem dX12_reads_115 : decode cX12_reads 115 = .ok (.bipush 122, 2) := dk_1016 (dk_g tcX12_reads_9 7 rfl) (dk_g tcX12_reads_9 8 rfl) (by decide +kernel)
theorem dX12_reads_117 : decode cX12_reads 117 = .ok (.invokevirtual 248, 3) := dk_1182 (dk_g tcX12_reads_9 9 rfl) (dk_g tcX12_reads_9 10 rfl) (dk_g tcX12_reads_9 11 rfl) rfl
theorem tcX12_reads_10 : (cX12_reads.data.toList.drop 120).take 12 = [153, 0, 97, 42, 4, 181, 0, 245, 42, 9, 181, 0] := by decide +kernel
theorem dX12_reads_120 : decode cX12_reads 120 = .ok (.ifCond .eq 97, 3) := dk_2153 (dk_g tcX12_reads_10 0 rfl) (dk_g tcX12_reads_10 1 rfl) (dk_g tcX12_reads_10 2 rfl) rfl rfl
theorem dX12_reads_123 : decode cX12_reads 123 = .ok (.aload_n 0, 1) := dk_1042 (dk_g tcX12_reads_10 3 rfl)
theorem dX12_reads_124 : decode cX12_reads 124 = .ok (.iconst 1, 1) := dk_1004 (dk_g tcX12_reads_10 4 rfl)
theorem dX12_reads_125 : decode cX12_reads 125 = .ok (.putfield 245, 3) := dk_1181 (dk_g tcX12_reads_10 5 rfl) (dk_g tcX12_reads_10 6 rfl) (dk_g tcX12_reads_10 7 rfl) rfl
theorem dX12_reads_128 : decode cX12_reads 128 = .ok (.aload_n 0, 1) := dk_1042 (dk_g tcX12_reads_10 8 rfl)
theorem dX12_reads_129 : decode cX12_reads 129 = .ok (.lconst 0, 1) := dk_1009 (dk_g tcX12_reads_10 9 rfl)
theorem tcX12_reads_11 : (cX12_reads.data.toList.drop 132).take 12 = [251, 42, 42, 180, 0, 242, 181, 0, 239, 42, 42, 180] := by decide +kernel
theorem dX12_reads_130 : decode cX12_reads 130 = .ok (.putfield 251, 3) := dk_1181 (dk_g tcX12_reads_10 10 rfl) (dk_g tcX12_reads_10 11 rfl) (dk_g tcX12_reads_11 0 rfl) rfl
theorem dX12_reads_133 : decode cX12_reads 133 = .ok (.aload_n 0, 1) := dk_1042 (dk_g tcX12_reads_11 1 rfl)
theorem dX12_reads_134 : decode cX12_reads 134 = .ok (.aload_n 0, 1) := dk_1042 (dk_g tcX12_reads_11 2 rfl)
theorem dX12_reads_135 : decode cX12_reads 135 = .ok (.getfield 242, 3) := dk_1180 (dk_g tcX12_reads_11 3 rfl) (dk_g tcX12_reads_11 4 rfl) (dk_g tcX12_reads_11 5 rfl) rfl
theorem dX12_reads_138 : decode cX12_reads 138 = .ok (.putfield 239, 3) := dk_1181 (dk_g tcX12_reads_11 6 rfl) (dk_g tcX12_reads_11 7 rfl) (dk_g tcX12_reads_11 8 rfl) rfl
theorem dX12_reads_141 : decode cX12_reads 141 = .ok (.aload_n 0, 1) := dk_1042 (dk_g tcX12_reads_11 9 rfl)
theorem dX12_reads_142 : decode cX12_reads 142 = .ok (.aload_n 0, 1) := dk_1042 (dk_g tcX12_reads_11 10 rfl)
theorem tcX12_reads_12 : (cX12_reads.data.toList.drop 144).take 12 = [0, 239, 16, 97, 16, 122, 182, 0, 248, 153, 0, 186] := by decide +kernel
theorem dX12_reads_143 : decode cX12_reads 143 = .ok (.getfield 239, 3) := dk_1180 (dk_g tcX12_reads_11 11 rfl) (dk_g tcX12_reads_12 0 rfl) (dk_g tcX12_reads_12 1 rfl) rfl
theorem dX12_reads_146 : decode cX12_reads 146 = .ok (.bipush 97, 2) := dk_1016 (dk_g tcX12_reads_12 2 rfl) (dk_g tcX12_reads_12 3 rfl) (by decide +kernel)
theorem dX12_reads_148 : decode cX12_reads 148 = .ok (.bipush 122, 2) := dk_1016 (dk_g tcX12_reads_12 4 rfl) (dk_g tcX12_reads_12 5 rfl) (by decide +kernel)
theorem dX12_reads_150 : decode cX12_reads 150 = .ok (.invokevirtual 248, 3) := dk_1182 (dk_g tcX12_reads_12 6 rfl) (dk_g tcX12_reads_12 7 rfl) (dk_g tcX12_reads_12 8 rfl) rfl
theorem dX12_reads_153 : decode cX12_reads 153 = .ok (.ifCond .eq 186, 3) := dk_2153 (dk_g tcX12_reads_12 9 rfl) (dk_g tcX12_reads_12 10 rfl) (dk_g tcX12_reads_12 11 rfl) rfl rfl
theorem tcX12_reads_13 : (cX12_reads.data.toList.drop 156).take 12 = [42, 42, 180, 0, 239, 42, 180, 0, 242, 100, 16, 8] := by decide +kernel
theorem dX12_reads_156 : decode cX12_reads 156 = .ok (.aload_n 0, 1) := dk_1042 (dk_g tcX12_reads_13 0 rfl)
theorem dX12_reads_157 : decode cX12_reads 157 = .ok (.aload_n 0, 1) := dk_1042 (dk_g tcX12_reads_13 1 rfl)
theorem dX12_reads_158 : decode cX12_reads 158 = .ok (.getfield 239, 3) := dk_1180 (dk_g tcX12_reads_13 2 rfl) (dk_g tcX12_reads_13 3 rfl) (dk_g tcX12_reads_13 4 rfl) rfl
theorem dX12_reads_161 : decode cX12_reads 161 = .ok (.aload_n 0, 1) := dk_1042 (dk_g tcX12_reads_13 5 rfl)
theorem dX12_reads_162 : decode cX12_reads 162 = .ok (.getfield 242, 3) := dk_1180 (dk_g tcX12_reads_13 6 rfl) (dk_g tcX12_reads_13 7 rfl) (dk_g tcX12_reads_13 8 rfl) rfl
theorem dX12_reads_165 : decode cX12_reads 165 = .ok (.isub, 1) := dk_1100 (dk_g tcX12_reads_13 9 rfl)
theorem dX12_reads_166 : decode cX12_reads 166 = .ok (.bipush 8, 2) := dk_1016 (dk_g tcX12_reads_13 10 rfl) (dk_g tcX12_reads_13 11 rfl) (by decide +kernel)
theorem tcX12_reads_14 : (cX12_reads.data.toList.drop 168).take 12 = [162, 0, 29, 20, 0, 255, 42, 180, 0, 251, 105, 42] := by decide +kernel
theorem dX12_reads_168 : decode cX12_reads 168 = .ok (.if_icmp .ge 29, 3) := dk_2162 (dk_g tcX12_reads_14 0 rfl) (dk_g tcX12_reads_14 1 rfl) (dk_g tcX12_reads_14 2 rfl) rfl rfl
theorem dX12_reads_171 : decode cX12_reads 171 = .ok (.ldc2_w 255, 3) := dk_1020 (dk_g tcX12_reads_14 3 rfl) (dk_g tcX12_reads_14 4 rfl) (dk_g tcX12_reads_14 5 rfl) rfl
theorem dX12_reads_174 : decode cX12_reads 174 = .ok (.aload_n 0, 1) := dk_1042 (dk_g tcX12_reads_14 6 rfl)
theorem dX12_reads_175 : decode cX12_reads 175 = .ok (.getfield 251, 3) := dk_1180 (dk_g tcX12_reads_14 7 rfl) (dk_g tcX12_reads_14 8 rfl) (dk_g tcX12_reads_14 9 rfl) rfl
theorem dX12_reads_178 : decode cX12_reads 178 = .ok (.lmul, 1) := dk_1105 (dk_g tcX12_reads_14 10 rfl)
theorem dX12_reads_179 : decode cX12_reads 179 = .ok (.aload_n 0, 1) := dk_1042 (dk_g tcX12_reads_14 11 rfl)
theorem tcX12_reads_15 : (cX12_reads.data.toList.drop 180).take 12 = [180, 0, 31, 42, 180, 0, 239, 51, 133, 97, 20, 1] := by decide +kernel
theorem dX12_reads_180 : decode cX12_reads 180 = .ok (.getfield 31, 3) := dk_1180 (dk_g tcX12_reads_15 0 rfl) (dk_g tcX12_reads_15 1 rfl) (dk_g tcX12_reads_15 2 rfl) rfl
theorem dX12_reads_183 : decode cX12_reads 183 = .ok (.aload_n 0, 1) := dk_1042 (dk_g tcX12_reads_15 3 rfl)
theorem dX12_reads_184 : decode cX12_reads 184 = .ok (.getfield 239, 3) := dk_1180 (dk_g tcX12_reads_15 4 rfl) (dk_g tcX12_reads_15 5 rfl) (dk_g tcX12_reads_15 6 rfl) rfl
theorem dX12_reads_187 : decode cX12_reads 187 = .ok (.baload, 1) := dk_1051 (dk_g tcX12_reads_15 7 rfl)
theorem dX12_reads_188 : decode cX12_reads 188 = .ok (.i2l, 1) := dk_1133 (dk_g tcX12_reads_15 8 rfl)
theorem dX12_reads_189 : decode cX12_reads 189 = .ok (.ladd, 1) := dk_1097 (dk_g tcX12_reads_15 9 rfl)
set_option maxRecDepth 100000 in
noncomputable def tzcX12_reads_1 : { l : List UInt8 // List.drop 192 (cX12_reads.data.toList) = l } := by
  constructor
  conv => lhs; whnf
theorem tycX12_reads_1 : cX12_reads.data.toList.drop 192 = tzcX12_reads_1.1 := tzcX12_reads_1.2
theorem tcX12_reads_16 : (cX12_reads.data.toList.drop 192).take 12 = [1, 101, 167, 0, 7, 42, 180, 0, 251, 181, 0, 251] := dk_h tycX12_reads_1 0 (by decide +kernel)
theorem dX12_reads_190 : decode cX12_reads 190 = .ok (.ldc2_w 257, 3) := dk_1020 (dk_g tcX12_reads_15 10 rfl) (dk_g tcX12_reads_15 11 rfl) (dk_g tcX12_reads_16 0 rfl) rfl
theorem dX12_reads_193 : decode cX12_reads 193 = .ok (.lsub, 1) := dk_1101 (dk_g tcX12_reads_16 1 rfl)
theorem dX12_reads_194 : decode cX12_reads 194 = .ok (.goto 7, 3) := dk_2167 (dk_g tcX12_reads_16 2 rfl) (dk_g tcX12_reads_16 3 rfl) (dk_g tcX12_reads_16 4 rfl) rfl rfl
theorem dX12_reads_197 : decode cX12_reads 197 = .ok (.aload_n 0, 1) := dk_1042 (dk_g tcX12_reads_16 5 rfl)
theorem dX12_reads_198 : decode cX12_reads 198 = .ok (.getfield 251, 3) := dk_1180 (dk_g tcX12_reads_16 6 rfl) (dk_g tcX12_reads_16 7 rfl) (dk_g tcX12_reads_16 8 rfl) rfl
theorem dX12_reads_201 : decode cX12_reads 201 = .ok (.putfield 251, 3) := dk_1181 (dk_g tcX12_reads_16 9 rfl) (dk_g tcX12_reads_16 10 rfl) (dk_g tcX12_reads_16 11 rfl) rfl
theorem tcX12_reads_17 : (cX12_reads.data.toList.drop 204).take 12 = [42, 89, 180, 0, 239, 4, 96, 181, 0, 239, 167, 255] := dk_h tycX12_reads_1 12 (by decide +kernel)
theorem dX12_reads_204 : decode cX12_reads 204 = .ok (.aload_n 0, 1) := dk_1042 (dk_g tcX12_reads_17 0 rfl)
theorem dX12_reads_205 : decode cX12_reads 205 = .ok (.dup, 1) := dk_1089 (dk_g tcX12_reads_17 1 rfl)
theorem dX12_reads_206 : decode cX12_reads 206 = .ok (.getfield 239, 3) := dk_1180 (dk_g tcX12_reads_17 2 rfl) (dk_g tcX12_reads_17 3 rfl) (dk_g tcX12_reads_17 4 rfl) rfl
theorem dX12_reads_209 : decode cX12_reads 209 = .ok (.iconst 1, 1) := dk_1004 (dk_g tcX12_reads_17 5 rfl)
theorem dX12_reads_210 : decode cX12_reads 210 = .ok (.iadd, 1) := dk_1096 (dk_g tcX12_reads_17 6 rfl)
theorem dX12_reads_211 : decode cX12_reads 211 = .ok (.putfield 239, 3) := dk_1181 (dk_g tcX12_reads_17 7 rfl) (dk_g tcX12_reads_17 8 rfl) (dk_g tcX12_reads_17 9 rfl) rfl
theorem tcX12_reads_18 : (cX12_reads.data.toList.drop 216).take 12 = [183, 42, 42, 180, 0, 242, 16, 48, 16, 57, 182, 0] := dk_h tycX12_reads_1 24 (by decide +kernel)
theorem dX12_reads_214 : decode cX12_reads 214 = .ok (.goto (-73), 3) := dk_1167 (dk_g tcX12_reads_17 10 rfl) (dk_g tcX12_reads_17 11 rfl) (dk_g tcX12_reads_18 0 rfl) (by decide +kernel)
theorem dX12_reads_217 : decode cX12_reads 217 = .ok (.aload_n 0, 1) := dk_1042 (dk_g tcX12_reads_18 1 rfl)
theorem dX12_reads_218 : decode cX12_reads 218 = .ok (.aload_n 0, 1) := dk_1042 (dk_g tcX12_reads_18 2 rfl)
theorem dX12_reads_219 : decode cX12_reads 219 = .ok (.getfield 242, 3) := dk_1180 (dk_g tcX12_reads_18 3 rfl) (dk_g tcX12_reads_18 4 rfl) (dk_g tcX12_reads_18 5 rfl) rfl
theorem dX12_reads_222 : decode cX12_reads 222 = .ok (.bipush 48, 2) := dk_1016 (dk_g tcX12_reads_18 6 rfl) (dk_g tcX12_reads_18 7 rfl) (by decide +kernel)
theorem dX12_reads_224 : decode cX12_reads 224 = .ok (.bipush 57, 2) := dk_1016 (dk_g tcX12_reads_18 8 rfl) (dk_g tcX12_reads_18 9 rfl) (by decide +kernel)
theorem tcX12_reads_19 : (cX12_reads.data.toList.drop 228).take 12 = [248, 153, 0, 110, 42, 3, 181, 1, 3, 42, 42, 180] := dk_h tycX12_reads_1 36 (by decide +kernel)
theorem dX12_reads_226 : decode cX12_reads 226 = .ok (.invokevirtual 248, 3) := dk_1182 (dk_g tcX12_reads_18 10 rfl) (dk_g tcX12_reads_18 11 rfl) (dk_g tcX12_reads_19 0 rfl) rfl
theorem dX12_reads_229 : decode cX12_reads 229 = .ok (.ifCond .eq 110, 3) := dk_2153 (dk_g tcX12_reads_19 1 rfl) (dk_g tcX12_reads_19 2 rfl) (dk_g tcX12_reads_19 3 rfl) rfl rfl
theorem dX12_reads_232 : decode cX12_reads 232 = .ok (.aload_n 0, 1) := dk_1042 (dk_g tcX12_reads_19 4 rfl)
theorem dX12_reads_233 : decode cX12_reads 233 = .ok (.iconst 0, 1) := dk_1003 (dk_g tcX12_reads_19 5 rfl)
theorem dX12_reads_234 : decode cX12_reads 234 = .ok (.putfield 259, 3) := dk_1181 (dk_g tcX12_reads_19 6 rfl) (dk_g tcX12_reads_19 7 rfl) (dk_g tcX12_reads_19 8 rfl) rfl
theorem dX12_reads_237 : decode cX12_reads 237 = .ok (.aload_n 0, 1) := dk_1042 (dk_g tcX12_reads_19 9 rfl)
theorem dX12_reads_238 : decode cX12_reads 238 = .ok (.aload_n 0, 1) := dk_1042 (dk_g tcX12_reads_19 10 rfl)
theorem tcX12_reads_20 : (cX12_reads.data.toList.drop 240).take 12 = [0, 242, 181, 0, 239, 42, 42, 180, 0, 239, 16, 48] := dk_h tycX12_reads_1 48 (by decide +kernel)
theorem dX12_reads_239 : decode cX12_reads 239 = .ok (.getfield 242, 3) := dk_1180 (dk_g tcX12_reads_19 11 rfl) (dk_g tcX12_reads_20 0 rfl) (dk_g tcX12_reads_20 1 rfl) rfl
theorem dX12_reads_242 : decode cX12_reads 242 = .ok (.putfield 239, 3) := dk_1181 (dk_g tcX12_reads_20 2 rfl) (dk_g tcX12_reads_20 3 rfl) (dk_g tcX12_reads_20 4 rfl) rfl
theorem dX12_reads_245 : decode cX12_reads 245 = .ok (.aload_n 0, 1) := dk_1042 (dk_g tcX12_reads_20 5 rfl)
theorem dX12_reads_246 : decode cX12_reads 246 = .ok (.aload_n 0, 1) := dk_1042 (dk_g tcX12_reads_20 6 rfl)
theorem dX12_reads_247 : decode cX12_reads 247 = .ok (.getfield 239, 3) := dk_1180 (dk_g tcX12_reads_20 7 rfl) (dk_g tcX12_reads_20 8 rfl) (dk_g tcX12_reads_20 9 rfl) rfl
theorem dX12_reads_250 : decode cX12_reads 250 = .ok (.bipush 48, 2) := dk_1016 (dk_g tcX12_reads_20 10 rfl) (dk_g tcX12_reads_20 11 rfl) (by decide +kernel)
theorem tcX12_reads_21 : (cX12_reads.data.toList.drop 252).take 12 = [16, 57, 182, 0, 248, 153, 0, 60, 42, 42, 180, 0] := dk_h tycX12_reads_1 60 (by decide +kernel)
theorem dX12_reads_252 : decode cX12_reads 252 = .ok (.bipush 57, 2) := dk_1016 (dk_g tcX12_reads_21 0 rfl) (dk_g tcX12_reads_21 1 rfl) (by decide +kernel)
theorem dX12_reads_254 : decode cX12_reads 254 = .ok (.invokevirtual 248, 3) := dk_1182 (dk_g tcX12_reads_21 2 rfl) (dk_g tcX12_reads_21 3 rfl) (dk_g tcX12_reads_21 4 rfl) rfl
theorem dX12_reads_257 : decode cX12_reads 257 = .ok (.ifCond .eq 60, 3) := dk_2153 (dk_g tcX12_reads_21 5 rfl) (dk_g tcX12_reads_21 6 rfl) (dk_g tcX12_reads_21 7 rfl) rfl rfl
theorem dX12_reads_260 : decode cX12_reads 260 = .ok (.aload_n 0, 1) := dk_1042 (dk_g tcX12_reads_21 8 rfl)
theorem dX12_reads_261 : decode cX12_reads 261 = .ok (.aload_n 0, 1) := dk_1042 (dk_g tcX12_reads_21 9 rfl)
theorem tcX12_reads_22 : (cX12_reads.data.toList.drop 264).take 12 = [239, 42, 180, 0, 242, 100, 8, 162, 0, 26, 16, 10] := dk_h tycX12_reads_1 72 (by decide +kernel)
theorem dX12_reads_262 : decode cX12_reads 262 = .ok (.getfield 239, 3) := dk_1180 (dk_g tcX12_reads_21 10 rfl) (dk_g tcX12_reads_21 11 rfl) (dk_g tcX12_reads_22 0 rfl) rfl
theorem dX12_reads_265 : decode cX12_reads 265 = .ok (.aload_n 0, 1) := dk_1042 (dk_g tcX12_reads_22 1 rfl)
theorem dX12_reads_266 : decode cX12_reads 266 = .ok (.getfield 242, 3) := dk_1180 (dk_g tcX12_reads_22 2 rfl) (dk_g tcX12_reads_22 3 rfl) (dk_g tcX12_reads_22 4 rfl) rfl
theorem dX12_reads_269 : decode cX12_reads 269 = .ok (.isub, 1) := dk_1100 (dk_g tcX12_reads_22 5 rfl)
theorem dX12_reads_270 : decode cX12_reads 270 = .ok (.iconst 5, 1) := dk_1008 (dk_g tcX12_reads_22 6 rfl)
theorem dX12_reads_271 : decode cX12_reads 271 = .ok (.if_icmp .ge 26, 3) := dk_2162 (dk_g tcX12_reads_22 7 rfl) (dk_g tcX12_reads_22 8 rfl) (dk_g tcX12_reads_22 9 rfl) rfl rfl
theorem dX12_reads_274 : decode cX12_reads 274 = .ok (.bipush 10, 2) := dk_1016 (dk_g tcX12_reads_22 10 rfl) (dk_g tcX12_reads_22 11 rfl) (by decide +kernel)
theorem tcX12_reads_23 : (cX12_reads.data.toList.drop 276).take 12 = [42, 180, 1, 3, 104, 42, 180, 0, 31, 42, 180, 0] := dk_h tycX12_reads_1 84 (by decide +kernel)
theorem dX12_reads_276 : decode cX12_reads 276 = .ok (.aload_n 0, 1) := dk_1042 (dk_g tcX12_reads_23 0 rfl)
theorem dX12_reads_277 : decode cX12_reads 277 = .ok (.getfield 259, 3) := dk_1180 (dk_g tcX12_reads_23 1 rfl) (dk_g tcX12_reads_23 2 rfl) (dk_g tcX12_reads_23 3 rfl) rfl
theorem dX12_reads_280 : decode cX12_reads 280 = .ok (.imul, 1) := dk_1104 (dk_g tcX12_reads_23 4 rfl)
theorem dX12_reads_281 : decode cX12_reads 281 = .ok (.aload_n 0, 1) := dk_1042 (dk_g tcX12_reads_23 5 rfl)
theorem dX12_reads_282 : decode cX12_reads 282 = .ok (.getfield 31, 3) := dk_1180 (dk_g tcX12_reads_23 6 rfl) (dk_g tcX12_reads_23 7 rfl) (dk_g tcX12_reads_23 8 rfl) rfl
theorem dX12_reads_285 : decode cX12_reads 285 = .ok (.aload_n 0, 1) := dk_1042 (dk_g tcX12_reads_23 9 rfl)
theorem tcX12_reads_24 : (cX12_reads.data.toList.drop 288).take 12 = [239, 51, 96, 16, 48, 100, 167, 0, 7, 42, 180, 1] := dk_h tycX12_reads_1 96 (by decide +kernel)
theorem dX12_reads_286 : decode cX12_reads 286 = .ok (.getfield 239, 3) := dk_1180 (dk_g tcX12_reads_23 10 rfl) (dk_g tcX12_reads_23 11 rfl) (dk_g tcX12_reads_24 0 rfl) rfl
theorem dX12_reads_289 : decode cX12_reads 289 = .ok (.baload, 1) := dk_1051 (dk_g tcX12_reads_24 1 rfl)
theorem dX12_reads_290 : decode cX12_reads 290 = .ok (.iadd, 1) := dk_1096 (dk_g tcX12_reads_24 2 rfl)
theorem dX12_reads_291 : decode cX12_reads 291 = .ok (.bipush 48, 2) := dk_1016 (dk_g tcX12_reads_24 3 rfl) (dk_g tcX12_reads_24 4 rfl) (by decide +kernel)
theorem dX12_reads_293 : decode cX12_reads 293 = .ok (.isub, 1) := dk_1100 (dk_g tcX12_reads_24 5 rfl)
theorem dX12_reads_294 : decode cX12_reads 294 = .ok (.goto 7, 3) := dk_2167 (dk_g tcX12_reads_24 6 rfl) (dk_g tcX12_reads_24 7 rfl) (dk_g tcX12_reads_24 8 rfl) rfl rfl
theorem dX12_reads_297 : decode cX12_reads 297 = .ok (.aload_n 0, 1) := dk_1042 (dk_g tcX12_reads_24 9 rfl)
theorem tcX12_reads_25 : (cX12_reads.data.toList.drop 300).take 12 = [3, 181, 1, 3, 42, 89, 180, 0, 239, 4, 96, 181] := dk_h tycX12_reads_1 108 (by decide +kernel)
theorem dX12_reads_298 : decode cX12_reads 298 = .ok (.getfield 259, 3) := dk_1180 (dk_g tcX12_reads_24 10 rfl) (dk_g tcX12_reads_24 11 rfl) (dk_g tcX12_reads_25 0 rfl) rfl
theorem dX12_reads_301 : decode cX12_reads 301 = .ok (.putfield 259, 3) := dk_1181 (dk_g tcX12_reads_25 1 rfl) (dk_g tcX12_reads_25 2 rfl) (dk_g tcX12_reads_25 3 rfl) rfl
theorem dX12_reads_304 : decode cX12_reads 304 = .ok (.aload_n 0, 1) := dk_1042 (dk_g tcX12_reads_25 4 rfl)
theorem dX12_reads_305 : decode cX12_reads 305 = .ok (.dup, 1) := dk_1089 (dk_g tcX12_reads_25 5 rfl)
theorem dX12_reads_306 : decode cX12_reads 306 = .ok (.getfield 239, 3) := dk_1180 (dk_g tcX12_reads_25 6 rfl) (dk_g tcX12_reads_25 7 rfl) (dk_g tcX12_reads_25 8 rfl) rfl
theorem dX12_reads_309 : decode cX12_reads 309 = .ok (.iconst 1, 1) := dk_1004 (dk_g tcX12_reads_25 9 rfl)
theorem dX12_reads_310 : decode cX12_reads 310 = .ok (.iadd, 1) := dk_1096 (dk_g tcX12_reads_25 10 rfl)
theorem tcX12_reads_26 : (cX12_reads.data.toList.drop 312).take 12 = [0, 239, 167, 255, 187, 42, 42, 180, 0, 239, 42, 180] := dk_h tycX12_reads_1 120 (by decide +kernel)
theorem dX12_reads_311 : decode cX12_reads 311 = .ok (.putfield 239, 3) := dk_1181 (dk_g tcX12_reads_25 11 rfl) (dk_g tcX12_reads_26 0 rfl) (dk_g tcX12_reads_26 1 rfl) rfl
theorem dX12_reads_314 : decode cX12_reads 314 = .ok (.goto (-69), 3) := dk_1167 (dk_g tcX12_reads_26 2 rfl) (dk_g tcX12_reads_26 3 rfl) (dk_g tcX12_reads_26 4 rfl) (by decide +kernel)
theorem dX12_reads_317 : decode cX12_reads 317 = .ok (.aload_n 0, 1) := dk_1042 (dk_g tcX12_reads_26 5 rfl)
theorem dX12_reads_318 : decode cX12_reads 318 = .ok (.aload_n 0, 1) := dk_1042 (dk_g tcX12_reads_26 6 rfl)
theorem dX12_reads_319 : decode cX12_reads 319 = .ok (.getfield 239, 3) := dk_1180 (dk_g tcX12_reads_26 7 rfl) (dk_g tcX12_reads_26 8 rfl) (dk_g tcX12_reads_26 9 rfl) rfl
theorem dX12_reads_322 : decode cX12_reads 322 = .ok (.aload_n 0, 1) := dk_1042 (dk_g tcX12_reads_26 10 rfl)
theorem tcX12_reads_27 : (cX12_reads.data.toList.drop 324).take 12 = [0, 242, 100, 8, 164, 0, 7, 7, 167, 0, 4, 5] := dk_h tycX12_reads_1 132 (by decide +kernel)
theorem dX12_reads_323 : decode cX12_reads 323 = .ok (.getfield 242, 3) := dk_1180 (dk_g tcX12_reads_26 11 rfl) (dk_g tcX12_reads_27 0 rfl) (dk_g tcX12_reads_27 1 rfl) rfl
theorem dX12_reads_326 : decode cX12_reads 326 = .ok (.isub, 1) := dk_1100 (dk_g tcX12_reads_27 2 rfl)
theorem dX12_reads_327 : decode cX12_reads 327 = .ok (.iconst 5, 1) := dk_1008 (dk_g tcX12_reads_27 3 rfl)
theorem dX12_reads_328 : decode cX12_reads 328 = .ok (.if_icmp .le 7, 3) := dk_2164 (dk_g tcX12_reads_27 4 rfl) (dk_g tcX12_reads_27 5 rfl) (dk_g tcX12_reads_27 6 rfl) rfl rfl
theorem dX12_reads_331 : decode cX12_reads 331 = .ok (.iconst 4, 1) := dk_1007 (dk_g tcX12_reads_27 7 rfl)
theorem dX12_reads_332 : decode cX12_reads 332 = .ok (.goto 4, 3) := dk_2167 (dk_g tcX12_reads_27 8 rfl) (dk_g tcX12_reads_27 9 rfl) (dk_g tcX12_reads_27 10 rfl) rfl rfl
theorem dX12_reads_335 : decode cX12_reads 335 = .ok (.iconst 2, 1) := dk_1005 (dk_g tcX12_reads_27 11 rfl)
theorem tcX12_reads_28 : (cX12_reads.data.toList.drop 336).take 12 = [181, 0, 245, 177] := dk_h tycX12_reads_1 144 (by decide +kernel)
theorem dX12_reads_336 : decode cX12_reads 336 = .ok (.putfield 245, 3) := dk_1181 (dk_g tcX12_reads_28 0 rfl) (dk_g tcX12_reads_28 1 rfl) (dk_g tcX12_reads_28 2 rfl) rfl
theorem dX12_reads_339 : decode cX12_reads 339 = .ok (.return_, 1) := dk_1177 (dk_g tcX12_reads_28 3 rfl)
theorem tcX12_must_0 : (cX12_must.data.toList.drop 0).take 12 = [27, 154, 0, 10, 42, 180, 1, 6, 158, 0, 4, 177] := by decide +kernel
theorem dX12_must_0 : decode cX12_must 0 = .ok (.iload_n 1, 1) := dk_1027 (dk_g tcX12_must_0 0 rfl)
theorem dX12_must_1 : decode cX12_must 1 = .ok (.ifCond .ne 10, 3) := dk_2154 (dk_g tcX12_must_0 1 rfl) (dk_g tcX12_must_0 2 rfl) (dk_g tcX12_must_0 3 rfl) rfl rfl
theorem dX12_must_4 : decode cX12_must 4 = .ok (.aload_n 0, 1) := dk_1042 (dk_g tcX12_must_0 4 rfl)
theorem dX12_must_5 : decode cX12_must 5 = .ok (.getfield 262, 3) := dk_1180 (dk_g tcX12_must_0 5 rfl) (dk_g tcX12_must_0 6 rfl) (dk_g tcX12_must_0 7 rfl) rfl
theorem dX12_must_8 : decode cX12_must 8 = .ok (.ifCond .le 4, 3) := dk_2158 (dk_g tcX12_must_0 8 rfl) (dk_g tcX12_must_0 9 rfl) (dk_g tcX12_must_0 10 rfl) rfl rfl
theorem dX12_must_11 : decode cX12_must 11 = .ok (.return_, 1) := dk_1177 (dk_g tcX12_must_0 11 rfl)
theorem tcX12_must_1 : (cX12_must.data.toList.drop 12).take 12 = [42, 28, 5, 160, 0, 15, 42, 180, 0, 245, 7, 160] := by decide +kernel
theorem dX12_must_12 : decode cX12_must 12 = .ok (.aload_n 0, 1) := dk_1042 (dk_g tcX12_must_1 0 rfl)
theorem dX12_must_13 : decode cX12_must 13 = .ok (.iload_n 2, 1) := dk_1028 (dk_g tcX12_must_1 1 rfl)
theorem dX12_must_14 : decode cX12_must 14 = .ok (.iconst 2, 1) := dk_1005 (dk_g tcX12_must_1 2 rfl)
theorem dX12_must_15 : decode cX12_must 15 = .ok (.if_icmp .ne 15, 3) := dk_2160 (dk_g tcX12_must_1 3 rfl) (dk_g tcX12_must_1 4 rfl) (dk_g tcX12_must_1 5 rfl) rfl rfl
theorem dX12_must_18 : decode cX12_must 18 = .ok (.aload_n 0, 1) := dk_1042 (dk_g tcX12_must_1 6 rfl)
theorem dX12_must_19 : decode cX12_must 19 = .ok (.getfield 245, 3) := dk_1180 (dk_g tcX12_must_1 7 rfl) (dk_g tcX12_must_1 8 rfl) (dk_g tcX12_must_1 9 rfl) rfl
theorem dX12_must_22 : decode cX12_must 22 = .ok (.iconst 4, 1) := dk_1007 (dk_g tcX12_must_1 10 rfl)
theorem tcX12_must_2 : (cX12_must.data.toList.drop 24).take 12 = [0, 7, 4, 167, 0, 4, 28, 181, 1, 6, 42, 42] := by decide +kernel
theorem dX12_must_23 : decode cX12_must 23 = .ok (.if_icmp .ne 7, 3) := dk_2160 (dk_g tcX12_must_1 11 rfl) (dk_g tcX12_must_2 0 rfl) (dk_g tcX12_must_2 1 rfl) rfl rfl
theorem dX12_must_26 : decode cX12_must 26 = .ok (.iconst 1, 1) := dk_1004 (dk_g tcX12_must_2 2 rfl)
theorem dX12_must_27 : decode cX12_must 27 = .ok (.goto 4, 3) := dk_2167 (dk_g tcX12_must_2 3 rfl) (dk_g tcX12_must_2 4 rfl) (dk_g tcX12_must_2 5 rfl) rfl rfl
theorem dX12_must_30 : decode cX12_must 30 = .ok (.iload_n 2, 1) := dk_1028 (dk_g tcX12_must_2 6 rfl)
theorem dX12_must_31 : decode cX12_must 31 = .ok (.putfield 262, 3) := dk_1181 (dk_g tcX12_must_2 7 rfl) (dk_g tcX12_must_2 8 rfl) (dk_g tcX12_must_2 9 rfl) rfl
theorem dX12_must_34 : decode cX12_must 34 = .ok (.aload_n 0, 1) := dk_1042 (dk_g tcX12_must_2 10 rfl)
theorem dX12_must_35 : decode cX12_must 35 = .ok (.aload_n 0, 1) := dk_1042 (dk_g tcX12_must_2 11 rfl)
theorem tcX12_must_3 : (cX12_must.data.toList.drop 36).take 12 = [180, 0, 242, 181, 1, 9, 177] := by decide +kernel
theorem dX12_must_36 : decode cX12_must 36 = .ok (.getfield 242, 3) := dk_1180 (dk_g tcX12_must_3 0 rfl) (dk_g tcX12_must_3 1 rfl) (dk_g tcX12_must_3 2 rfl) rfl
theorem dX12_must_39 : decode cX12_must 39 = .ok (.putfield 265, 3) := dk_1181 (dk_g tcX12_must_3 3 rfl) (dk_g tcX12_must_3 4 rfl) (dk_g tcX12_must_3 5 rfl) rfl
theorem dX12_must_42 : decode cX12_must 42 = .ok (.return_, 1) := dk_1177 (dk_g tcX12_must_3 6 rfl)
theorem tcX12_isWord_0 : (cX12_isWord.data.toList.drop 0).take 12 = [42, 180, 1, 6, 154, 0, 43, 42, 180, 0, 245, 4] := by decide +kernel
theorem dX12_isWord_0 : decode cX12_isWord 0 = .ok (.aload_n 0, 1) := dk_1042 (dk_g tcX12_isWord_0 0 rfl)
theorem dX12_isWord_1 : decode cX12_isWord 1 = .ok (.getfield 262, 3) := dk_1180 (dk_g tcX12_isWord_0 1 rfl) (dk_g tcX12_isWord_0 2 rfl) (dk_g tcX12_isWord_0 3 rfl) rfl
theorem dX12_isWord_4 : decode cX12_isWord 4 = .ok (.ifCond .ne 43, 3) := dk_2154 (dk_g tcX12_isWord_0 4 rfl) (dk_g tcX12_isWord_0 5 rfl) (dk_g tcX12_isWord_0 6 rfl) rfl rfl
theorem dX12_isWord_7 : decode cX12_isWord 7 = .ok (.aload_n 0, 1) := dk_1042 (dk_g tcX12_isWord_0 7 rfl)
theorem dX12_isWord_8 : decode cX12_isWord 8 = .ok (.getfield 245, 3) := dk_1180 (dk_g tcX12_isWord_0 8 rfl) (dk_g tcX12_isWord_0 9 rfl) (dk_g tcX12_isWord_0 10 rfl) rfl
theorem dX12_isWord_11 : decode cX12_isWord 11 = .ok (.iconst 1, 1) := dk_1004 (dk_g tcX12_isWord_0 11 rfl)
theorem tcX12_isWord_1 : (cX12_isWord.data.toList.drop 12).take 12 = [160, 0, 35, 42, 180, 0, 251, 42, 180, 0, 66, 27] := by decide +kernel
theorem dX12_isWord_12 : decode cX12_isWord 12 = .ok (.if_icmp .ne 35, 3) := dk_2160 (dk_g tcX12_isWord_1 0 rfl) (dk_g tcX12_isWord_1 1 rfl) (dk_g tcX12_isWord_1 2 rfl) rfl rfl
theorem dX12_isWord_15 : decode cX12_isWord 15 = .ok (.aload_n 0, 1) := dk_1042 (dk_g tcX12_isWord_1 3 rfl)
theorem dX12_isWord_16 : decode cX12_isWord 16 = .ok (.getfield 251, 3) := dk_1180 (dk_g tcX12_isWord_1 4 rfl) (dk_g tcX12_isWord_1 5 rfl) (dk_g tcX12_isWord_1 6 rfl) rfl
theorem dX12_isWord_19 : decode cX12_isWord 19 = .ok (.aload_n 0, 1) := dk_1042 (dk_g tcX12_isWord_1 7 rfl)
theorem dX12_isWord_20 : decode cX12_isWord 20 = .ok (.getfield 66, 3) := dk_1180 (dk_g tcX12_isWord_1 8 rfl) (dk_g tcX12_isWord_1 9 rfl) (dk_g tcX12_isWord_1 10 rfl) rfl
theorem dX12_isWord_23 : decode cX12_isWord 23 = .ok (.iload_n 1, 1) := dk_1027 (dk_g tcX12_isWord_1 11 rfl)
theorem tcX12_isWord_2 : (cX12_isWord.data.toList.drop 24).take 12 = [47, 148, 154, 0, 21, 42, 180, 0, 239, 42, 180, 0] := by decide +kernel
theorem dX12_isWord_24 : decode cX12_isWord 24 = .ok (.laload, 1) := dk_1047 (dk_g tcX12_isWord_2 0 rfl)
theorem dX12_isWord_25 : decode cX12_isWord 25 = .ok (.lcmp, 1) := dk_1148 (dk_g tcX12_isWord_2 1 rfl)
theorem dX12_isWord_26 : decode cX12_isWord 26 = .ok (.ifCond .ne 21, 3) := dk_2154 (dk_g tcX12_isWord_2 2 rfl) (dk_g tcX12_isWord_2 3 rfl) (dk_g tcX12_isWord_2 4 rfl) rfl rfl
theorem dX12_isWord_29 : decode cX12_isWord 29 = .ok (.aload_n 0, 1) := dk_1042 (dk_g tcX12_isWord_2 5 rfl)
theorem dX12_isWord_30 : decode cX12_isWord 30 = .ok (.getfield 239, 3) := dk_1180 (dk_g tcX12_isWord_2 6 rfl) (dk_g tcX12_isWord_2 7 rfl) (dk_g tcX12_isWord_2 8 rfl) rfl
theorem dX12_isWord_33 : decode cX12_isWord 33 = .ok (.aload_n 0, 1) := dk_1042 (dk_g tcX12_isWord_2 9 rfl)
theorem tcX12_isWord_3 : (cX12_isWord.data.toList.drop 36).take 12 = [242, 100, 16, 8, 163, 0, 7, 4, 167, 0, 4, 3] := by decide +kernel
theorem dX12_isWord_34 : decode cX12_isWord 34 = .ok (.getfield 242, 3) := dk_1180 (dk_g tcX12_isWord_2 10 rfl) (dk_g tcX12_isWord_2 11 rfl) (dk_g tcX12_isWord_3 0 rfl) rfl
theorem dX12_isWord_37 : decode cX12_isWord 37 = .ok (.isub, 1) := dk_1100 (dk_g tcX12_isWord_3 1 rfl)
theorem dX12_isWord_38 : decode cX12_isWord 38 = .ok (.bipush 8, 2) := dk_1016 (dk_g tcX12_isWord_3 2 rfl) (dk_g tcX12_isWord_3 3 rfl) (by decide +kernel)
theorem dX12_isWord_40 : decode cX12_isWord 40 = .ok (.if_icmp .gt 7, 3) := dk_2163 (dk_g tcX12_isWord_3 4 rfl) (dk_g tcX12_isWord_3 5 rfl) (dk_g tcX12_isWord_3 6 rfl) rfl rfl
theorem dX12_isWord_43 : decode cX12_isWord 43 = .ok (.iconst 1, 1) := dk_1004 (dk_g tcX12_isWord_3 7 rfl)
theorem dX12_isWord_44 : decode cX12_isWord 44 = .ok (.goto 4, 3) := dk_2167 (dk_g tcX12_isWord_3 8 rfl) (dk_g tcX12_isWord_3 9 rfl) (dk_g tcX12_isWord_3 10 rfl) rfl rfl
theorem dX12_isWord_47 : decode cX12_isWord 47 = .ok (.iconst 0, 1) := dk_1003 (dk_g tcX12_isWord_3 11 rfl)
theorem tcX12_isWord_4 : (cX12_isWord.data.toList.drop 48).take 12 = [172] := by decide +kernel
theorem dX12_isWord_48 : decode cX12_isWord 48 = .ok (.ireturn, 1) := dk_1172 (dk_g tcX12_isWord_4 0 rfl)
theorem tcX12_takes_0 : (cX12_takes.data.toList.drop 0).take 12 = [42, 42, 27, 182, 1, 12, 5, 182, 1, 16, 42, 180] := by decide +kernel
theorem dX12_takes_0 : decode cX12_takes 0 = .ok (.aload_n 0, 1) := dk_1042 (dk_g tcX12_takes_0 0 rfl)
theorem dX12_takes_1 : decode cX12_takes 1 = .ok (.aload_n 0, 1) := dk_1042 (dk_g tcX12_takes_0 1 rfl)
theorem dX12_takes_2 : decode cX12_takes 2 = .ok (.iload_n 1, 1) := dk_1027 (dk_g tcX12_takes_0 2 rfl)
theorem dX12_takes_3 : decode cX12_takes 3 = .ok (.invokevirtual 268, 3) := dk_1182 (dk_g tcX12_takes_0 3 rfl) (dk_g tcX12_takes_0 4 rfl) (dk_g tcX12_takes_0 5 rfl) rfl
theorem dX12_takes_6 : decode cX12_takes 6 = .ok (.iconst 2, 1) := dk_1005 (dk_g tcX12_takes_0 6 rfl)
theorem dX12_takes_7 : decode cX12_takes 7 = .ok (.invokevirtual 272, 3) := dk_1182 (dk_g tcX12_takes_0 7 rfl) (dk_g tcX12_takes_0 8 rfl) (dk_g tcX12_takes_0 9 rfl) rfl
theorem dX12_takes_10 : decode cX12_takes 10 = .ok (.aload_n 0, 1) := dk_1042 (dk_g tcX12_takes_0 10 rfl)
theorem tcX12_takes_1 : (cX12_takes.data.toList.drop 12).take 12 = [1, 6, 154, 0, 7, 42, 182, 1, 20, 177] := by decide +kernel
theorem dX12_takes_11 : decode cX12_takes 11 = .ok (.getfield 262, 3) := dk_1180 (dk_g tcX12_takes_0 11 rfl) (dk_g tcX12_takes_1 0 rfl) (dk_g tcX12_takes_1 1 rfl) rfl
theorem dX12_takes_14 : decode cX12_takes 14 = .ok (.ifCond .ne 7, 3) := dk_2154 (dk_g tcX12_takes_1 2 rfl) (dk_g tcX12_takes_1 3 rfl) (dk_g tcX12_takes_1 4 rfl) rfl rfl
theorem dX12_takes_17 : decode cX12_takes 17 = .ok (.aload_n 0, 1) := dk_1042 (dk_g tcX12_takes_1 5 rfl)
theorem dX12_takes_18 : decode cX12_takes 18 = .ok (.invokevirtual 276, 3) := dk_1182 (dk_g tcX12_takes_1 6 rfl) (dk_g tcX12_takes_1 7 rfl) (dk_g tcX12_takes_1 8 rfl) rfl
theorem dX12_takes_21 : decode cX12_takes 21 = .ok (.return_, 1) := dk_1177 (dk_g tcX12_takes_1 9 rfl)
theorem tcX12_takesEnd_0 : (cX12_takesEnd.data.toList.drop 0).take 12 = [42, 42, 180, 0, 245, 6, 160, 0, 7, 4, 167, 0] := by decide +kernel
theorem dX12_takesEnd_0 : decode cX12_takesEnd 0 = .ok (.aload_n 0, 1) := dk_1042 (dk_g tcX12_takesEnd_0 0 rfl)
theorem dX12_takesEnd_1 : decode cX12_takesEnd 1 = .ok (.aload_n 0, 1) := dk_1042 (dk_g tcX12_takesEnd_0 1 rfl)
theorem dX12_takesEnd_2 : decode cX12_takesEnd 2 = .ok (.getfield 245, 3) := dk_1180 (dk_g tcX12_takesEnd_0 2 rfl) (dk_g tcX12_takesEnd_0 3 rfl) (dk_g tcX12_takesEnd_0 4 rfl) rfl
theorem dX12_takesEnd_5 : decode cX12_takesEnd 5 = .ok (.iconst 3, 1) := dk_1006 (dk_g tcX12_takesEnd_0 5 rfl)
theorem dX12_takesEnd_6 : decode cX12_takesEnd 6 = .ok (.if_icmp .ne 7, 3) := dk_2160 (dk_g tcX12_takesEnd_0 6 rfl) (dk_g tcX12_takesEnd_0 7 rfl) (dk_g tcX12_takesEnd_0 8 rfl) rfl rfl
theorem dX12_takesEnd_9 : decode cX12_takesEnd 9 = .ok (.iconst 1, 1) := dk_1004 (dk_g tcX12_takesEnd_0 9 rfl)
theorem tcX12_takesEnd_1 : (cX12_takesEnd.data.toList.drop 12).take 12 = [4, 3, 5, 182, 1, 16, 42, 180, 1, 6, 154, 0] := by decide +kernel
theorem dX12_takesEnd_10 : decode cX12_takesEnd 10 = .ok (.goto 4, 3) := dk_2167 (dk_g tcX12_takesEnd_0 10 rfl) (dk_g tcX12_takesEnd_0 11 rfl) (dk_g tcX12_takesEnd_1 0 rfl) rfl rfl
theorem dX12_takesEnd_13 : decode cX12_takesEnd 13 = .ok (.iconst 0, 1) := dk_1003 (dk_g tcX12_takesEnd_1 1 rfl)
theorem dX12_takesEnd_14 : decode cX12_takesEnd 14 = .ok (.iconst 2, 1) := dk_1005 (dk_g tcX12_takesEnd_1 2 rfl)
theorem dX12_takesEnd_15 : decode cX12_takesEnd 15 = .ok (.invokevirtual 272, 3) := dk_1182 (dk_g tcX12_takesEnd_1 3 rfl) (dk_g tcX12_takesEnd_1 4 rfl) (dk_g tcX12_takesEnd_1 5 rfl) rfl
theorem dX12_takesEnd_18 : decode cX12_takesEnd 18 = .ok (.aload_n 0, 1) := dk_1042 (dk_g tcX12_takesEnd_1 6 rfl)
theorem dX12_takesEnd_19 : decode cX12_takesEnd 19 = .ok (.getfield 262, 3) := dk_1180 (dk_g tcX12_takesEnd_1 7 rfl) (dk_g tcX12_takesEnd_1 8 rfl) (dk_g tcX12_takesEnd_1 9 rfl) rfl
theorem tcX12_takesEnd_2 : (cX12_takesEnd.data.toList.drop 24).take 12 = [7, 42, 182, 1, 20, 177] := by decide +kernel
theorem dX12_takesEnd_22 : decode cX12_takesEnd 22 = .ok (.ifCond .ne 7, 3) := dk_2154 (dk_g tcX12_takesEnd_1 10 rfl) (dk_g tcX12_takesEnd_1 11 rfl) (dk_g tcX12_takesEnd_2 0 rfl) rfl rfl
theorem dX12_takesEnd_25 : decode cX12_takesEnd 25 = .ok (.aload_n 0, 1) := dk_1042 (dk_g tcX12_takesEnd_2 1 rfl)
theorem dX12_takesEnd_26 : decode cX12_takesEnd 26 = .ok (.invokevirtual 276, 3) := dk_1182 (dk_g tcX12_takesEnd_2 2 rfl) (dk_g tcX12_takesEnd_2 3 rfl) (dk_g tcX12_takesEnd_2 4 rfl) rfl
theorem dX12_takesEnd_29 : decode cX12_takesEnd 29 = .ok (.return_, 1) := dk_1177 (dk_g tcX12_takesEnd_2 5 rfl)
theorem tcX12_takesNumber_0 : (cX12_takesNumber.data.toList.drop 0).take 12 = [42, 42, 180, 0, 245, 5, 160, 0, 7, 4, 167, 0] := by decide +kernel
theorem dX12_takesNumber_0 : decode cX12_takesNumber 0 = .ok (.aload_n 0, 1) := dk_1042 (dk_g tcX12_takesNumber_0 0 rfl)
theorem dX12_takesNumber_1 : decode cX12_takesNumber 1 = .ok (.aload_n 0, 1) := dk_1042 (dk_g tcX12_takesNumber_0 1 rfl)
theorem dX12_takesNumber_2 : decode cX12_takesNumber 2 = .ok (.getfield 245, 3) := dk_1180 (dk_g tcX12_takesNumber_0 2 rfl) (dk_g tcX12_takesNumber_0 3 rfl) (dk_g tcX12_takesNumber_0 4 rfl) rfl
theorem dX12_takesNumber_5 : decode cX12_takesNumber 5 = .ok (.iconst 2, 1) := dk_1005 (dk_g tcX12_takesNumber_0 5 rfl)
theorem dX12_takesNumber_6 : decode cX12_takesNumber 6 = .ok (.if_icmp .ne 7, 3) := dk_2160 (dk_g tcX12_takesNumber_0 6 rfl) (dk_g tcX12_takesNumber_0 7 rfl) (dk_g tcX12_takesNumber_0 8 rfl) rfl rfl
theorem dX12_takesNumber_9 : decode cX12_takesNumber 9 = .ok (.iconst 1, 1) := dk_1004 (dk_g tcX12_takesNumber_0 9 rfl)
theorem tcX12_takesNumber_1 : (cX12_takesNumber.data.toList.drop 12).take 12 = [4, 3, 5, 182, 1, 16, 42, 42, 180, 1, 3, 27] := by decide +kernel
theorem dX12_takesNumber_10 : decode cX12_takesNumber 10 = .ok (.goto 4, 3) := dk_2167 (dk_g tcX12_takesNumber_0 10 rfl) (dk_g tcX12_takesNumber_0 11 rfl) (dk_g tcX12_takesNumber_1 0 rfl) rfl rfl
theorem dX12_takesNumber_13 : decode cX12_takesNumber 13 = .ok (.iconst 0, 1) := dk_1003 (dk_g tcX12_takesNumber_1 1 rfl)
theorem dX12_takesNumber_14 : decode cX12_takesNumber 14 = .ok (.iconst 2, 1) := dk_1005 (dk_g tcX12_takesNumber_1 2 rfl)
theorem dX12_takesNumber_15 : decode cX12_takesNumber 15 = .ok (.invokevirtual 272, 3) := dk_1182 (dk_g tcX12_takesNumber_1 3 rfl) (dk_g tcX12_takesNumber_1 4 rfl) (dk_g tcX12_takesNumber_1 5 rfl) rfl
theorem dX12_takesNumber_18 : decode cX12_takesNumber 18 = .ok (.aload_n 0, 1) := dk_1042 (dk_g tcX12_takesNumber_1 6 rfl)
theorem dX12_takesNumber_19 : decode cX12_takesNumber 19 = .ok (.aload_n 0, 1) := dk_1042 (dk_g tcX12_takesNumber_1 7 rfl)
theorem dX12_takesNumber_20 : decode cX12_takesNumber 20 = .ok (.getfield 259, 3) := dk_1180 (dk_g tcX12_takesNumber_1 8 rfl) (dk_g tcX12_takesNumber_1 9 rfl) (dk_g tcX12_takesNumber_1 10 rfl) rfl
theorem dX12_takesNumber_23 : decode cX12_takesNumber 23 = .ok (.iload_n 1, 1) := dk_1027 (dk_g tcX12_takesNumber_1 11 rfl)
theorem tcX12_takesNumber_2 : (cX12_takesNumber.data.toList.drop 24).take 12 = [28, 184, 0, 113, 6, 182, 1, 16, 42, 180, 1, 3] := by decide +kernel
theorem dX12_takesNumber_24 : decode cX12_takesNumber 24 = .ok (.iload_n 2, 1) := dk_1028 (dk_g tcX12_takesNumber_2 0 rfl)
theorem dX12_takesNumber_25 : decode cX12_takesNumber 25 = .ok (.invokestatic 113, 3) := dk_1184 (dk_g tcX12_takesNumber_2 1 rfl) (dk_g tcX12_takesNumber_2 2 rfl) (dk_g tcX12_takesNumber_2 3 rfl) rfl
theorem dX12_takesNumber_28 : decode cX12_takesNumber 28 = .ok (.iconst 3, 1) := dk_1006 (dk_g tcX12_takesNumber_2 4 rfl)
theorem dX12_takesNumber_29 : decode cX12_takesNumber 29 = .ok (.invokevirtual 272, 3) := dk_1182 (dk_g tcX12_takesNumber_2 5 rfl) (dk_g tcX12_takesNumber_2 6 rfl) (dk_g tcX12_takesNumber_2 7 rfl) rfl
theorem dX12_takesNumber_32 : decode cX12_takesNumber 32 = .ok (.aload_n 0, 1) := dk_1042 (dk_g tcX12_takesNumber_2 8 rfl)
theorem dX12_takesNumber_33 : decode cX12_takesNumber 33 = .ok (.getfield 259, 3) := dk_1180 (dk_g tcX12_takesNumber_2 9 rfl) (dk_g tcX12_takesNumber_2 10 rfl) (dk_g tcX12_takesNumber_2 11 rfl) rfl
theorem tcX12_takesNumber_3 : (cX12_takesNumber.data.toList.drop 36).take 12 = [62, 42, 180, 1, 6, 154, 0, 7, 42, 182, 1, 20] := by decide +kernel
theorem dX12_takesNumber_36 : decode cX12_takesNumber 36 = .ok (.istore_n 3, 1) := dk_1062 (dk_g tcX12_takesNumber_3 0 rfl)
theorem dX12_takesNumber_37 : decode cX12_takesNumber 37 = .ok (.aload_n 0, 1) := dk_1042 (dk_g tcX12_takesNumber_3 1 rfl)
theorem dX12_takesNumber_38 : decode cX12_takesNumber 38 = .ok (.getfield 262, 3) := dk_1180 (dk_g tcX12_takesNumber_3 2 rfl) (dk_g tcX12_takesNumber_3 3 rfl) (dk_g tcX12_takesNumber_3 4 rfl) rfl
theorem dX12_takesNumber_41 : decode cX12_takesNumber 41 = .ok (.ifCond .ne 7, 3) := dk_2154 (dk_g tcX12_takesNumber_3 5 rfl) (dk_g tcX12_takesNumber_3 6 rfl) (dk_g tcX12_takesNumber_3 7 rfl) rfl rfl
theorem dX12_takesNumber_44 : decode cX12_takesNumber 44 = .ok (.aload_n 0, 1) := dk_1042 (dk_g tcX12_takesNumber_3 8 rfl)
theorem dX12_takesNumber_45 : decode cX12_takesNumber 45 = .ok (.invokevirtual 276, 3) := dk_1182 (dk_g tcX12_takesNumber_3 9 rfl) (dk_g tcX12_takesNumber_3 10 rfl) (dk_g tcX12_takesNumber_3 11 rfl) rfl
theorem tcX12_takesNumber_4 : (cX12_takesNumber.data.toList.drop 48).take 12 = [29, 172] := by decide +kernel
theorem dX12_takesNumber_48 : decode cX12_takesNumber 48 = .ok (.iload_n 3, 1) := dk_1029 (dk_g tcX12_takesNumber_4 0 rfl)
theorem dX12_takesNumber_49 : decode cX12_takesNumber 49 = .ok (.ireturn, 1) := dk_1172 (dk_g tcX12_takesNumber_4 1 rfl)
theorem tcX12_takesMark_0 : (cX12_takesMark.data.toList.drop 0).take 12 = [42, 3, 42, 180, 0, 7, 4, 46, 4, 100, 182, 1] := by decide +kernel
theorem dX12_takesMark_0 : decode cX12_takesMark 0 = .ok (.aload_n 0, 1) := dk_1042 (dk_g tcX12_takesMark_0 0 rfl)
theorem dX12_takesMark_1 : decode cX12_takesMark 1 = .ok (.iconst 0, 1) := dk_1003 (dk_g tcX12_takesMark_0 1 rfl)
theorem dX12_takesMark_2 : decode cX12_takesMark 2 = .ok (.aload_n 0, 1) := dk_1042 (dk_g tcX12_takesMark_0 2 rfl)
theorem dX12_takesMark_3 : decode cX12_takesMark 3 = .ok (.getfield 7, 3) := dk_1180 (dk_g tcX12_takesMark_0 3 rfl) (dk_g tcX12_takesMark_0 4 rfl) (dk_g tcX12_takesMark_0 5 rfl) rfl
theorem dX12_takesMark_6 : decode cX12_takesMark 6 = .ok (.iconst 1, 1) := dk_1004 (dk_g tcX12_takesMark_0 6 rfl)
theorem dX12_takesMark_7 : decode cX12_takesMark 7 = .ok (.iaload, 1) := dk_1046 (dk_g tcX12_takesMark_0 7 rfl)
theorem dX12_takesMark_8 : decode cX12_takesMark 8 = .ok (.iconst 1, 1) := dk_1004 (dk_g tcX12_takesMark_0 8 rfl)
theorem dX12_takesMark_9 : decode cX12_takesMark 9 = .ok (.isub, 1) := dk_1100 (dk_g tcX12_takesMark_0 9 rfl)
theorem tcX12_takesMark_1 : (cX12_takesMark.data.toList.drop 12).take 12 = [23, 172] := by decide +kernel
theorem dX12_takesMark_10 : decode cX12_takesMark 10 = .ok (.invokevirtual 279, 3) := dk_1182 (dk_g tcX12_takesMark_0 10 rfl) (dk_g tcX12_takesMark_0 11 rfl) (dk_g tcX12_takesMark_1 0 rfl) rfl
theorem dX12_takesMark_13 : decode cX12_takesMark 13 = .ok (.ireturn, 1) := dk_1172 (dk_g tcX12_takesMark_1 1 rfl)
theorem tcX12_addLine_0 : (cX12_addLine.data.toList.drop 0).take 12 = [42, 42, 42, 180, 1, 26, 182, 0, 209, 16, 48, 162] := by decide +kernel
theorem dX12_addLine_0 : decode cX12_addLine 0 = .ok (.aload_n 0, 1) := dk_1042 (dk_g tcX12_addLine_0 0 rfl)
theorem dX12_addLine_1 : decode cX12_addLine 1 = .ok (.aload_n 0, 1) := dk_1042 (dk_g tcX12_addLine_0 1 rfl)
theorem dX12_addLine_2 : decode cX12_addLine 2 = .ok (.aload_n 0, 1) := dk_1042 (dk_g tcX12_addLine_0 2 rfl)
theorem dX12_addLine_3 : decode cX12_addLine 3 = .ok (.getfield 282, 3) := dk_1180 (dk_g tcX12_addLine_0 3 rfl) (dk_g tcX12_addLine_0 4 rfl) (dk_g tcX12_addLine_0 5 rfl) rfl
theorem dX12_addLine_6 : decode cX12_addLine 6 = .ok (.invokevirtual 209, 3) := dk_1182 (dk_g tcX12_addLine_0 6 rfl) (dk_g tcX12_addLine_0 7 rfl) (dk_g tcX12_addLine_0 8 rfl) rfl
theorem dX12_addLine_9 : decode cX12_addLine 9 = .ok (.bipush 48, 2) := dk_1016 (dk_g tcX12_addLine_0 9 rfl) (dk_g tcX12_addLine_0 10 rfl) (by decide +kernel)
theorem tcX12_addLine_1 : (cX12_addLine.data.toList.drop 12).take 12 = [0, 7, 4, 167, 0, 4, 3, 16, 6, 182, 1, 16] := by decide +kernel
theorem dX12_addLine_11 : decode cX12_addLine 11 = .ok (.if_icmp .ge 7, 3) := dk_2162 (dk_g tcX12_addLine_0 11 rfl) (dk_g tcX12_addLine_1 0 rfl) (dk_g tcX12_addLine_1 1 rfl) rfl rfl
theorem dX12_addLine_14 : decode cX12_addLine 14 = .ok (.iconst 1, 1) := dk_1004 (dk_g tcX12_addLine_1 2 rfl)
theorem dX12_addLine_15 : decode cX12_addLine 15 = .ok (.goto 4, 3) := dk_2167 (dk_g tcX12_addLine_1 3 rfl) (dk_g tcX12_addLine_1 4 rfl) (dk_g tcX12_addLine_1 5 rfl) rfl rfl
theorem dX12_addLine_18 : decode cX12_addLine 18 = .ok (.iconst 0, 1) := dk_1003 (dk_g tcX12_addLine_1 6 rfl)
theorem dX12_addLine_19 : decode cX12_addLine 19 = .ok (.bipush 6, 2) := dk_1016 (dk_g tcX12_addLine_1 7 rfl) (dk_g tcX12_addLine_1 8 rfl) (by decide +kernel)
theorem dX12_addLine_21 : decode cX12_addLine 21 = .ok (.invokevirtual 272, 3) := dk_1182 (dk_g tcX12_addLine_1 9 rfl) (dk_g tcX12_addLine_1 10 rfl) (dk_g tcX12_addLine_1 11 rfl) rfl
theorem tcX12_addLine_2 : (cX12_addLine.data.toList.drop 24).take 12 = [42, 180, 1, 6, 158, 0, 4, 177, 42, 182, 1, 20] := by decide +kernel
theorem dX12_addLine_24 : decode cX12_addLine 24 = .ok (.aload_n 0, 1) := dk_1042 (dk_g tcX12_addLine_2 0 rfl)
theorem dX12_addLine_25 : decode cX12_addLine 25 = .ok (.getfield 262, 3) := dk_1180 (dk_g tcX12_addLine_2 1 rfl) (dk_g tcX12_addLine_2 2 rfl) (dk_g tcX12_addLine_2 3 rfl) rfl
theorem dX12_addLine_28 : decode cX12_addLine 28 = .ok (.ifCond .le 4, 3) := dk_2158 (dk_g tcX12_addLine_2 4 rfl) (dk_g tcX12_addLine_2 5 rfl) (dk_g tcX12_addLine_2 6 rfl) rfl rfl
theorem dX12_addLine_31 : decode cX12_addLine 31 = .ok (.return_, 1) := dk_1177 (dk_g tcX12_addLine_2 7 rfl)
theorem dX12_addLine_32 : decode cX12_addLine 32 = .ok (.aload_n 0, 1) := dk_1042 (dk_g tcX12_addLine_2 8 rfl)
theorem dX12_addLine_33 : decode cX12_addLine 33 = .ok (.invokevirtual 276, 3) := dk_1182 (dk_g tcX12_addLine_2 9 rfl) (dk_g tcX12_addLine_2 10 rfl) (dk_g tcX12_addLine_2 11 rfl) rfl
theorem tcX12_addLine_3 : (cX12_addLine.data.toList.drop 36).take 12 = [42, 3, 181, 0, 206, 42, 180, 0, 245, 4, 160, 0] := by decide +kernel
theorem dX12_addLine_36 : decode cX12_addLine 36 = .ok (.aload_n 0, 1) := dk_1042 (dk_g tcX12_addLine_3 0 rfl)
theorem dX12_addLine_37 : decode cX12_addLine 37 = .ok (.iconst 0, 1) := dk_1003 (dk_g tcX12_addLine_3 1 rfl)
theorem dX12_addLine_38 : decode cX12_addLine 38 = .ok (.putfield 206, 3) := dk_1181 (dk_g tcX12_addLine_3 2 rfl) (dk_g tcX12_addLine_3 3 rfl) (dk_g tcX12_addLine_3 4 rfl) rfl
theorem dX12_addLine_41 : decode cX12_addLine 41 = .ok (.aload_n 0, 1) := dk_1042 (dk_g tcX12_addLine_3 5 rfl)
theorem dX12_addLine_42 : decode cX12_addLine 42 = .ok (.getfield 245, 3) := dk_1180 (dk_g tcX12_addLine_3 6 rfl) (dk_g tcX12_addLine_3 7 rfl) (dk_g tcX12_addLine_3 8 rfl) rfl
theorem dX12_addLine_45 : decode cX12_addLine 45 = .ok (.iconst 1, 1) := dk_1004 (dk_g tcX12_addLine_3 9 rfl)
theorem tcX12_addLine_4 : (cX12_addLine.data.toList.drop 48).take 12 = [88, 42, 42, 180, 0, 239, 42, 180, 0, 242, 100, 16] := by decide +kernel
theorem dX12_addLine_46 : decode cX12_addLine 46 = .ok (.if_icmp .ne 88, 3) := dk_2160 (dk_g tcX12_addLine_3 10 rfl) (dk_g tcX12_addLine_3 11 rfl) (dk_g tcX12_addLine_4 0 rfl) rfl rfl
theorem dX12_addLine_49 : decode cX12_addLine 49 = .ok (.aload_n 0, 1) := dk_1042 (dk_g tcX12_addLine_4 1 rfl)
theorem dX12_addLine_50 : decode cX12_addLine 50 = .ok (.aload_n 0, 1) := dk_1042 (dk_g tcX12_addLine_4 2 rfl)
theorem dX12_addLine_51 : decode cX12_addLine 51 = .ok (.getfield 239, 3) := dk_1180 (dk_g tcX12_addLine_4 3 rfl) (dk_g tcX12_addLine_4 4 rfl) (dk_g tcX12_addLine_4 5 rfl) rfl
theorem dX12_addLine_54 : decode cX12_addLine 54 = .ok (.aload_n 0, 1) := dk_1042 (dk_g tcX12_addLine_4 6 rfl)
theorem dX12_addLine_55 : decode cX12_addLine 55 = .ok (.getfield 242, 3) := dk_1180 (dk_g tcX12_addLine_4 7 rfl) (dk_g tcX12_addLine_4 8 rfl) (dk_g tcX12_addLine_4 9 rfl) rfl
theorem dX12_addLine_58 : decode cX12_addLine 58 = .ok (.isub, 1) := dk_1100 (dk_g tcX12_addLine_4 10 rfl)
theorem tcX12_addLine_5 : (cX12_addLine.data.toList.drop 60).take 12 = [8, 163, 0, 7, 4, 167, 0, 4, 3, 7, 182, 1] := by decide +kernel
theorem dX12_addLine_59 : decode cX12_addLine 59 = .ok (.bipush 8, 2) := dk_1016 (dk_g tcX12_addLine_4 11 rfl) (dk_g tcX12_addLine_5 0 rfl) (by decide +kernel)
theorem dX12_addLine_61 : decode cX12_addLine 61 = .ok (.if_icmp .gt 7, 3) := dk_2163 (dk_g tcX12_addLine_5 1 rfl) (dk_g tcX12_addLine_5 2 rfl) (dk_g tcX12_addLine_5 3 rfl) rfl rfl
theorem dX12_addLine_64 : decode cX12_addLine 64 = .ok (.iconst 1, 1) := dk_1004 (dk_g tcX12_addLine_5 4 rfl)
theorem dX12_addLine_65 : decode cX12_addLine 65 = .ok (.goto 4, 3) := dk_2167 (dk_g tcX12_addLine_5 5 rfl) (dk_g tcX12_addLine_5 6 rfl) (dk_g tcX12_addLine_5 7 rfl) rfl rfl
theorem dX12_addLine_68 : decode cX12_addLine 68 = .ok (.iconst 0, 1) := dk_1003 (dk_g tcX12_addLine_5 8 rfl)
theorem dX12_addLine_69 : decode cX12_addLine 69 = .ok (.iconst 4, 1) := dk_1007 (dk_g tcX12_addLine_5 9 rfl)
theorem tcX12_addLine_6 : (cX12_addLine.data.toList.drop 72).take 12 = [16, 42, 180, 1, 6, 158, 0, 4, 177, 42, 42, 180] := by decide +kernel
theorem dX12_addLine_70 : decode cX12_addLine 70 = .ok (.invokevirtual 272, 3) := dk_1182 (dk_g tcX12_addLine_5 10 rfl) (dk_g tcX12_addLine_5 11 rfl) (dk_g tcX12_addLine_6 0 rfl) rfl
theorem dX12_addLine_73 : decode cX12_addLine 73 = .ok (.aload_n 0, 1) := dk_1042 (dk_g tcX12_addLine_6 1 rfl)
theorem dX12_addLine_74 : decode cX12_addLine 74 = .ok (.getfield 262, 3) := dk_1180 (dk_g tcX12_addLine_6 2 rfl) (dk_g tcX12_addLine_6 3 rfl) (dk_g tcX12_addLine_6 4 rfl) rfl
theorem dX12_addLine_77 : decode cX12_addLine 77 = .ok (.ifCond .le 4, 3) := dk_2158 (dk_g tcX12_addLine_6 5 rfl) (dk_g tcX12_addLine_6 6 rfl) (dk_g tcX12_addLine_6 7 rfl) rfl rfl
theorem dX12_addLine_80 : decode cX12_addLine 80 = .ok (.return_, 1) := dk_1177 (dk_g tcX12_addLine_6 8 rfl)
theorem dX12_addLine_81 : decode cX12_addLine 81 = .ok (.aload_n 0, 1) := dk_1042 (dk_g tcX12_addLine_6 9 rfl)
theorem dX12_addLine_82 : decode cX12_addLine 82 = .ok (.aload_n 0, 1) := dk_1042 (dk_g tcX12_addLine_6 10 rfl)
theorem tcX12_addLine_7 : (cX12_addLine.data.toList.drop 84).take 12 = [0, 239, 42, 180, 0, 242, 100, 181, 0, 206, 3, 60] := by decide +kernel
theorem dX12_addLine_83 : decode cX12_addLine 83 = .ok (.getfield 239, 3) := dk_1180 (dk_g tcX12_addLine_6 11 rfl) (dk_g tcX12_addLine_7 0 rfl) (dk_g tcX12_addLine_7 1 rfl) rfl
theorem dX12_addLine_86 : decode cX12_addLine 86 = .ok (.aload_n 0, 1) := dk_1042 (dk_g tcX12_addLine_7 2 rfl)
theorem dX12_addLine_87 : decode cX12_addLine 87 = .ok (.getfield 242, 3) := dk_1180 (dk_g tcX12_addLine_7 3 rfl) (dk_g tcX12_addLine_7 4 rfl) (dk_g tcX12_addLine_7 5 rfl) rfl
theorem dX12_addLine_90 : decode cX12_addLine 90 = .ok (.isub, 1) := dk_1100 (dk_g tcX12_addLine_7 6 rfl)
theorem dX12_addLine_91 : decode cX12_addLine 91 = .ok (.putfield 206, 3) := dk_1181 (dk_g tcX12_addLine_7 7 rfl) (dk_g tcX12_addLine_7 8 rfl) (dk_g tcX12_addLine_7 9 rfl) rfl
theorem dX12_addLine_94 : decode cX12_addLine 94 = .ok (.iconst 0, 1) := dk_1003 (dk_g tcX12_addLine_7 10 rfl)
theorem dX12_addLine_95 : decode cX12_addLine 95 = .ok (.istore_n 1, 1) := dk_1060 (dk_g tcX12_addLine_7 11 rfl)
theorem tcX12_addLine_8 : (cX12_addLine.data.toList.drop 96).take 12 = [27, 42, 180, 0, 206, 162, 0, 29, 42, 180, 0, 28] := by decide +kernel
theorem dX12_addLine_96 : decode cX12_addLine 96 = .ok (.iload_n 1, 1) := dk_1027 (dk_g tcX12_addLine_8 0 rfl)
theorem dX12_addLine_97 : decode cX12_addLine 97 = .ok (.aload_n 0, 1) := dk_1042 (dk_g tcX12_addLine_8 1 rfl)
theorem dX12_addLine_98 : decode cX12_addLine 98 = .ok (.getfield 206, 3) := dk_1180 (dk_g tcX12_addLine_8 2 rfl) (dk_g tcX12_addLine_8 3 rfl) (dk_g tcX12_addLine_8 4 rfl) rfl
theorem dX12_addLine_101 : decode cX12_addLine 101 = .ok (.if_icmp .ge 29, 3) := dk_2162 (dk_g tcX12_addLine_8 5 rfl) (dk_g tcX12_addLine_8 6 rfl) (dk_g tcX12_addLine_8 7 rfl) rfl rfl
theorem dX12_addLine_104 : decode cX12_addLine 104 = .ok (.aload_n 0, 1) := dk_1042 (dk_g tcX12_addLine_8 8 rfl)
theorem dX12_addLine_105 : decode cX12_addLine 105 = .ok (.getfield 28, 3) := dk_1180 (dk_g tcX12_addLine_8 9 rfl) (dk_g tcX12_addLine_8 10 rfl) (dk_g tcX12_addLine_8 11 rfl) rfl
theorem tcX12_addLine_9 : (cX12_addLine.data.toList.drop 108).take 12 = [27, 42, 180, 0, 31, 42, 180, 0, 242, 27, 96, 51] := by decide +kernel
theorem dX12_addLine_108 : decode cX12_addLine 108 = .ok (.iload_n 1, 1) := dk_1027 (dk_g tcX12_addLine_9 0 rfl)
theorem dX12_addLine_109 : decode cX12_addLine 109 = .ok (.aload_n 0, 1) := dk_1042 (dk_g tcX12_addLine_9 1 rfl)
theorem dX12_addLine_110 : decode cX12_addLine 110 = .ok (.getfield 31, 3) := dk_1180 (dk_g tcX12_addLine_9 2 rfl) (dk_g tcX12_addLine_9 3 rfl) (dk_g tcX12_addLine_9 4 rfl) rfl
theorem dX12_addLine_113 : decode cX12_addLine 113 = .ok (.aload_n 0, 1) := dk_1042 (dk_g tcX12_addLine_9 5 rfl)
theorem dX12_addLine_114 : decode cX12_addLine 114 = .ok (.getfield 242, 3) := dk_1180 (dk_g tcX12_addLine_9 6 rfl) (dk_g tcX12_addLine_9 7 rfl) (dk_g tcX12_addLine_9 8 rfl) rfl
theorem dX12_addLine_117 : decode cX12_addLine 117 = .ok (.iload_n 1, 1) := dk_1027 (dk_g tcX12_addLine_9 9 rfl)
theorem dX12_addLine_118 : decode cX12_addLine 118 = .ok (.iadd, 1) := dk_1096 (dk_g tcX12_addLine_9 10 rfl)
theorem dX12_addLine_119 : decode cX12_addLine 119 = .ok (.baload, 1) := dk_1051 (dk_g tcX12_addLine_9 11 rfl)
theorem tcX12_addLine_10 : (cX12_addLine.data.toList.drop 120).take 12 = [16, 96, 100, 79, 132, 1, 1, 167, 255, 225, 42, 182] := by decide +kernel
theorem dX12_addLine_120 : decode cX12_addLine 120 = .ok (.bipush 96, 2) := dk_1016 (dk_g tcX12_addLine_10 0 rfl) (dk_g tcX12_addLine_10 1 rfl) (by decide +kernel)
theorem dX12_addLine_122 : decode cX12_addLine 122 = .ok (.isub, 1) := dk_1100 (dk_g tcX12_addLine_10 2 rfl)
theorem dX12_addLine_123 : decode cX12_addLine 123 = .ok (.iastore, 1) := dk_1079 (dk_g tcX12_addLine_10 3 rfl)
theorem dX12_addLine_124 : decode cX12_addLine 124 = .ok (.iinc 1 1, 3) := dk_1132 (dk_g tcX12_addLine_10 4 rfl) (dk_g tcX12_addLine_10 5 rfl) (dk_g tcX12_addLine_10 6 rfl) rfl (by decide +kernel)
theorem dX12_addLine_127 : decode cX12_addLine 127 = .ok (.goto (-31), 3) := dk_1167 (dk_g tcX12_addLine_10 7 rfl) (dk_g tcX12_addLine_10 8 rfl) (dk_g tcX12_addLine_10 9 rfl) (by decide +kernel)
theorem dX12_addLine_130 : decode cX12_addLine 130 = .ok (.aload_n 0, 1) := dk_1042 (dk_g tcX12_addLine_10 10 rfl)
theorem tcX12_addLine_11 : (cX12_addLine.data.toList.drop 132).take 12 = [1, 20, 42, 182, 1, 29, 42, 180, 1, 6, 154, 0] := by decide +kernel
theorem dX12_addLine_131 : decode cX12_addLine 131 = .ok (.invokevirtual 276, 3) := dk_1182 (dk_g tcX12_addLine_10 11 rfl) (dk_g tcX12_addLine_11 0 rfl) (dk_g tcX12_addLine_11 1 rfl) rfl
theorem dX12_addLine_134 : decode cX12_addLine 134 = .ok (.aload_n 0, 1) := dk_1042 (dk_g tcX12_addLine_11 2 rfl)
theorem dX12_addLine_135 : decode cX12_addLine 135 = .ok (.invokevirtual 285, 3) := dk_1182 (dk_g tcX12_addLine_11 3 rfl) (dk_g tcX12_addLine_11 4 rfl) (dk_g tcX12_addLine_11 5 rfl) rfl
theorem dX12_addLine_138 : decode cX12_addLine 138 = .ok (.aload_n 0, 1) := dk_1042 (dk_g tcX12_addLine_11 6 rfl)
theorem dX12_addLine_139 : decode cX12_addLine 139 = .ok (.getfield 262, 3) := dk_1180 (dk_g tcX12_addLine_11 7 rfl) (dk_g tcX12_addLine_11 8 rfl) (dk_g tcX12_addLine_11 9 rfl) rfl
theorem tcX12_addLine_12 : (cX12_addLine.data.toList.drop 144).take 12 = [12, 42, 42, 180, 1, 26, 182, 1, 32, 87, 177] := by decide +kernel
theorem dX12_addLine_142 : decode cX12_addLine 142 = .ok (.ifCond .ne 12, 3) := dk_2154 (dk_g tcX12_addLine_11 10 rfl) (dk_g tcX12_addLine_11 11 rfl) (dk_g tcX12_addLine_12 0 rfl) rfl rfl
theorem dX12_addLine_145 : decode cX12_addLine 145 = .ok (.aload_n 0, 1) := dk_1042 (dk_g tcX12_addLine_12 1 rfl)
theorem dX12_addLine_146 : decode cX12_addLine 146 = .ok (.aload_n 0, 1) := dk_1042 (dk_g tcX12_addLine_12 2 rfl)
theorem dX12_addLine_147 : decode cX12_addLine 147 = .ok (.getfield 282, 3) := dk_1180 (dk_g tcX12_addLine_12 3 rfl) (dk_g tcX12_addLine_12 4 rfl) (dk_g tcX12_addLine_12 5 rfl) rfl
theorem dX12_addLine_150 : decode cX12_addLine 150 = .ok (.invokevirtual 288, 3) := dk_1182 (dk_g tcX12_addLine_12 6 rfl) (dk_g tcX12_addLine_12 7 rfl) (dk_g tcX12_addLine_12 8 rfl) rfl
theorem dX12_addLine_153 : decode cX12_addLine 153 = .ok (.pop, 1) := dk_1087 (dk_g tcX12_addLine_12 9 rfl)
theorem dX12_addLine_154 : decode cX12_addLine 154 = .ok (.return_, 1) := dk_1177 (dk_g tcX12_addLine_12 10 rfl)
theorem tcX12_forkLine_0 : (cX12_forkLine.data.toList.drop 0).take 12 = [42, 42, 180, 0, 7, 3, 46, 7, 162, 0, 7, 4] := by decide +kernel
theorem dX12_forkLine_0 : decode cX12_forkLine 0 = .ok (.aload_n 0, 1) := dk_1042 (dk_g tcX12_forkLine_0 0 rfl)
theorem dX12_forkLine_1 : decode cX12_forkLine 1 = .ok (.aload_n 0, 1) := dk_1042 (dk_g tcX12_forkLine_0 1 rfl)
theorem dX12_forkLine_2 : decode cX12_forkLine 2 = .ok (.getfield 7, 3) := dk_1180 (dk_g tcX12_forkLine_0 2 rfl) (dk_g tcX12_forkLine_0 3 rfl) (dk_g tcX12_forkLine_0 4 rfl) rfl
theorem dX12_forkLine_5 : decode cX12_forkLine 5 = .ok (.iconst 0, 1) := dk_1003 (dk_g tcX12_forkLine_0 5 rfl)
theorem dX12_forkLine_6 : decode cX12_forkLine 6 = .ok (.iaload, 1) := dk_1046 (dk_g tcX12_forkLine_0 6 rfl)
theorem dX12_forkLine_7 : decode cX12_forkLine 7 = .ok (.iconst 4, 1) := dk_1007 (dk_g tcX12_forkLine_0 7 rfl)
theorem dX12_forkLine_8 : decode cX12_forkLine 8 = .ok (.if_icmp .ge 7, 3) := dk_2162 (dk_g tcX12_forkLine_0 8 rfl) (dk_g tcX12_forkLine_0 9 rfl) (dk_g tcX12_forkLine_0 10 rfl) rfl rfl
theorem dX12_forkLine_11 : decode cX12_forkLine 11 = .ok (.iconst 1, 1) := dk_1004 (dk_g tcX12_forkLine_0 11 rfl)
theorem tcX12_forkLine_1 : (cX12_forkLine.data.toList.drop 12).take 12 = [167, 0, 4, 3, 16, 6, 182, 1, 16, 42, 180, 1] := by decide +kernel
theorem dX12_forkLine_12 : decode cX12_forkLine 12 = .ok (.goto 4, 3) := dk_2167 (dk_g tcX12_forkLine_1 0 rfl) (dk_g tcX12_forkLine_1 1 rfl) (dk_g tcX12_forkLine_1 2 rfl) rfl rfl
theorem dX12_forkLine_15 : decode cX12_forkLine 15 = .ok (.iconst 0, 1) := dk_1003 (dk_g tcX12_forkLine_1 3 rfl)
theorem dX12_forkLine_16 : decode cX12_forkLine 16 = .ok (.bipush 6, 2) := dk_1016 (dk_g tcX12_forkLine_1 4 rfl) (dk_g tcX12_forkLine_1 5 rfl) (by decide +kernel)
theorem dX12_forkLine_18 : decode cX12_forkLine 18 = .ok (.invokevirtual 272, 3) := dk_1182 (dk_g tcX12_forkLine_1 6 rfl) (dk_g tcX12_forkLine_1 7 rfl) (dk_g tcX12_forkLine_1 8 rfl) rfl
theorem dX12_forkLine_21 : decode cX12_forkLine 21 = .ok (.aload_n 0, 1) := dk_1042 (dk_g tcX12_forkLine_1 9 rfl)
theorem tcX12_forkLine_2 : (cX12_forkLine.data.toList.drop 24).take 12 = [6, 158, 0, 4, 177, 42, 182, 1, 20, 42, 3, 42] := by decide +kernel
theorem dX12_forkLine_22 : decode cX12_forkLine 22 = .ok (.getfield 262, 3) := dk_1180 (dk_g tcX12_forkLine_1 10 rfl) (dk_g tcX12_forkLine_1 11 rfl) (dk_g tcX12_forkLine_2 0 rfl) rfl
theorem dX12_forkLine_25 : decode cX12_forkLine 25 = .ok (.ifCond .le 4, 3) := dk_2158 (dk_g tcX12_forkLine_2 1 rfl) (dk_g tcX12_forkLine_2 2 rfl) (dk_g tcX12_forkLine_2 3 rfl) rfl rfl
theorem dX12_forkLine_28 : decode cX12_forkLine 28 = .ok (.return_, 1) := dk_1177 (dk_g tcX12_forkLine_2 4 rfl)
theorem dX12_forkLine_29 : decode cX12_forkLine 29 = .ok (.aload_n 0, 1) := dk_1042 (dk_g tcX12_forkLine_2 5 rfl)
theorem dX12_forkLine_30 : decode cX12_forkLine 30 = .ok (.invokevirtual 276, 3) := dk_1182 (dk_g tcX12_forkLine_2 6 rfl) (dk_g tcX12_forkLine_2 7 rfl) (dk_g tcX12_forkLine_2 8 rfl) rfl
theorem dX12_forkLine_33 : decode cX12_forkLine 33 = .ok (.aload_n 0, 1) := dk_1042 (dk_g tcX12_forkLine_2 9 rfl)
theorem dX12_forkLine_34 : decode cX12_forkLine 34 = .ok (.iconst 0, 1) := dk_1003 (dk_g tcX12_forkLine_2 10 rfl)
theorem dX12_forkLine_35 : decode cX12_forkLine 35 = .ok (.aload_n 0, 1) := dk_1042 (dk_g tcX12_forkLine_2 11 rfl)
theorem tcX12_forkLine_3 : (cX12_forkLine.data.toList.drop 36).take 12 = [42, 180, 1, 26, 182, 0, 209, 182, 1, 23, 60, 42] := by decide +kernel
theorem dX12_forkLine_36 : decode cX12_forkLine 36 = .ok (.aload_n 0, 1) := dk_1042 (dk_g tcX12_forkLine_3 0 rfl)
theorem dX12_forkLine_37 : decode cX12_forkLine 37 = .ok (.getfield 282, 3) := dk_1180 (dk_g tcX12_forkLine_3 1 rfl) (dk_g tcX12_forkLine_3 2 rfl) (dk_g tcX12_forkLine_3 3 rfl) rfl
theorem dX12_forkLine_40 : decode cX12_forkLine 40 = .ok (.invokevirtual 209, 3) := dk_1182 (dk_g tcX12_forkLine_3 4 rfl) (dk_g tcX12_forkLine_3 5 rfl) (dk_g tcX12_forkLine_3 6 rfl) rfl
theorem dX12_forkLine_43 : decode cX12_forkLine 43 = .ok (.invokevirtual 279, 3) := dk_1182 (dk_g tcX12_forkLine_3 7 rfl) (dk_g tcX12_forkLine_3 8 rfl) (dk_g tcX12_forkLine_3 9 rfl) rfl
theorem dX12_forkLine_46 : decode cX12_forkLine 46 = .ok (.istore_n 1, 1) := dk_1060 (dk_g tcX12_forkLine_3 10 rfl)
theorem dX12_forkLine_47 : decode cX12_forkLine 47 = .ok (.aload_n 0, 1) := dk_1042 (dk_g tcX12_forkLine_3 11 rfl)
theorem tcX12_forkLine_4 : (cX12_forkLine.data.toList.drop 48).take 12 = [182, 1, 29, 42, 180, 1, 6, 154, 0, 16, 42, 42] := by decide +kernel
theorem dX12_forkLine_48 : decode cX12_forkLine 48 = .ok (.invokevirtual 285, 3) := dk_1182 (dk_g tcX12_forkLine_4 0 rfl) (dk_g tcX12_forkLine_4 1 rfl) (dk_g tcX12_forkLine_4 2 rfl) rfl
theorem dX12_forkLine_51 : decode cX12_forkLine 51 = .ok (.aload_n 0, 1) := dk_1042 (dk_g tcX12_forkLine_4 3 rfl)
theorem dX12_forkLine_52 : decode cX12_forkLine 52 = .ok (.getfield 262, 3) := dk_1180 (dk_g tcX12_forkLine_4 4 rfl) (dk_g tcX12_forkLine_4 5 rfl) (dk_g tcX12_forkLine_4 6 rfl) rfl
theorem dX12_forkLine_55 : decode cX12_forkLine 55 = .ok (.ifCond .ne 16, 3) := dk_2154 (dk_g tcX12_forkLine_4 7 rfl) (dk_g tcX12_forkLine_4 8 rfl) (dk_g tcX12_forkLine_4 9 rfl) rfl rfl
theorem dX12_forkLine_58 : decode cX12_forkLine 58 = .ok (.aload_n 0, 1) := dk_1042 (dk_g tcX12_forkLine_4 10 rfl)
theorem dX12_forkLine_59 : decode cX12_forkLine 59 = .ok (.aload_n 0, 1) := dk_1042 (dk_g tcX12_forkLine_4 11 rfl)
theorem tcX12_forkLine_5 : (cX12_forkLine.data.toList.drop 60).take 12 = [42, 180, 1, 26, 27, 182, 1, 35, 181, 1, 26, 177] := by decide +kernel
theorem dX12_forkLine_60 : decode cX12_forkLine 60 = .ok (.aload_n 0, 1) := dk_1042 (dk_g tcX12_forkLine_5 0 rfl)
theorem dX12_forkLine_61 : decode cX12_forkLine 61 = .ok (.getfield 282, 3) := dk_1180 (dk_g tcX12_forkLine_5 1 rfl) (dk_g tcX12_forkLine_5 2 rfl) (dk_g tcX12_forkLine_5 3 rfl) rfl
theorem dX12_forkLine_64 : decode cX12_forkLine 64 = .ok (.iload_n 1, 1) := dk_1027 (dk_g tcX12_forkLine_5 4 rfl)
theorem dX12_forkLine_65 : decode cX12_forkLine 65 = .ok (.invokevirtual 291, 3) := dk_1182 (dk_g tcX12_forkLine_5 5 rfl) (dk_g tcX12_forkLine_5 6 rfl) (dk_g tcX12_forkLine_5 7 rfl) rfl
theorem dX12_forkLine_68 : decode cX12_forkLine 68 = .ok (.putfield 282, 3) := dk_1181 (dk_g tcX12_forkLine_5 8 rfl) (dk_g tcX12_forkLine_5 9 rfl) (dk_g tcX12_forkLine_5 10 rfl) rfl
theorem dX12_forkLine_71 : decode cX12_forkLine 71 = .ok (.return_, 1) := dk_1177 (dk_g tcX12_forkLine_5 11 rfl)
theorem tcX12_line_0 : (cX12_line.data.toList.drop 0).take 12 = [42, 4, 182, 1, 12, 153, 0, 10, 42, 182, 1, 38] := by decide +kernel
theorem dX12_line_0 : decode cX12_line 0 = .ok (.aload_n 0, 1) := dk_1042 (dk_g tcX12_line_0 0 rfl)
theorem dX12_line_1 : decode cX12_line 1 = .ok (.iconst 1, 1) := dk_1004 (dk_g tcX12_line_0 1 rfl)
theorem dX12_line_2 : decode cX12_line 2 = .ok (.invokevirtual 268, 3) := dk_1182 (dk_g tcX12_line_0 2 rfl) (dk_g tcX12_line_0 3 rfl) (dk_g tcX12_line_0 4 rfl) rfl
theorem dX12_line_5 : decode cX12_line 5 = .ok (.ifCond .eq 10, 3) := dk_2153 (dk_g tcX12_line_0 5 rfl) (dk_g tcX12_line_0 6 rfl) (dk_g tcX12_line_0 7 rfl) rfl rfl
theorem dX12_line_8 : decode cX12_line 8 = .ok (.aload_n 0, 1) := dk_1042 (dk_g tcX12_line_0 8 rfl)
theorem dX12_line_9 : decode cX12_line 9 = .ok (.invokevirtual 294, 3) := dk_1182 (dk_g tcX12_line_0 9 rfl) (dk_g tcX12_line_0 10 rfl) (dk_g tcX12_line_0 11 rfl) rfl
theorem tcX12_line_1 : (cX12_line.data.toList.drop 12).take 12 = [167, 0, 182, 42, 5, 182, 1, 12, 153, 0, 47, 42] := by decide +kernel
theorem dX12_line_12 : decode cX12_line 12 = .ok (.goto 182, 3) := dk_2167 (dk_g tcX12_line_1 0 rfl) (dk_g tcX12_line_1 1 rfl) (dk_g tcX12_line_1 2 rfl) rfl rfl
theorem dX12_line_15 : decode cX12_line 15 = .ok (.aload_n 0, 1) := dk_1042 (dk_g tcX12_line_1 3 rfl)
theorem dX12_line_16 : decode cX12_line 16 = .ok (.iconst 2, 1) := dk_1005 (dk_g tcX12_line_1 4 rfl)
theorem dX12_line_17 : decode cX12_line 17 = .ok (.invokevirtual 268, 3) := dk_1182 (dk_g tcX12_line_1 5 rfl) (dk_g tcX12_line_1 6 rfl) (dk_g tcX12_line_1 7 rfl) rfl
theorem dX12_line_20 : decode cX12_line 20 = .ok (.ifCond .eq 47, 3) := dk_2153 (dk_g tcX12_line_1 8 rfl) (dk_g tcX12_line_1 9 rfl) (dk_g tcX12_line_1 10 rfl) rfl rfl
theorem dX12_line_23 : decode cX12_line 23 = .ok (.aload_n 0, 1) := dk_1042 (dk_g tcX12_line_1 11 rfl)
theorem tcX12_line_2 : (cX12_line.data.toList.drop 24).take 12 = [182, 1, 20, 42, 3, 42, 180, 0, 7, 3, 46, 4] := by decide +kernel
theorem dX12_line_24 : decode cX12_line 24 = .ok (.invokevirtual 276, 3) := dk_1182 (dk_g tcX12_line_2 0 rfl) (dk_g tcX12_line_2 1 rfl) (dk_g tcX12_line_2 2 rfl) rfl
theorem dX12_line_27 : decode cX12_line 27 = .ok (.aload_n 0, 1) := dk_1042 (dk_g tcX12_line_2 3 rfl)
theorem dX12_line_28 : decode cX12_line 28 = .ok (.iconst 0, 1) := dk_1003 (dk_g tcX12_line_2 4 rfl)
theorem dX12_line_29 : decode cX12_line 29 = .ok (.aload_n 0, 1) := dk_1042 (dk_g tcX12_line_2 5 rfl)
theorem dX12_line_30 : decode cX12_line 30 = .ok (.getfield 7, 3) := dk_1180 (dk_g tcX12_line_2 6 rfl) (dk_g tcX12_line_2 7 rfl) (dk_g tcX12_line_2 8 rfl) rfl
theorem dX12_line_33 : decode cX12_line 33 = .ok (.iconst 0, 1) := dk_1003 (dk_g tcX12_line_2 9 rfl)
theorem dX12_line_34 : decode cX12_line 34 = .ok (.iaload, 1) := dk_1046 (dk_g tcX12_line_2 10 rfl)
theorem dX12_line_35 : decode cX12_line 35 = .ok (.iconst 1, 1) := dk_1004 (dk_g tcX12_line_2 11 rfl)
theorem tcX12_line_3 : (cX12_line.data.toList.drop 36).take 12 = [100, 182, 1, 23, 60, 42, 42, 180, 1, 6, 154, 0] := by decide +kernel
theorem dX12_line_36 : decode cX12_line 36 = .ok (.isub, 1) := dk_1100 (dk_g tcX12_line_3 0 rfl)
theorem dX12_line_37 : decode cX12_line 37 = .ok (.invokevirtual 279, 3) := dk_1182 (dk_g tcX12_line_3 1 rfl) (dk_g tcX12_line_3 2 rfl) (dk_g tcX12_line_3 3 rfl) rfl
theorem dX12_line_40 : decode cX12_line 40 = .ok (.istore_n 1, 1) := dk_1060 (dk_g tcX12_line_3 4 rfl)
theorem dX12_line_41 : decode cX12_line 41 = .ok (.aload_n 0, 1) := dk_1042 (dk_g tcX12_line_3 5 rfl)
theorem dX12_line_42 : decode cX12_line 42 = .ok (.aload_n 0, 1) := dk_1042 (dk_g tcX12_line_3 6 rfl)
theorem dX12_line_43 : decode cX12_line 43 = .ok (.getfield 262, 3) := dk_1180 (dk_g tcX12_line_3 7 rfl) (dk_g tcX12_line_3 8 rfl) (dk_g tcX12_line_3 9 rfl) rfl
theorem tcX12_line_4 : (cX12_line.data.toList.drop 48).take 12 = [7, 27, 167, 0, 7, 42, 180, 1, 26, 181, 1, 26] := by decide +kernel
theorem dX12_line_46 : decode cX12_line 46 = .ok (.ifCond .ne 7, 3) := dk_2154 (dk_g tcX12_line_3 10 rfl) (dk_g tcX12_line_3 11 rfl) (dk_g tcX12_line_4 0 rfl) rfl rfl
theorem dX12_line_49 : decode cX12_line 49 = .ok (.iload_n 1, 1) := dk_1027 (dk_g tcX12_line_4 1 rfl)
theorem dX12_line_50 : decode cX12_line 50 = .ok (.goto 7, 3) := dk_2167 (dk_g tcX12_line_4 2 rfl) (dk_g tcX12_line_4 3 rfl) (dk_g tcX12_line_4 4 rfl) rfl rfl
theorem dX12_line_53 : decode cX12_line 53 = .ok (.aload_n 0, 1) := dk_1042 (dk_g tcX12_line_4 5 rfl)
theorem dX12_line_54 : decode cX12_line 54 = .ok (.getfield 282, 3) := dk_1180 (dk_g tcX12_line_4 6 rfl) (dk_g tcX12_line_4 7 rfl) (dk_g tcX12_line_4 8 rfl) rfl
theorem dX12_line_57 : decode cX12_line 57 = .ok (.putfield 282, 3) := dk_1181 (dk_g tcX12_line_4 9 rfl) (dk_g tcX12_line_4 10 rfl) (dk_g tcX12_line_4 11 rfl) rfl
theorem tcX12_line_5 : (cX12_line.data.toList.drop 60).take 12 = [42, 182, 1, 29, 167, 0, 130, 42, 6, 182, 1, 12] := by decide +kernel
theorem dX12_line_60 : decode cX12_line 60 = .ok (.aload_n 0, 1) := dk_1042 (dk_g tcX12_line_5 0 rfl)
theorem dX12_line_61 : decode cX12_line 61 = .ok (.invokevirtual 285, 3) := dk_1182 (dk_g tcX12_line_5 1 rfl) (dk_g tcX12_line_5 2 rfl) (dk_g tcX12_line_5 3 rfl) rfl
theorem dX12_line_64 : decode cX12_line 64 = .ok (.goto 130, 3) := dk_2167 (dk_g tcX12_line_5 4 rfl) (dk_g tcX12_line_5 5 rfl) (dk_g tcX12_line_5 6 rfl) rfl rfl
theorem dX12_line_67 : decode cX12_line 67 = .ok (.aload_n 0, 1) := dk_1042 (dk_g tcX12_line_5 7 rfl)
theorem dX12_line_68 : decode cX12_line 68 = .ok (.iconst 3, 1) := dk_1006 (dk_g tcX12_line_5 8 rfl)
theorem dX12_line_69 : decode cX12_line 69 = .ok (.invokevirtual 268, 3) := dk_1182 (dk_g tcX12_line_5 9 rfl) (dk_g tcX12_line_5 10 rfl) (dk_g tcX12_line_5 11 rfl) rfl
theorem tcX12_line_6 : (cX12_line.data.toList.drop 72).take 12 = [153, 0, 10, 42, 182, 1, 41, 167, 0, 115, 42, 7] := by decide +kernel
theorem dX12_line_72 : decode cX12_line 72 = .ok (.ifCond .eq 10, 3) := dk_2153 (dk_g tcX12_line_6 0 rfl) (dk_g tcX12_line_6 1 rfl) (dk_g tcX12_line_6 2 rfl) rfl rfl
theorem dX12_line_75 : decode cX12_line 75 = .ok (.aload_n 0, 1) := dk_1042 (dk_g tcX12_line_6 3 rfl)
theorem dX12_line_76 : decode cX12_line 76 = .ok (.invokevirtual 297, 3) := dk_1182 (dk_g tcX12_line_6 4 rfl) (dk_g tcX12_line_6 5 rfl) (dk_g tcX12_line_6 6 rfl) rfl
theorem dX12_line_79 : decode cX12_line 79 = .ok (.goto 115, 3) := dk_2167 (dk_g tcX12_line_6 7 rfl) (dk_g tcX12_line_6 8 rfl) (dk_g tcX12_line_6 9 rfl) rfl rfl
theorem dX12_line_82 : decode cX12_line 82 = .ok (.aload_n 0, 1) := dk_1042 (dk_g tcX12_line_6 10 rfl)
theorem dX12_line_83 : decode cX12_line 83 = .ok (.iconst 4, 1) := dk_1007 (dk_g tcX12_line_6 11 rfl)
theorem tcX12_line_7 : (cX12_line.data.toList.drop 84).take 12 = [182, 1, 12, 153, 0, 59, 42, 42, 180, 0, 7, 6] := by decide +kernel
theorem dX12_line_84 : decode cX12_line 84 = .ok (.invokevirtual 268, 3) := dk_1182 (dk_g tcX12_line_7 0 rfl) (dk_g tcX12_line_7 1 rfl) (dk_g tcX12_line_7 2 rfl) rfl
theorem dX12_line_87 : decode cX12_line 87 = .ok (.ifCond .eq 59, 3) := dk_2153 (dk_g tcX12_line_7 3 rfl) (dk_g tcX12_line_7 4 rfl) (dk_g tcX12_line_7 5 rfl) rfl rfl
theorem dX12_line_90 : decode cX12_line 90 = .ok (.aload_n 0, 1) := dk_1042 (dk_g tcX12_line_7 6 rfl)
theorem dX12_line_91 : decode cX12_line 91 = .ok (.aload_n 0, 1) := dk_1042 (dk_g tcX12_line_7 7 rfl)
theorem dX12_line_92 : decode cX12_line 92 = .ok (.getfield 7, 3) := dk_1180 (dk_g tcX12_line_7 8 rfl) (dk_g tcX12_line_7 9 rfl) (dk_g tcX12_line_7 10 rfl) rfl
theorem dX12_line_95 : decode cX12_line 95 = .ok (.iconst 3, 1) := dk_1006 (dk_g tcX12_line_7 11 rfl)
theorem tcX12_line_8 : (cX12_line.data.toList.drop 96).take 12 = [46, 16, 16, 162, 0, 7, 4, 167, 0, 4, 3, 16] := by decide +kernel
theorem dX12_line_96 : decode cX12_line 96 = .ok (.iaload, 1) := dk_1046 (dk_g tcX12_line_8 0 rfl)
theorem dX12_line_97 : decode cX12_line 97 = .ok (.bipush 16, 2) := dk_1016 (dk_g tcX12_line_8 1 rfl) (dk_g tcX12_line_8 2 rfl) (by decide +kernel)
theorem dX12_line_99 : decode cX12_line 99 = .ok (.if_icmp .ge 7, 3) := dk_2162 (dk_g tcX12_line_8 3 rfl) (dk_g tcX12_line_8 4 rfl) (dk_g tcX12_line_8 5 rfl) rfl rfl
theorem dX12_line_102 : decode cX12_line 102 = .ok (.iconst 1, 1) := dk_1004 (dk_g tcX12_line_8 6 rfl)
theorem dX12_line_103 : decode cX12_line 103 = .ok (.goto 4, 3) := dk_2167 (dk_g tcX12_line_8 7 rfl) (dk_g tcX12_line_8 8 rfl) (dk_g tcX12_line_8 9 rfl) rfl rfl
theorem dX12_line_106 : decode cX12_line 106 = .ok (.iconst 0, 1) := dk_1003 (dk_g tcX12_line_8 10 rfl)
theorem tcX12_line_9 : (cX12_line.data.toList.drop 108).take 12 = [6, 182, 1, 16, 42, 180, 1, 6, 154, 0, 7, 42] := by decide +kernel
theorem dX12_line_107 : decode cX12_line 107 = .ok (.bipush 6, 2) := dk_1016 (dk_g tcX12_line_8 11 rfl) (dk_g tcX12_line_9 0 rfl) (by decide +kernel)
theorem dX12_line_109 : decode cX12_line 109 = .ok (.invokevirtual 272, 3) := dk_1182 (dk_g tcX12_line_9 1 rfl) (dk_g tcX12_line_9 2 rfl) (dk_g tcX12_line_9 3 rfl) rfl
theorem dX12_line_112 : decode cX12_line 112 = .ok (.aload_n 0, 1) := dk_1042 (dk_g tcX12_line_9 4 rfl)
theorem dX12_line_113 : decode cX12_line 113 = .ok (.getfield 262, 3) := dk_1180 (dk_g tcX12_line_9 5 rfl) (dk_g tcX12_line_9 6 rfl) (dk_g tcX12_line_9 7 rfl) rfl
theorem dX12_line_116 : decode cX12_line 116 = .ok (.ifCond .ne 7, 3) := dk_2154 (dk_g tcX12_line_9 8 rfl) (dk_g tcX12_line_9 9 rfl) (dk_g tcX12_line_9 10 rfl) rfl rfl
theorem dX12_line_119 : decode cX12_line 119 = .ok (.aload_n 0, 1) := dk_1042 (dk_g tcX12_line_9 11 rfl)
theorem tcX12_line_10 : (cX12_line.data.toList.drop 120).take 12 = [182, 1, 20, 42, 182, 1, 29, 42, 180, 1, 6, 154] := by decide +kernel
theorem dX12_line_120 : decode cX12_line 120 = .ok (.invokevirtual 276, 3) := dk_1182 (dk_g tcX12_line_10 0 rfl) (dk_g tcX12_line_10 1 rfl) (dk_g tcX12_line_10 2 rfl) rfl
theorem dX12_line_123 : decode cX12_line 123 = .ok (.aload_n 0, 1) := dk_1042 (dk_g tcX12_line_10 3 rfl)
theorem dX12_line_124 : decode cX12_line 124 = .ok (.invokevirtual 285, 3) := dk_1182 (dk_g tcX12_line_10 4 rfl) (dk_g tcX12_line_10 5 rfl) (dk_g tcX12_line_10 6 rfl) rfl
theorem dX12_line_127 : decode cX12_line 127 = .ok (.aload_n 0, 1) := dk_1042 (dk_g tcX12_line_10 7 rfl)
theorem dX12_line_128 : decode cX12_line 128 = .ok (.getfield 262, 3) := dk_1180 (dk_g tcX12_line_10 8 rfl) (dk_g tcX12_line_10 9 rfl) (dk_g tcX12_line_10 10 rfl) rfl
theorem tcX12_line_11 : (cX12_line.data.toList.drop 132).take 12 = [0, 63, 42, 42, 180, 1, 26, 182, 1, 44, 87, 167] := by decide +kernel
theorem dX12_line_131 : decode cX12_line 131 = .ok (.ifCond .ne 63, 3) := dk_2154 (dk_g tcX12_line_10 11 rfl) (dk_g tcX12_line_11 0 rfl) (dk_g tcX12_line_11 1 rfl) rfl rfl
theorem dX12_line_134 : decode cX12_line 134 = .ok (.aload_n 0, 1) := dk_1042 (dk_g tcX12_line_11 2 rfl)
theorem dX12_line_135 : decode cX12_line 135 = .ok (.aload_n 0, 1) := dk_1042 (dk_g tcX12_line_11 3 rfl)
theorem dX12_line_136 : decode cX12_line 136 = .ok (.getfield 282, 3) := dk_1180 (dk_g tcX12_line_11 4 rfl) (dk_g tcX12_line_11 5 rfl) (dk_g tcX12_line_11 6 rfl) rfl
theorem dX12_line_139 : decode cX12_line 139 = .ok (.invokevirtual 300, 3) := dk_1182 (dk_g tcX12_line_11 7 rfl) (dk_g tcX12_line_11 8 rfl) (dk_g tcX12_line_11 9 rfl) rfl
theorem dX12_line_142 : decode cX12_line 142 = .ok (.pop, 1) := dk_1087 (dk_g tcX12_line_11 10 rfl)
theorem tcX12_line_12 : (cX12_line.data.toList.drop 144).take 12 = [0, 51, 42, 8, 182, 1, 47, 42, 3, 6, 182, 1] := by decide +kernel
theorem dX12_line_143 : decode cX12_line 143 = .ok (.goto 51, 3) := dk_2167 (dk_g tcX12_line_11 11 rfl) (dk_g tcX12_line_12 0 rfl) (dk_g tcX12_line_12 1 rfl) rfl rfl
theorem dX12_line_146 : decode cX12_line 146 = .ok (.aload_n 0, 1) := dk_1042 (dk_g tcX12_line_12 2 rfl)
theorem dX12_line_147 : decode cX12_line 147 = .ok (.iconst 5, 1) := dk_1008 (dk_g tcX12_line_12 3 rfl)
theorem dX12_line_148 : decode cX12_line 148 = .ok (.invokevirtual 303, 3) := dk_1182 (dk_g tcX12_line_12 4 rfl) (dk_g tcX12_line_12 5 rfl) (dk_g tcX12_line_12 6 rfl) rfl
theorem dX12_line_151 : decode cX12_line 151 = .ok (.aload_n 0, 1) := dk_1042 (dk_g tcX12_line_12 7 rfl)
theorem dX12_line_152 : decode cX12_line 152 = .ok (.iconst 0, 1) := dk_1003 (dk_g tcX12_line_12 8 rfl)
theorem dX12_line_153 : decode cX12_line 153 = .ok (.iconst 3, 1) := dk_1006 (dk_g tcX12_line_12 9 rfl)
theorem tcX12_line_13 : (cX12_line.data.toList.drop 156).take 12 = [23, 60, 42, 3, 42, 42, 180, 1, 26, 182, 0, 209] := by decide +kernel
theorem dX12_line_154 : decode cX12_line 154 = .ok (.invokevirtual 279, 3) := dk_1182 (dk_g tcX12_line_12 10 rfl) (dk_g tcX12_line_12 11 rfl) (dk_g tcX12_line_13 0 rfl) rfl
theorem dX12_line_157 : decode cX12_line 157 = .ok (.istore_n 1, 1) := dk_1060 (dk_g tcX12_line_13 1 rfl)
theorem dX12_line_158 : decode cX12_line 158 = .ok (.aload_n 0, 1) := dk_1042 (dk_g tcX12_line_13 2 rfl)
theorem dX12_line_159 : decode cX12_line 159 = .ok (.iconst 0, 1) := dk_1003 (dk_g tcX12_line_13 3 rfl)
theorem dX12_line_160 : decode cX12_line 160 = .ok (.aload_n 0, 1) := dk_1042 (dk_g tcX12_line_13 4 rfl)
theorem dX12_line_161 : decode cX12_line 161 = .ok (.aload_n 0, 1) := dk_1042 (dk_g tcX12_line_13 5 rfl)
theorem dX12_line_162 : decode cX12_line 162 = .ok (.getfield 282, 3) := dk_1180 (dk_g tcX12_line_13 6 rfl) (dk_g tcX12_line_13 7 rfl) (dk_g tcX12_line_13 8 rfl) rfl
theorem dX12_line_165 : decode cX12_line 165 = .ok (.invokevirtual 209, 3) := dk_1182 (dk_g tcX12_line_13 9 rfl) (dk_g tcX12_line_13 10 rfl) (dk_g tcX12_line_13 11 rfl) rfl
theorem tcX12_line_14 : (cX12_line.data.toList.drop 168).take 12 = [182, 1, 23, 61, 42, 182, 1, 29, 42, 180, 1, 6] := by decide +kernel
theorem dX12_line_168 : decode cX12_line 168 = .ok (.invokevirtual 279, 3) := dk_1182 (dk_g tcX12_line_14 0 rfl) (dk_g tcX12_line_14 1 rfl) (dk_g tcX12_line_14 2 rfl) rfl
theorem dX12_line_171 : decode cX12_line 171 = .ok (.istore_n 2, 1) := dk_1061 (dk_g tcX12_line_14 3 rfl)
theorem dX12_line_172 : decode cX12_line 172 = .ok (.aload_n 0, 1) := dk_1042 (dk_g tcX12_line_14 4 rfl)
theorem dX12_line_173 : decode cX12_line 173 = .ok (.invokevirtual 285, 3) := dk_1182 (dk_g tcX12_line_14 5 rfl) (dk_g tcX12_line_14 6 rfl) (dk_g tcX12_line_14 7 rfl) rfl
theorem dX12_line_176 : decode cX12_line 176 = .ok (.aload_n 0, 1) := dk_1042 (dk_g tcX12_line_14 8 rfl)
theorem dX12_line_177 : decode cX12_line 177 = .ok (.getfield 262, 3) := dk_1180 (dk_g tcX12_line_14 9 rfl) (dk_g tcX12_line_14 10 rfl) (dk_g tcX12_line_14 11 rfl) rfl
theorem tcX12_line_15 : (cX12_line.data.toList.drop 180).take 12 = [154, 0, 14, 42, 27, 42, 180, 1, 26, 28, 182, 1] := by decide +kernel
theorem dX12_line_180 : decode cX12_line 180 = .ok (.ifCond .ne 14, 3) := dk_2154 (dk_g tcX12_line_15 0 rfl) (dk_g tcX12_line_15 1 rfl) (dk_g tcX12_line_15 2 rfl) rfl rfl
theorem dX12_line_183 : decode cX12_line 183 = .ok (.aload_n 0, 1) := dk_1042 (dk_g tcX12_line_15 3 rfl)
theorem dX12_line_184 : decode cX12_line 184 = .ok (.iload_n 1, 1) := dk_1027 (dk_g tcX12_line_15 4 rfl)
theorem dX12_line_185 : decode cX12_line 185 = .ok (.aload_n 0, 1) := dk_1042 (dk_g tcX12_line_15 5 rfl)
theorem dX12_line_186 : decode cX12_line 186 = .ok (.getfield 282, 3) := dk_1180 (dk_g tcX12_line_15 6 rfl) (dk_g tcX12_line_15 7 rfl) (dk_g tcX12_line_15 8 rfl) rfl
theorem dX12_line_189 : decode cX12_line 189 = .ok (.iload_n 2, 1) := dk_1028 (dk_g tcX12_line_15 9 rfl)
theorem tcX12_line_16 : (cX12_line.data.toList.drop 192).take 12 = [50, 87, 177] := by decide +kernel
theorem dX12_line_190 : decode cX12_line 190 = .ok (.invokevirtual 306, 3) := dk_1182 (dk_g tcX12_line_15 10 rfl) (dk_g tcX12_line_15 11 rfl) (dk_g tcX12_line_16 0 rfl) rfl
theorem dX12_line_193 : decode cX12_line 193 = .ok (.pop, 1) := dk_1087 (dk_g tcX12_line_16 1 rfl)
theorem dX12_line_194 : decode cX12_line 194 = .ok (.return_, 1) := dk_1177 (dk_g tcX12_line_16 2 rfl)
theorem tcX12_begins_0 : (cX12_begins.data.toList.drop 0).take 12 = [42, 27, 181, 0, 236, 42, 3, 181, 0, 239, 42, 3] := by decide +kernel
theorem dX12_begins_0 : decode cX12_begins 0 = .ok (.aload_n 0, 1) := dk_1042 (dk_g tcX12_begins_0 0 rfl)
theorem dX12_begins_1 : decode cX12_begins 1 = .ok (.iload_n 1, 1) := dk_1027 (dk_g tcX12_begins_0 1 rfl)
theorem dX12_begins_2 : decode cX12_begins 2 = .ok (.putfield 236, 3) := dk_1181 (dk_g tcX12_begins_0 2 rfl) (dk_g tcX12_begins_0 3 rfl) (dk_g tcX12_begins_0 4 rfl) rfl
theorem dX12_begins_5 : decode cX12_begins 5 = .ok (.aload_n 0, 1) := dk_1042 (dk_g tcX12_begins_0 5 rfl)
theorem dX12_begins_6 : decode cX12_begins 6 = .ok (.iconst 0, 1) := dk_1003 (dk_g tcX12_begins_0 6 rfl)
theorem dX12_begins_7 : decode cX12_begins 7 = .ok (.putfield 239, 3) := dk_1181 (dk_g tcX12_begins_0 7 rfl) (dk_g tcX12_begins_0 8 rfl) (dk_g tcX12_begins_0 9 rfl) rfl
theorem dX12_begins_10 : decode cX12_begins 10 = .ok (.aload_n 0, 1) := dk_1042 (dk_g tcX12_begins_0 10 rfl)
theorem dX12_begins_11 : decode cX12_begins 11 = .ok (.iconst 0, 1) := dk_1003 (dk_g tcX12_begins_0 11 rfl)
theorem tcX12_begins_1 : (cX12_begins.data.toList.drop 12).take 12 = [181, 1, 6, 42, 182, 1, 20, 177] := by decide +kernel
theorem dX12_begins_12 : decode cX12_begins 12 = .ok (.putfield 262, 3) := dk_1181 (dk_g tcX12_begins_1 0 rfl) (dk_g tcX12_begins_1 1 rfl) (dk_g tcX12_begins_1 2 rfl) rfl
theorem dX12_begins_15 : decode cX12_begins 15 = .ok (.aload_n 0, 1) := dk_1042 (dk_g tcX12_begins_1 3 rfl)
theorem dX12_begins_16 : decode cX12_begins 16 = .ok (.invokevirtual 276, 3) := dk_1182 (dk_g tcX12_begins_1 4 rfl) (dk_g tcX12_begins_1 5 rfl) (dk_g tcX12_begins_1 6 rfl) rfl
theorem dX12_begins_19 : decode cX12_begins 19 = .ok (.return_, 1) := dk_1177 (dk_g tcX12_begins_1 7 rfl)
theorem tcX12_ends_0 : (cX12_ends.data.toList.drop 0).take 12 = [42, 3, 181, 0, 230, 42, 42, 180, 1, 6, 181, 0] := by decide +kernel
theorem dX12_ends_0 : decode cX12_ends 0 = .ok (.aload_n 0, 1) := dk_1042 (dk_g tcX12_ends_0 0 rfl)
theorem dX12_ends_1 : decode cX12_ends 1 = .ok (.iconst 0, 1) := dk_1003 (dk_g tcX12_ends_0 1 rfl)
theorem dX12_ends_2 : decode cX12_ends 2 = .ok (.putfield 230, 3) := dk_1181 (dk_g tcX12_ends_0 2 rfl) (dk_g tcX12_ends_0 3 rfl) (dk_g tcX12_ends_0 4 rfl) rfl
theorem dX12_ends_5 : decode cX12_ends 5 = .ok (.aload_n 0, 1) := dk_1042 (dk_g tcX12_ends_0 5 rfl)
theorem dX12_ends_6 : decode cX12_ends 6 = .ok (.aload_n 0, 1) := dk_1042 (dk_g tcX12_ends_0 6 rfl)
theorem dX12_ends_7 : decode cX12_ends 7 = .ok (.getfield 262, 3) := dk_1180 (dk_g tcX12_ends_0 7 rfl) (dk_g tcX12_ends_0 8 rfl) (dk_g tcX12_ends_0 9 rfl) rfl
theorem tcX12_ends_1 : (cX12_ends.data.toList.drop 12).take 12 = [35, 42, 42, 180, 1, 6, 158, 0, 10, 42, 180, 1] := by decide +kernel
theorem dX12_ends_10 : decode cX12_ends 10 = .ok (.putfield 35, 3) := dk_1181 (dk_g tcX12_ends_0 10 rfl) (dk_g tcX12_ends_0 11 rfl) (dk_g tcX12_ends_1 0 rfl) rfl
theorem dX12_ends_13 : decode cX12_ends 13 = .ok (.aload_n 0, 1) := dk_1042 (dk_g tcX12_ends_1 1 rfl)
theorem dX12_ends_14 : decode cX12_ends 14 = .ok (.aload_n 0, 1) := dk_1042 (dk_g tcX12_ends_1 2 rfl)
theorem dX12_ends_15 : decode cX12_ends 15 = .ok (.getfield 262, 3) := dk_1180 (dk_g tcX12_ends_1 3 rfl) (dk_g tcX12_ends_1 4 rfl) (dk_g tcX12_ends_1 5 rfl) rfl
theorem dX12_ends_18 : decode cX12_ends 18 = .ok (.ifCond .le 10, 3) := dk_2158 (dk_g tcX12_ends_1 6 rfl) (dk_g tcX12_ends_1 7 rfl) (dk_g tcX12_ends_1 8 rfl) rfl rfl
theorem dX12_ends_21 : decode cX12_ends 21 = .ok (.aload_n 0, 1) := dk_1042 (dk_g tcX12_ends_1 9 rfl)
theorem tcX12_ends_2 : (cX12_ends.data.toList.drop 24).take 12 = [9, 167, 0, 4, 2, 181, 0, 39, 42, 42, 180, 1] := by decide +kernel
theorem dX12_ends_22 : decode cX12_ends 22 = .ok (.getfield 265, 3) := dk_1180 (dk_g tcX12_ends_1 10 rfl) (dk_g tcX12_ends_1 11 rfl) (dk_g tcX12_ends_2 0 rfl) rfl
theorem dX12_ends_25 : decode cX12_ends 25 = .ok (.goto 4, 3) := dk_2167 (dk_g tcX12_ends_2 1 rfl) (dk_g tcX12_ends_2 2 rfl) (dk_g tcX12_ends_2 3 rfl) rfl rfl
theorem dX12_ends_28 : decode cX12_ends 28 = .ok (.iconst (-1), 1) := dk_1002 (dk_g tcX12_ends_2 4 rfl)
theorem dX12_ends_29 : decode cX12_ends 29 = .ok (.putfield 39, 3) := dk_1181 (dk_g tcX12_ends_2 5 rfl) (dk_g tcX12_ends_2 6 rfl) (dk_g tcX12_ends_2 7 rfl) rfl
theorem dX12_ends_32 : decode cX12_ends 32 = .ok (.aload_n 0, 1) := dk_1042 (dk_g tcX12_ends_2 8 rfl)
theorem dX12_ends_33 : decode cX12_ends 33 = .ok (.aload_n 0, 1) := dk_1042 (dk_g tcX12_ends_2 9 rfl)
theorem tcX12_ends_3 : (cX12_ends.data.toList.drop 36).take 12 = [6, 158, 0, 8, 16, 9, 167, 0, 4, 3, 181, 0] := by decide +kernel
theorem dX12_ends_34 : decode cX12_ends 34 = .ok (.getfield 262, 3) := dk_1180 (dk_g tcX12_ends_2 10 rfl) (dk_g tcX12_ends_2 11 rfl) (dk_g tcX12_ends_3 0 rfl) rfl
theorem dX12_ends_37 : decode cX12_ends 37 = .ok (.ifCond .le 8, 3) := dk_2158 (dk_g tcX12_ends_3 1 rfl) (dk_g tcX12_ends_3 2 rfl) (dk_g tcX12_ends_3 3 rfl) rfl rfl
theorem dX12_ends_40 : decode cX12_ends 40 = .ok (.bipush 9, 2) := dk_1016 (dk_g tcX12_ends_3 4 rfl) (dk_g tcX12_ends_3 5 rfl) (by decide +kernel)
theorem dX12_ends_42 : decode cX12_ends 42 = .ok (.goto 4, 3) := dk_2167 (dk_g tcX12_ends_3 6 rfl) (dk_g tcX12_ends_3 7 rfl) (dk_g tcX12_ends_3 8 rfl) rfl rfl
theorem dX12_ends_45 : decode cX12_ends 45 = .ok (.iconst 0, 1) := dk_1003 (dk_g tcX12_ends_3 9 rfl)
theorem tcX12_ends_4 : (cX12_ends.data.toList.drop 48).take 12 = [109, 177] := by decide +kernel
theorem dX12_ends_46 : decode cX12_ends 46 = .ok (.putfield 109, 3) := dk_1181 (dk_g tcX12_ends_3 10 rfl) (dk_g tcX12_ends_3 11 rfl) (dk_g tcX12_ends_4 0 rfl) rfl
theorem dX12_ends_49 : decode cX12_ends 49 = .ok (.return_, 1) := dk_1177 (dk_g tcX12_ends_4 1 rfl)
theorem tcX12_load_0 : (cX12_load.data.toList.drop 0).take 12 = [42, 27, 3, 42, 180, 0, 230, 184, 0, 113, 153, 0] := by decide +kernel
theorem dX12_load_0 : decode cX12_load 0 = .ok (.aload_n 0, 1) := dk_1042 (dk_g tcX12_load_0 0 rfl)
theorem dX12_load_1 : decode cX12_load 1 = .ok (.iload_n 1, 1) := dk_1027 (dk_g tcX12_load_0 1 rfl)
theorem dX12_load_2 : decode cX12_load 2 = .ok (.iconst 0, 1) := dk_1003 (dk_g tcX12_load_0 2 rfl)
theorem dX12_load_3 : decode cX12_load 3 = .ok (.aload_n 0, 1) := dk_1042 (dk_g tcX12_load_0 3 rfl)
theorem dX12_load_4 : decode cX12_load 4 = .ok (.getfield 230, 3) := dk_1180 (dk_g tcX12_load_0 4 rfl) (dk_g tcX12_load_0 5 rfl) (dk_g tcX12_load_0 6 rfl) rfl
theorem dX12_load_7 : decode cX12_load 7 = .ok (.invokestatic 113, 3) := dk_1184 (dk_g tcX12_load_0 7 rfl) (dk_g tcX12_load_0 8 rfl) (dk_g tcX12_load_0 9 rfl) rfl
theorem tcX12_load_1 : (cX12_load.data.toList.drop 12).take 12 = [7, 3, 167, 0, 4, 4, 182, 1, 53, 154, 0, 5] := by decide +kernel
theorem dX12_load_10 : decode cX12_load 10 = .ok (.ifCond .eq 7, 3) := dk_2153 (dk_g tcX12_load_0 10 rfl) (dk_g tcX12_load_0 11 rfl) (dk_g tcX12_load_1 0 rfl) rfl rfl
theorem dX12_load_13 : decode cX12_load 13 = .ok (.iconst 0, 1) := dk_1003 (dk_g tcX12_load_1 1 rfl)
theorem dX12_load_14 : decode cX12_load 14 = .ok (.goto 4, 3) := dk_2167 (dk_g tcX12_load_1 2 rfl) (dk_g tcX12_load_1 3 rfl) (dk_g tcX12_load_1 4 rfl) rfl rfl
theorem dX12_load_17 : decode cX12_load 17 = .ok (.iconst 1, 1) := dk_1004 (dk_g tcX12_load_1 5 rfl)
theorem dX12_load_18 : decode cX12_load 18 = .ok (.invokevirtual 309, 3) := dk_1182 (dk_g tcX12_load_1 6 rfl) (dk_g tcX12_load_1 7 rfl) (dk_g tcX12_load_1 8 rfl) rfl
theorem dX12_load_21 : decode cX12_load 21 = .ok (.ifCond .ne 5, 3) := dk_2154 (dk_g tcX12_load_1 9 rfl) (dk_g tcX12_load_1 10 rfl) (dk_g tcX12_load_1 11 rfl) rfl rfl
theorem tcX12_load_2 : (cX12_load.data.toList.drop 24).take 12 = [2, 172, 3, 61, 28, 17, 7, 188, 162, 0, 21, 42] := by decide +kernel
theorem dX12_load_24 : decode cX12_load 24 = .ok (.iconst (-1), 1) := dk_1002 (dk_g tcX12_load_2 0 rfl)
theorem dX12_load_25 : decode cX12_load 25 = .ok (.ireturn, 1) := dk_1172 (dk_g tcX12_load_2 1 rfl)
theorem dX12_load_26 : decode cX12_load 26 = .ok (.iconst 0, 1) := dk_1003 (dk_g tcX12_load_2 2 rfl)
theorem dX12_load_27 : decode cX12_load 27 = .ok (.istore_n 2, 1) := dk_1061 (dk_g tcX12_load_2 3 rfl)
theorem dX12_load_28 : decode cX12_load 28 = .ok (.iload_n 2, 1) := dk_1028 (dk_g tcX12_load_2 4 rfl)
theorem dX12_load_29 : decode cX12_load 29 = .ok (.sipush 1980, 3) := dk_2017 (dk_g tcX12_load_2 5 rfl) (dk_g tcX12_load_2 6 rfl) (dk_g tcX12_load_2 7 rfl) rfl rfl
theorem dX12_load_32 : decode cX12_load 32 = .ok (.if_icmp .ge 21, 3) := dk_2162 (dk_g tcX12_load_2 8 rfl) (dk_g tcX12_load_2 9 rfl) (dk_g tcX12_load_2 10 rfl) rfl rfl
theorem dX12_load_35 : decode cX12_load 35 = .ok (.aload_n 0, 1) := dk_1042 (dk_g tcX12_load_2 11 rfl)
theorem tcX12_load_3 : (cX12_load.data.toList.drop 36).take 12 = [180, 0, 13, 28, 42, 180, 0, 7, 28, 46, 79, 132] := by decide +kernel
theorem dX12_load_36 : decode cX12_load 36 = .ok (.getfield 13, 3) := dk_1180 (dk_g tcX12_load_3 0 rfl) (dk_g tcX12_load_3 1 rfl) (dk_g tcX12_load_3 2 rfl) rfl
theorem dX12_load_39 : decode cX12_load 39 = .ok (.iload_n 2, 1) := dk_1028 (dk_g tcX12_load_3 3 rfl)
theorem dX12_load_40 : decode cX12_load 40 = .ok (.aload_n 0, 1) := dk_1042 (dk_g tcX12_load_3 4 rfl)
theorem dX12_load_41 : decode cX12_load 41 = .ok (.getfield 7, 3) := dk_1180 (dk_g tcX12_load_3 5 rfl) (dk_g tcX12_load_3 6 rfl) (dk_g tcX12_load_3 7 rfl) rfl
theorem dX12_load_44 : decode cX12_load 44 = .ok (.iload_n 2, 1) := dk_1028 (dk_g tcX12_load_3 8 rfl)
theorem dX12_load_45 : decode cX12_load 45 = .ok (.iaload, 1) := dk_1046 (dk_g tcX12_load_3 9 rfl)
theorem dX12_load_46 : decode cX12_load 46 = .ok (.iastore, 1) := dk_1079 (dk_g tcX12_load_3 10 rfl)
theorem tcX12_load_4 : (cX12_load.data.toList.drop 48).take 12 = [2, 1, 167, 255, 234, 42, 182, 0, 103, 42, 3, 181] := by decide +kernel
theorem dX12_load_47 : decode cX12_load 47 = .ok (.iinc 2 1, 3) := dk_1132 (dk_g tcX12_load_3 11 rfl) (dk_g tcX12_load_4 0 rfl) (dk_g tcX12_load_4 1 rfl) rfl (by decide +kernel)
theorem dX12_load_50 : decode cX12_load 50 = .ok (.goto (-22), 3) := dk_1167 (dk_g tcX12_load_4 2 rfl) (dk_g tcX12_load_4 3 rfl) (dk_g tcX12_load_4 4 rfl) (by decide +kernel)
theorem dX12_load_53 : decode cX12_load 53 = .ok (.aload_n 0, 1) := dk_1042 (dk_g tcX12_load_4 5 rfl)
theorem dX12_load_54 : decode cX12_load 54 = .ok (.invokevirtual 103, 3) := dk_1182 (dk_g tcX12_load_4 6 rfl) (dk_g tcX12_load_4 7 rfl) (dk_g tcX12_load_4 8 rfl) rfl
theorem dX12_load_57 : decode cX12_load 57 = .ok (.aload_n 0, 1) := dk_1042 (dk_g tcX12_load_4 9 rfl)
theorem dX12_load_58 : decode cX12_load 58 = .ok (.iconst 0, 1) := dk_1003 (dk_g tcX12_load_4 10 rfl)
theorem tcX12_load_5 : (cX12_load.data.toList.drop 60).take 12 = [1, 26, 42, 27, 182, 1, 56, 42, 3, 182, 1, 12] := by decide +kernel
theorem dX12_load_59 : decode cX12_load 59 = .ok (.putfield 282, 3) := dk_1181 (dk_g tcX12_load_4 11 rfl) (dk_g tcX12_load_5 0 rfl) (dk_g tcX12_load_5 1 rfl) rfl
theorem dX12_load_62 : decode cX12_load 62 = .ok (.aload_n 0, 1) := dk_1042 (dk_g tcX12_load_5 2 rfl)
theorem dX12_load_63 : decode cX12_load 63 = .ok (.iload_n 1, 1) := dk_1027 (dk_g tcX12_load_5 3 rfl)
theorem dX12_load_64 : decode cX12_load 64 = .ok (.invokevirtual 312, 3) := dk_1182 (dk_g tcX12_load_5 4 rfl) (dk_g tcX12_load_5 5 rfl) (dk_g tcX12_load_5 6 rfl) rfl
theorem dX12_load_67 : decode cX12_load 67 = .ok (.aload_n 0, 1) := dk_1042 (dk_g tcX12_load_5 7 rfl)
theorem dX12_load_68 : decode cX12_load 68 = .ok (.iconst 0, 1) := dk_1003 (dk_g tcX12_load_5 8 rfl)
theorem dX12_load_69 : decode cX12_load 69 = .ok (.invokevirtual 268, 3) := dk_1182 (dk_g tcX12_load_5 9 rfl) (dk_g tcX12_load_5 10 rfl) (dk_g tcX12_load_5 11 rfl) rfl
theorem tcX12_load_6 : (cX12_load.data.toList.drop 72).take 12 = [153, 0, 25, 42, 182, 1, 20, 42, 180, 0, 7, 4] := by decide +kernel
theorem dX12_load_72 : decode cX12_load 72 = .ok (.ifCond .eq 25, 3) := dk_2153 (dk_g tcX12_load_6 0 rfl) (dk_g tcX12_load_6 1 rfl) (dk_g tcX12_load_6 2 rfl) rfl rfl
theorem dX12_load_75 : decode cX12_load 75 = .ok (.aload_n 0, 1) := dk_1042 (dk_g tcX12_load_6 3 rfl)
theorem dX12_load_76 : decode cX12_load 76 = .ok (.invokevirtual 276, 3) := dk_1182 (dk_g tcX12_load_6 4 rfl) (dk_g tcX12_load_6 5 rfl) (dk_g tcX12_load_6 6 rfl) rfl
theorem dX12_load_79 : decode cX12_load 79 = .ok (.aload_n 0, 1) := dk_1042 (dk_g tcX12_load_6 7 rfl)
theorem dX12_load_80 : decode cX12_load 80 = .ok (.getfield 7, 3) := dk_1180 (dk_g tcX12_load_6 8 rfl) (dk_g tcX12_load_6 9 rfl) (dk_g tcX12_load_6 10 rfl) rfl
theorem dX12_load_83 : decode cX12_load 83 = .ok (.iconst 1, 1) := dk_1004 (dk_g tcX12_load_6 11 rfl)
theorem tcX12_load_7 : (cX12_load.data.toList.drop 84).take 12 = [42, 16, 101, 18, 112, 182, 1, 23, 79, 42, 182, 1] := by decide +kernel
theorem dX12_load_84 : decode cX12_load 84 = .ok (.aload_n 0, 1) := dk_1042 (dk_g tcX12_load_7 0 rfl)
theorem dX12_load_85 : decode cX12_load 85 = .ok (.bipush 101, 2) := dk_1016 (dk_g tcX12_load_7 1 rfl) (dk_g tcX12_load_7 2 rfl) (by decide +kernel)
theorem dX12_load_87 : decode cX12_load 87 = .ok (.ldc 112, 2) := dk_1018 (dk_g tcX12_load_7 3 rfl) (dk_g tcX12_load_7 4 rfl) rfl
theorem dX12_load_89 : decode cX12_load 89 = .ok (.invokevirtual 279, 3) := dk_1182 (dk_g tcX12_load_7 5 rfl) (dk_g tcX12_load_7 6 rfl) (dk_g tcX12_load_7 7 rfl) rfl
theorem dX12_load_92 : decode cX12_load 92 = .ok (.iastore, 1) := dk_1079 (dk_g tcX12_load_7 8 rfl)
theorem dX12_load_93 : decode cX12_load 93 = .ok (.aload_n 0, 1) := dk_1042 (dk_g tcX12_load_7 9 rfl)
theorem tcX12_load_8 : (cX12_load.data.toList.drop 96).take 12 = [29, 42, 180, 1, 6, 154, 0, 17, 42, 180, 0, 245] := by decide +kernel
theorem dX12_load_94 : decode cX12_load 94 = .ok (.invokevirtual 285, 3) := dk_1182 (dk_g tcX12_load_7 10 rfl) (dk_g tcX12_load_7 11 rfl) (dk_g tcX12_load_8 0 rfl) rfl
theorem dX12_load_97 : decode cX12_load 97 = .ok (.aload_n 0, 1) := dk_1042 (dk_g tcX12_load_8 1 rfl)
theorem dX12_load_98 : decode cX12_load 98 = .ok (.getfield 262, 3) := dk_1180 (dk_g tcX12_load_8 2 rfl) (dk_g tcX12_load_8 3 rfl) (dk_g tcX12_load_8 4 rfl) rfl
theorem dX12_load_101 : decode cX12_load 101 = .ok (.ifCond .ne 17, 3) := dk_2154 (dk_g tcX12_load_8 5 rfl) (dk_g tcX12_load_8 6 rfl) (dk_g tcX12_load_8 7 rfl) rfl rfl
theorem dX12_load_104 : decode cX12_load 104 = .ok (.aload_n 0, 1) := dk_1042 (dk_g tcX12_load_8 8 rfl)
theorem dX12_load_105 : decode cX12_load 105 = .ok (.getfield 245, 3) := dk_1180 (dk_g tcX12_load_8 9 rfl) (dk_g tcX12_load_8 10 rfl) (dk_g tcX12_load_8 11 rfl) rfl
theorem tcX12_load_9 : (cX12_load.data.toList.drop 108).take 12 = [153, 0, 10, 42, 182, 1, 59, 167, 255, 238, 42, 182] := by decide +kernel
theorem dX12_load_108 : decode cX12_load 108 = .ok (.ifCond .eq 10, 3) := dk_2153 (dk_g tcX12_load_9 0 rfl) (dk_g tcX12_load_9 1 rfl) (dk_g tcX12_load_9 2 rfl) rfl rfl
theorem dX12_load_111 : decode cX12_load 111 = .ok (.aload_n 0, 1) := dk_1042 (dk_g tcX12_load_9 3 rfl)
theorem dX12_load_112 : decode cX12_load 112 = .ok (.invokevirtual 315, 3) := dk_1182 (dk_g tcX12_load_9 4 rfl) (dk_g tcX12_load_9 5 rfl) (dk_g tcX12_load_9 6 rfl) rfl
theorem dX12_load_115 : decode cX12_load 115 = .ok (.goto (-18), 3) := dk_1167 (dk_g tcX12_load_9 7 rfl) (dk_g tcX12_load_9 8 rfl) (dk_g tcX12_load_9 9 rfl) (by decide +kernel)
theorem dX12_load_118 : decode cX12_load 118 = .ok (.aload_n 0, 1) := dk_1042 (dk_g tcX12_load_9 10 rfl)
theorem tcX12_load_10 : (cX12_load.data.toList.drop 120).take 12 = [1, 62, 42, 180, 1, 6, 154, 0, 10, 42, 180, 0] := by decide +kernel
theorem dX12_load_119 : decode cX12_load 119 = .ok (.invokevirtual 318, 3) := dk_1182 (dk_g tcX12_load_9 11 rfl) (dk_g tcX12_load_10 0 rfl) (dk_g tcX12_load_10 1 rfl) rfl
theorem dX12_load_122 : decode cX12_load 122 = .ok (.aload_n 0, 1) := dk_1042 (dk_g tcX12_load_10 2 rfl)
theorem dX12_load_123 : decode cX12_load 123 = .ok (.getfield 262, 3) := dk_1180 (dk_g tcX12_load_10 3 rfl) (dk_g tcX12_load_10 4 rfl) (dk_g tcX12_load_10 5 rfl) rfl
theorem dX12_load_126 : decode cX12_load 126 = .ok (.ifCond .ne 10, 3) := dk_2154 (dk_g tcX12_load_10 6 rfl) (dk_g tcX12_load_10 7 rfl) (dk_g tcX12_load_10 8 rfl) rfl rfl
theorem dX12_load_129 : decode cX12_load 129 = .ok (.aload_n 0, 1) := dk_1042 (dk_g tcX12_load_10 9 rfl)
theorem tcX12_load_11 : (cX12_load.data.toList.drop 132).take 12 = [7, 3, 46, 172, 3, 61, 28, 17, 7, 188, 162, 0] := by decide +kernel
theorem dX12_load_130 : decode cX12_load 130 = .ok (.getfield 7, 3) := dk_1180 (dk_g tcX12_load_10 10 rfl) (dk_g tcX12_load_10 11 rfl) (dk_g tcX12_load_11 0 rfl) rfl
theorem dX12_load_133 : decode cX12_load 133 = .ok (.iconst 0, 1) := dk_1003 (dk_g tcX12_load_11 1 rfl)
theorem dX12_load_134 : decode cX12_load 134 = .ok (.iaload, 1) := dk_1046 (dk_g tcX12_load_11 2 rfl)
theorem dX12_load_135 : decode cX12_load 135 = .ok (.ireturn, 1) := dk_1172 (dk_g tcX12_load_11 3 rfl)
theorem dX12_load_136 : decode cX12_load 136 = .ok (.iconst 0, 1) := dk_1003 (dk_g tcX12_load_11 4 rfl)
theorem dX12_load_137 : decode cX12_load 137 = .ok (.istore_n 2, 1) := dk_1061 (dk_g tcX12_load_11 5 rfl)
theorem dX12_load_138 : decode cX12_load 138 = .ok (.iload_n 2, 1) := dk_1028 (dk_g tcX12_load_11 6 rfl)
theorem dX12_load_139 : decode cX12_load 139 = .ok (.sipush 1980, 3) := dk_2017 (dk_g tcX12_load_11 7 rfl) (dk_g tcX12_load_11 8 rfl) (dk_g tcX12_load_11 9 rfl) rfl rfl
theorem tcX12_load_12 : (cX12_load.data.toList.drop 144).take 12 = [21, 42, 180, 0, 7, 28, 42, 180, 0, 13, 28, 46] := by decide +kernel
theorem dX12_load_142 : decode cX12_load 142 = .ok (.if_icmp .ge 21, 3) := dk_2162 (dk_g tcX12_load_11 10 rfl) (dk_g tcX12_load_11 11 rfl) (dk_g tcX12_load_12 0 rfl) rfl rfl
theorem dX12_load_145 : decode cX12_load 145 = .ok (.aload_n 0, 1) := dk_1042 (dk_g tcX12_load_12 1 rfl)
theorem dX12_load_146 : decode cX12_load 146 = .ok (.getfield 7, 3) := dk_1180 (dk_g tcX12_load_12 2 rfl) (dk_g tcX12_load_12 3 rfl) (dk_g tcX12_load_12 4 rfl) rfl
theorem dX12_load_149 : decode cX12_load 149 = .ok (.iload_n 2, 1) := dk_1028 (dk_g tcX12_load_12 5 rfl)
theorem dX12_load_150 : decode cX12_load 150 = .ok (.aload_n 0, 1) := dk_1042 (dk_g tcX12_load_12 6 rfl)
theorem dX12_load_151 : decode cX12_load 151 = .ok (.getfield 13, 3) := dk_1180 (dk_g tcX12_load_12 7 rfl) (dk_g tcX12_load_12 8 rfl) (dk_g tcX12_load_12 9 rfl) rfl
theorem dX12_load_154 : decode cX12_load 154 = .ok (.iload_n 2, 1) := dk_1028 (dk_g tcX12_load_12 10 rfl)
theorem dX12_load_155 : decode cX12_load 155 = .ok (.iaload, 1) := dk_1046 (dk_g tcX12_load_12 11 rfl)
theorem tcX12_load_13 : (cX12_load.data.toList.drop 156).take 12 = [79, 132, 2, 1, 167, 255, 234, 2, 172] := by decide +kernel
theorem dX12_load_156 : decode cX12_load 156 = .ok (.iastore, 1) := dk_1079 (dk_g tcX12_load_13 0 rfl)
theorem dX12_load_157 : decode cX12_load 157 = .ok (.iinc 2 1, 3) := dk_1132 (dk_g tcX12_load_13 1 rfl) (dk_g tcX12_load_13 2 rfl) (dk_g tcX12_load_13 3 rfl) rfl (by decide +kernel)
theorem dX12_load_160 : decode cX12_load 160 = .ok (.goto (-22), 3) := dk_1167 (dk_g tcX12_load_13 4 rfl) (dk_g tcX12_load_13 5 rfl) (dk_g tcX12_load_13 6 rfl) (by decide +kernel)
theorem dX12_load_163 : decode cX12_load 163 = .ok (.iconst (-1), 1) := dk_1002 (dk_g tcX12_load_13 7 rfl)
theorem dX12_load_164 : decode cX12_load 164 = .ok (.ireturn, 1) := dk_1172 (dk_g tcX12_load_13 8 rfl)
theorem tcX12_takesMarks_0 : (cX12_takesMarks.data.toList.drop 0).take 12 = [42, 16, 11, 182, 1, 47, 3, 60, 42, 180, 1, 6] := by decide +kernel
theorem dX12_takesMarks_0 : decode cX12_takesMarks 0 = .ok (.aload_n 0, 1) := dk_1042 (dk_g tcX12_takesMarks_0 0 rfl)
theorem dX12_takesMarks_1 : decode cX12_takesMarks 1 = .ok (.bipush 11, 2) := dk_1016 (dk_g tcX12_takesMarks_0 1 rfl) (dk_g tcX12_takesMarks_0 2 rfl) (by decide +kernel)
theorem dX12_takesMarks_3 : decode cX12_takesMarks 3 = .ok (.invokevirtual 303, 3) := dk_1182 (dk_g tcX12_takesMarks_0 3 rfl) (dk_g tcX12_takesMarks_0 4 rfl) (dk_g tcX12_takesMarks_0 5 rfl) rfl
theorem dX12_takesMarks_6 : decode cX12_takesMarks 6 = .ok (.iconst 0, 1) := dk_1003 (dk_g tcX12_takesMarks_0 6 rfl)
theorem dX12_takesMarks_7 : decode cX12_takesMarks 7 = .ok (.istore_n 1, 1) := dk_1060 (dk_g tcX12_takesMarks_0 7 rfl)
theorem dX12_takesMarks_8 : decode cX12_takesMarks 8 = .ok (.aload_n 0, 1) := dk_1042 (dk_g tcX12_takesMarks_0 8 rfl)
theorem dX12_takesMarks_9 : decode cX12_takesMarks 9 = .ok (.getfield 262, 3) := dk_1180 (dk_g tcX12_takesMarks_0 9 rfl) (dk_g tcX12_takesMarks_0 10 rfl) (dk_g tcX12_takesMarks_0 11 rfl) rfl
theorem tcX12_takesMarks_1 : (cX12_takesMarks.data.toList.drop 12).take 12 = [154, 0, 70, 42, 180, 0, 245, 5, 160, 0, 62, 42] := by decide +kernel
theorem dX12_takesMarks_12 : decode cX12_takesMarks 12 = .ok (.ifCond .ne 70, 3) := dk_2154 (dk_g tcX12_takesMarks_1 0 rfl) (dk_g tcX12_takesMarks_1 1 rfl) (dk_g tcX12_takesMarks_1 2 rfl) rfl rfl
theorem dX12_takesMarks_15 : decode cX12_takesMarks 15 = .ok (.aload_n 0, 1) := dk_1042 (dk_g tcX12_takesMarks_1 3 rfl)
theorem dX12_takesMarks_16 : decode cX12_takesMarks 16 = .ok (.getfield 245, 3) := dk_1180 (dk_g tcX12_takesMarks_1 4 rfl) (dk_g tcX12_takesMarks_1 5 rfl) (dk_g tcX12_takesMarks_1 6 rfl) rfl
theorem dX12_takesMarks_19 : decode cX12_takesMarks 19 = .ok (.iconst 2, 1) := dk_1005 (dk_g tcX12_takesMarks_1 7 rfl)
theorem dX12_takesMarks_20 : decode cX12_takesMarks 20 = .ok (.if_icmp .ne 62, 3) := dk_2160 (dk_g tcX12_takesMarks_1 8 rfl) (dk_g tcX12_takesMarks_1 9 rfl) (dk_g tcX12_takesMarks_1 10 rfl) rfl rfl
theorem dX12_takesMarks_23 : decode cX12_takesMarks 23 = .ok (.aload_n 0, 1) := dk_1042 (dk_g tcX12_takesMarks_1 11 rfl)
theorem tcX12_takesMarks_2 : (cX12_takesMarks.data.toList.drop 24).take 12 = [42, 42, 180, 1, 3, 182, 1, 65, 6, 182, 1, 16] := by decide +kernel
theorem dX12_takesMarks_24 : decode cX12_takesMarks 24 = .ok (.aload_n 0, 1) := dk_1042 (dk_g tcX12_takesMarks_2 0 rfl)
theorem dX12_takesMarks_25 : decode cX12_takesMarks 25 = .ok (.aload_n 0, 1) := dk_1042 (dk_g tcX12_takesMarks_2 1 rfl)
theorem dX12_takesMarks_26 : decode cX12_takesMarks 26 = .ok (.getfield 259, 3) := dk_1180 (dk_g tcX12_takesMarks_2 2 rfl) (dk_g tcX12_takesMarks_2 3 rfl) (dk_g tcX12_takesMarks_2 4 rfl) rfl
theorem dX12_takesMarks_29 : decode cX12_takesMarks 29 = .ok (.invokevirtual 321, 3) := dk_1182 (dk_g tcX12_takesMarks_2 5 rfl) (dk_g tcX12_takesMarks_2 6 rfl) (dk_g tcX12_takesMarks_2 7 rfl) rfl
theorem dX12_takesMarks_32 : decode cX12_takesMarks 32 = .ok (.iconst 3, 1) := dk_1006 (dk_g tcX12_takesMarks_2 8 rfl)
theorem dX12_takesMarks_33 : decode cX12_takesMarks 33 = .ok (.invokevirtual 272, 3) := dk_1182 (dk_g tcX12_takesMarks_2 9 rfl) (dk_g tcX12_takesMarks_2 10 rfl) (dk_g tcX12_takesMarks_2 11 rfl) rfl
theorem tcX12_takesMarks_3 : (cX12_takesMarks.data.toList.drop 36).take 12 = [42, 27, 16, 64, 162, 0, 7, 4, 167, 0, 4, 3] := by decide +kernel
theorem dX12_takesMarks_36 : decode cX12_takesMarks 36 = .ok (.aload_n 0, 1) := dk_1042 (dk_g tcX12_takesMarks_3 0 rfl)
theorem dX12_takesMarks_37 : decode cX12_takesMarks 37 = .ok (.iload_n 1, 1) := dk_1027 (dk_g tcX12_takesMarks_3 1 rfl)
theorem dX12_takesMarks_38 : decode cX12_takesMarks 38 = .ok (.bipush 64, 2) := dk_1016 (dk_g tcX12_takesMarks_3 2 rfl) (dk_g tcX12_takesMarks_3 3 rfl) (by decide +kernel)
theorem dX12_takesMarks_40 : decode cX12_takesMarks 40 = .ok (.if_icmp .ge 7, 3) := dk_2162 (dk_g tcX12_takesMarks_3 4 rfl) (dk_g tcX12_takesMarks_3 5 rfl) (dk_g tcX12_takesMarks_3 6 rfl) rfl rfl
theorem dX12_takesMarks_43 : decode cX12_takesMarks 43 = .ok (.iconst 1, 1) := dk_1004 (dk_g tcX12_takesMarks_3 7 rfl)
theorem dX12_takesMarks_44 : decode cX12_takesMarks 44 = .ok (.goto 4, 3) := dk_2167 (dk_g tcX12_takesMarks_3 8 rfl) (dk_g tcX12_takesMarks_3 9 rfl) (dk_g tcX12_takesMarks_3 10 rfl) rfl rfl
theorem dX12_takesMarks_47 : decode cX12_takesMarks 47 = .ok (.iconst 0, 1) := dk_1003 (dk_g tcX12_takesMarks_3 11 rfl)
theorem tcX12_takesMarks_4 : (cX12_takesMarks.data.toList.drop 48).take 12 = [16, 6, 182, 1, 16, 42, 180, 1, 6, 158, 0, 5] := by decide +kernel
theorem dX12_takesMarks_48 : decode cX12_takesMarks 48 = .ok (.bipush 6, 2) := dk_1016 (dk_g tcX12_takesMarks_4 0 rfl) (dk_g tcX12_takesMarks_4 1 rfl) (by decide +kernel)
theorem dX12_takesMarks_50 : decode cX12_takesMarks 50 = .ok (.invokevirtual 272, 3) := dk_1182 (dk_g tcX12_takesMarks_4 2 rfl) (dk_g tcX12_takesMarks_4 3 rfl) (dk_g tcX12_takesMarks_4 4 rfl) rfl
theorem dX12_takesMarks_53 : decode cX12_takesMarks 53 = .ok (.aload_n 0, 1) := dk_1042 (dk_g tcX12_takesMarks_4 5 rfl)
theorem dX12_takesMarks_54 : decode cX12_takesMarks 54 = .ok (.getfield 262, 3) := dk_1180 (dk_g tcX12_takesMarks_4 6 rfl) (dk_g tcX12_takesMarks_4 7 rfl) (dk_g tcX12_takesMarks_4 8 rfl) rfl
theorem dX12_takesMarks_57 : decode cX12_takesMarks 57 = .ok (.ifCond .le 5, 3) := dk_2158 (dk_g tcX12_takesMarks_4 9 rfl) (dk_g tcX12_takesMarks_4 10 rfl) (dk_g tcX12_takesMarks_4 11 rfl) rfl rfl
theorem tcX12_takesMarks_5 : (cX12_takesMarks.data.toList.drop 60).take 12 = [27, 172, 42, 180, 0, 22, 27, 42, 180, 1, 3, 79] := by decide +kernel
theorem dX12_takesMarks_60 : decode cX12_takesMarks 60 = .ok (.iload_n 1, 1) := dk_1027 (dk_g tcX12_takesMarks_5 0 rfl)
theorem dX12_takesMarks_61 : decode cX12_takesMarks 61 = .ok (.ireturn, 1) := dk_1172 (dk_g tcX12_takesMarks_5 1 rfl)
theorem dX12_takesMarks_62 : decode cX12_takesMarks 62 = .ok (.aload_n 0, 1) := dk_1042 (dk_g tcX12_takesMarks_5 2 rfl)
theorem dX12_takesMarks_63 : decode cX12_takesMarks 63 = .ok (.getfield 22, 3) := dk_1180 (dk_g tcX12_takesMarks_5 3 rfl) (dk_g tcX12_takesMarks_5 4 rfl) (dk_g tcX12_takesMarks_5 5 rfl) rfl
theorem dX12_takesMarks_66 : decode cX12_takesMarks 66 = .ok (.iload_n 1, 1) := dk_1027 (dk_g tcX12_takesMarks_5 6 rfl)
theorem dX12_takesMarks_67 : decode cX12_takesMarks 67 = .ok (.aload_n 0, 1) := dk_1042 (dk_g tcX12_takesMarks_5 7 rfl)
theorem dX12_takesMarks_68 : decode cX12_takesMarks 68 = .ok (.getfield 259, 3) := dk_1180 (dk_g tcX12_takesMarks_5 8 rfl) (dk_g tcX12_takesMarks_5 9 rfl) (dk_g tcX12_takesMarks_5 10 rfl) rfl
theorem dX12_takesMarks_71 : decode cX12_takesMarks 71 = .ok (.iastore, 1) := dk_1079 (dk_g tcX12_takesMarks_5 11 rfl)
theorem tcX12_takesMarks_6 : (cX12_takesMarks.data.toList.drop 72).take 12 = [132, 1, 1, 42, 182, 1, 20, 167, 255, 185, 42, 182] := by decide +kernel
theorem dX12_takesMarks_72 : decode cX12_takesMarks 72 = .ok (.iinc 1 1, 3) := dk_1132 (dk_g tcX12_takesMarks_6 0 rfl) (dk_g tcX12_takesMarks_6 1 rfl) (dk_g tcX12_takesMarks_6 2 rfl) rfl (by decide +kernel)
theorem dX12_takesMarks_75 : decode cX12_takesMarks 75 = .ok (.aload_n 0, 1) := dk_1042 (dk_g tcX12_takesMarks_6 3 rfl)
theorem dX12_takesMarks_76 : decode cX12_takesMarks 76 = .ok (.invokevirtual 276, 3) := dk_1182 (dk_g tcX12_takesMarks_6 4 rfl) (dk_g tcX12_takesMarks_6 5 rfl) (dk_g tcX12_takesMarks_6 6 rfl) rfl
theorem dX12_takesMarks_79 : decode cX12_takesMarks 79 = .ok (.goto (-71), 3) := dk_1167 (dk_g tcX12_takesMarks_6 7 rfl) (dk_g tcX12_takesMarks_6 8 rfl) (dk_g tcX12_takesMarks_6 9 rfl) (by decide +kernel)
theorem dX12_takesMarks_82 : decode cX12_takesMarks 82 = .ok (.aload_n 0, 1) := dk_1042 (dk_g tcX12_takesMarks_6 10 rfl)
theorem tcX12_takesMarks_7 : (cX12_takesMarks.data.toList.drop 84).take 12 = [1, 29, 27, 172] := by decide +kernel
theorem dX12_takesMarks_83 : decode cX12_takesMarks 83 = .ok (.invokevirtual 285, 3) := dk_1182 (dk_g tcX12_takesMarks_6 11 rfl) (dk_g tcX12_takesMarks_7 0 rfl) (dk_g tcX12_takesMarks_7 1 rfl) rfl
theorem dX12_takesMarks_86 : decode cX12_takesMarks 86 = .ok (.iload_n 1, 1) := dk_1027 (dk_g tcX12_takesMarks_7 2 rfl)
theorem dX12_takesMarks_87 : decode cX12_takesMarks 87 = .ok (.ireturn, 1) := dk_1172 (dk_g tcX12_takesMarks_7 3 rfl)
theorem tcX12_statementIn_0 : (cX12_statementIn.data.toList.drop 0).take 12 = [42, 182, 1, 20, 42, 3, 19, 1, 68, 182, 1, 23] := by decide +kernel
theorem dX12_statementIn_0 : decode cX12_statementIn 0 = .ok (.aload_n 0, 1) := dk_1042 (dk_g tcX12_statementIn_0 0 rfl)
theorem dX12_statementIn_1 : decode cX12_statementIn 1 = .ok (.invokevirtual 276, 3) := dk_1182 (dk_g tcX12_statementIn_0 1 rfl) (dk_g tcX12_statementIn_0 2 rfl) (dk_g tcX12_statementIn_0 3 rfl) rfl
theorem dX12_statementIn_4 : decode cX12_statementIn 4 = .ok (.aload_n 0, 1) := dk_1042 (dk_g tcX12_statementIn_0 4 rfl)
theorem dX12_statementIn_5 : decode cX12_statementIn 5 = .ok (.iconst 0, 1) := dk_1003 (dk_g tcX12_statementIn_0 5 rfl)
theorem dX12_statementIn_6 : decode cX12_statementIn 6 = .ok (.ldc_w 324, 3) := dk_1019 (dk_g tcX12_statementIn_0 6 rfl) (dk_g tcX12_statementIn_0 7 rfl) (dk_g tcX12_statementIn_0 8 rfl) rfl
theorem dX12_statementIn_9 : decode cX12_statementIn 9 = .ok (.invokevirtual 279, 3) := dk_1182 (dk_g tcX12_statementIn_0 9 rfl) (dk_g tcX12_statementIn_0 10 rfl) (dk_g tcX12_statementIn_0 11 rfl) rfl
theorem tcX12_statementIn_1 : (cX12_statementIn.data.toList.drop 12).take 12 = [60, 42, 16, 8, 182, 1, 47, 42, 27, 4, 96, 19] := by decide +kernel
theorem dX12_statementIn_12 : decode cX12_statementIn 12 = .ok (.istore_n 1, 1) := dk_1060 (dk_g tcX12_statementIn_1 0 rfl)
theorem dX12_statementIn_13 : decode cX12_statementIn 13 = .ok (.aload_n 0, 1) := dk_1042 (dk_g tcX12_statementIn_1 1 rfl)
theorem dX12_statementIn_14 : decode cX12_statementIn 14 = .ok (.bipush 8, 2) := dk_1016 (dk_g tcX12_statementIn_1 2 rfl) (dk_g tcX12_statementIn_1 3 rfl) (by decide +kernel)
theorem dX12_statementIn_16 : decode cX12_statementIn 16 = .ok (.invokevirtual 303, 3) := dk_1182 (dk_g tcX12_statementIn_1 4 rfl) (dk_g tcX12_statementIn_1 5 rfl) (dk_g tcX12_statementIn_1 6 rfl) rfl
theorem dX12_statementIn_19 : decode cX12_statementIn 19 = .ok (.aload_n 0, 1) := dk_1042 (dk_g tcX12_statementIn_1 7 rfl)
theorem dX12_statementIn_20 : decode cX12_statementIn 20 = .ok (.iload_n 1, 1) := dk_1027 (dk_g tcX12_statementIn_1 8 rfl)
theorem dX12_statementIn_21 : decode cX12_statementIn 21 = .ok (.iconst 1, 1) := dk_1004 (dk_g tcX12_statementIn_1 9 rfl)
theorem dX12_statementIn_22 : decode cX12_statementIn 22 = .ok (.iadd, 1) := dk_1096 (dk_g tcX12_statementIn_1 10 rfl)
theorem tcX12_statementIn_2 : (cX12_statementIn.data.toList.drop 24).take 12 = [1, 68, 182, 1, 23, 61, 42, 16, 9, 182, 1, 47] := by decide +kernel
theorem dX12_statementIn_23 : decode cX12_statementIn 23 = .ok (.ldc_w 324, 3) := dk_1019 (dk_g tcX12_statementIn_1 11 rfl) (dk_g tcX12_statementIn_2 0 rfl) (dk_g tcX12_statementIn_2 1 rfl) rfl
theorem dX12_statementIn_26 : decode cX12_statementIn 26 = .ok (.invokevirtual 279, 3) := dk_1182 (dk_g tcX12_statementIn_2 2 rfl) (dk_g tcX12_statementIn_2 3 rfl) (dk_g tcX12_statementIn_2 4 rfl) rfl
theorem dX12_statementIn_29 : decode cX12_statementIn 29 = .ok (.istore_n 2, 1) := dk_1061 (dk_g tcX12_statementIn_2 5 rfl)
theorem dX12_statementIn_30 : decode cX12_statementIn 30 = .ok (.aload_n 0, 1) := dk_1042 (dk_g tcX12_statementIn_2 6 rfl)
theorem dX12_statementIn_31 : decode cX12_statementIn 31 = .ok (.bipush 9, 2) := dk_1016 (dk_g tcX12_statementIn_2 7 rfl) (dk_g tcX12_statementIn_2 8 rfl) (by decide +kernel)
theorem dX12_statementIn_33 : decode cX12_statementIn 33 = .ok (.invokevirtual 303, 3) := dk_1182 (dk_g tcX12_statementIn_2 9 rfl) (dk_g tcX12_statementIn_2 10 rfl) (dk_g tcX12_statementIn_2 11 rfl) rfl
theorem tcX12_statementIn_3 : (cX12_statementIn.data.toList.drop 36).take 12 = [42, 182, 1, 69, 62, 42, 16, 10, 182, 1, 47, 42] := by decide +kernel
theorem dX12_statementIn_36 : decode cX12_statementIn 36 = .ok (.aload_n 0, 1) := dk_1042 (dk_g tcX12_statementIn_3 0 rfl)
theorem dX12_statementIn_37 : decode cX12_statementIn 37 = .ok (.invokevirtual 325, 3) := dk_1182 (dk_g tcX12_statementIn_3 1 rfl) (dk_g tcX12_statementIn_3 2 rfl) (dk_g tcX12_statementIn_3 3 rfl) rfl
theorem dX12_statementIn_40 : decode cX12_statementIn 40 = .ok (.istore_n 3, 1) := dk_1062 (dk_g tcX12_statementIn_3 4 rfl)
theorem dX12_statementIn_41 : decode cX12_statementIn 41 = .ok (.aload_n 0, 1) := dk_1042 (dk_g tcX12_statementIn_3 5 rfl)
theorem dX12_statementIn_42 : decode cX12_statementIn 42 = .ok (.bipush 10, 2) := dk_1016 (dk_g tcX12_statementIn_3 6 rfl) (dk_g tcX12_statementIn_3 7 rfl) (by decide +kernel)
theorem dX12_statementIn_44 : decode cX12_statementIn 44 = .ok (.invokevirtual 303, 3) := dk_1182 (dk_g tcX12_statementIn_3 8 rfl) (dk_g tcX12_statementIn_3 9 rfl) (dk_g tcX12_statementIn_3 10 rfl) rfl
theorem dX12_statementIn_47 : decode cX12_statementIn 47 = .ok (.aload_n 0, 1) := dk_1042 (dk_g tcX12_statementIn_3 11 rfl)
theorem tcX12_statementIn_4 : (cX12_statementIn.data.toList.drop 48).take 12 = [182, 1, 69, 54, 4, 42, 182, 1, 73, 54, 5, 42] := by decide +kernel
theorem dX12_statementIn_48 : decode cX12_statementIn 48 = .ok (.invokevirtual 325, 3) := dk_1182 (dk_g tcX12_statementIn_4 0 rfl) (dk_g tcX12_statementIn_4 1 rfl) (dk_g tcX12_statementIn_4 2 rfl) rfl
theorem dX12_statementIn_51 : decode cX12_statementIn 51 = .ok (.istore 4, 2) := dk_1054 (dk_g tcX12_statementIn_4 3 rfl) (dk_g tcX12_statementIn_4 4 rfl) rfl
theorem dX12_statementIn_53 : decode cX12_statementIn 53 = .ok (.aload_n 0, 1) := dk_1042 (dk_g tcX12_statementIn_4 5 rfl)
theorem dX12_statementIn_54 : decode cX12_statementIn 54 = .ok (.invokevirtual 329, 3) := dk_1182 (dk_g tcX12_statementIn_4 6 rfl) (dk_g tcX12_statementIn_4 7 rfl) (dk_g tcX12_statementIn_4 8 rfl) rfl
theorem dX12_statementIn_57 : decode cX12_statementIn 57 = .ok (.istore 5, 2) := dk_1054 (dk_g tcX12_statementIn_4 9 rfl) (dk_g tcX12_statementIn_4 10 rfl) rfl
theorem dX12_statementIn_59 : decode cX12_statementIn 59 = .ok (.aload_n 0, 1) := dk_1042 (dk_g tcX12_statementIn_4 11 rfl)
theorem tcX12_statementIn_5 : (cX12_statementIn.data.toList.drop 60).take 12 = [180, 1, 6, 158, 0, 7, 3, 167, 0, 14, 42, 21] := by decide +kernel
theorem dX12_statementIn_60 : decode cX12_statementIn 60 = .ok (.getfield 262, 3) := dk_1180 (dk_g tcX12_statementIn_5 0 rfl) (dk_g tcX12_statementIn_5 1 rfl) (dk_g tcX12_statementIn_5 2 rfl) rfl
theorem dX12_statementIn_63 : decode cX12_statementIn 63 = .ok (.ifCond .le 7, 3) := dk_2158 (dk_g tcX12_statementIn_5 3 rfl) (dk_g tcX12_statementIn_5 4 rfl) (dk_g tcX12_statementIn_5 5 rfl) rfl rfl
theorem dX12_statementIn_66 : decode cX12_statementIn 66 = .ok (.iconst 0, 1) := dk_1003 (dk_g tcX12_statementIn_5 6 rfl)
theorem dX12_statementIn_67 : decode cX12_statementIn 67 = .ok (.goto 14, 3) := dk_2167 (dk_g tcX12_statementIn_5 7 rfl) (dk_g tcX12_statementIn_5 8 rfl) (dk_g tcX12_statementIn_5 9 rfl) rfl rfl
theorem dX12_statementIn_70 : decode cX12_statementIn 70 = .ok (.aload_n 0, 1) := dk_1042 (dk_g tcX12_statementIn_5 10 rfl)
theorem tcX12_statementIn_6 : (cX12_statementIn.data.toList.drop 72).take 12 = [5, 29, 27, 28, 21, 4, 182, 1, 76, 172] := by decide +kernel
theorem dX12_statementIn_71 : decode cX12_statementIn 71 = .ok (.iload 5, 2) := dk_1021 (dk_g tcX12_statementIn_5 11 rfl) (dk_g tcX12_statementIn_6 0 rfl) rfl
theorem dX12_statementIn_73 : decode cX12_statementIn 73 = .ok (.iload_n 3, 1) := dk_1029 (dk_g tcX12_statementIn_6 1 rfl)
theorem dX12_statementIn_74 : decode cX12_statementIn 74 = .ok (.iload_n 1, 1) := dk_1027 (dk_g tcX12_statementIn_6 2 rfl)
theorem dX12_statementIn_75 : decode cX12_statementIn 75 = .ok (.iload_n 2, 1) := dk_1028 (dk_g tcX12_statementIn_6 3 rfl)
theorem dX12_statementIn_76 : decode cX12_statementIn 76 = .ok (.iload 4, 2) := dk_1021 (dk_g tcX12_statementIn_6 4 rfl) (dk_g tcX12_statementIn_6 5 rfl) rfl
theorem dX12_statementIn_78 : decode cX12_statementIn 78 = .ok (.invokevirtual 332, 3) := dk_1182 (dk_g tcX12_statementIn_6 6 rfl) (dk_g tcX12_statementIn_6 7 rfl) (dk_g tcX12_statementIn_6 8 rfl) rfl
theorem dX12_statementIn_81 : decode cX12_statementIn 81 = .ok (.ireturn, 1) := dk_1172 (dk_g tcX12_statementIn_6 9 rfl)
theorem tcX12_statementGrow_0 : (cX12_statementGrow.data.toList.drop 0).take 12 = [42, 16, 7, 182, 1, 47, 42, 3, 19, 1, 68, 182] := by decide +kernel
theorem dX12_statementGrow_0 : decode cX12_statementGrow 0 = .ok (.aload_n 0, 1) := dk_1042 (dk_g tcX12_statementGrow_0 0 rfl)
theorem dX12_statementGrow_1 : decode cX12_statementGrow 1 = .ok (.bipush 7, 2) := dk_1016 (dk_g tcX12_statementGrow_0 1 rfl) (dk_g tcX12_statementGrow_0 2 rfl) (by decide +kernel)
theorem dX12_statementGrow_3 : decode cX12_statementGrow 3 = .ok (.invokevirtual 303, 3) := dk_1182 (dk_g tcX12_statementGrow_0 3 rfl) (dk_g tcX12_statementGrow_0 4 rfl) (dk_g tcX12_statementGrow_0 5 rfl) rfl
theorem dX12_statementGrow_6 : decode cX12_statementGrow 6 = .ok (.aload_n 0, 1) := dk_1042 (dk_g tcX12_statementGrow_0 6 rfl)
theorem dX12_statementGrow_7 : decode cX12_statementGrow 7 = .ok (.iconst 0, 1) := dk_1003 (dk_g tcX12_statementGrow_0 7 rfl)
theorem dX12_statementGrow_8 : decode cX12_statementGrow 8 = .ok (.ldc_w 324, 3) := dk_1019 (dk_g tcX12_statementGrow_0 8 rfl) (dk_g tcX12_statementGrow_0 9 rfl) (dk_g tcX12_statementGrow_0 10 rfl) rfl
theorem tcX12_statementGrow_1 : (cX12_statementGrow.data.toList.drop 12).take 12 = [1, 23, 60, 42, 16, 9, 182, 1, 47, 42, 182, 1] := by decide +kernel
theorem dX12_statementGrow_11 : decode cX12_statementGrow 11 = .ok (.invokevirtual 279, 3) := dk_1182 (dk_g tcX12_statementGrow_0 11 rfl) (dk_g tcX12_statementGrow_1 0 rfl) (dk_g tcX12_statementGrow_1 1 rfl) rfl
theorem dX12_statementGrow_14 : decode cX12_statementGrow 14 = .ok (.istore_n 1, 1) := dk_1060 (dk_g tcX12_statementGrow_1 2 rfl)
theorem dX12_statementGrow_15 : decode cX12_statementGrow 15 = .ok (.aload_n 0, 1) := dk_1042 (dk_g tcX12_statementGrow_1 3 rfl)
theorem dX12_statementGrow_16 : decode cX12_statementGrow 16 = .ok (.bipush 9, 2) := dk_1016 (dk_g tcX12_statementGrow_1 4 rfl) (dk_g tcX12_statementGrow_1 5 rfl) (by decide +kernel)
theorem dX12_statementGrow_18 : decode cX12_statementGrow 18 = .ok (.invokevirtual 303, 3) := dk_1182 (dk_g tcX12_statementGrow_1 6 rfl) (dk_g tcX12_statementGrow_1 7 rfl) (dk_g tcX12_statementGrow_1 8 rfl) rfl
theorem dX12_statementGrow_21 : decode cX12_statementGrow 21 = .ok (.aload_n 0, 1) := dk_1042 (dk_g tcX12_statementGrow_1 9 rfl)
theorem tcX12_statementGrow_2 : (cX12_statementGrow.data.toList.drop 24).take 12 = [69, 61, 42, 5, 182, 1, 47, 42, 27, 19, 1, 68] := by decide +kernel
theorem dX12_statementGrow_22 : decode cX12_statementGrow 22 = .ok (.invokevirtual 325, 3) := dk_1182 (dk_g tcX12_statementGrow_1 10 rfl) (dk_g tcX12_statementGrow_1 11 rfl) (dk_g tcX12_statementGrow_2 0 rfl) rfl
theorem dX12_statementGrow_25 : decode cX12_statementGrow 25 = .ok (.istore_n 2, 1) := dk_1061 (dk_g tcX12_statementGrow_2 1 rfl)
theorem dX12_statementGrow_26 : decode cX12_statementGrow 26 = .ok (.aload_n 0, 1) := dk_1042 (dk_g tcX12_statementGrow_2 2 rfl)
theorem dX12_statementGrow_27 : decode cX12_statementGrow 27 = .ok (.iconst 2, 1) := dk_1005 (dk_g tcX12_statementGrow_2 3 rfl)
theorem dX12_statementGrow_28 : decode cX12_statementGrow 28 = .ok (.invokevirtual 303, 3) := dk_1182 (dk_g tcX12_statementGrow_2 4 rfl) (dk_g tcX12_statementGrow_2 5 rfl) (dk_g tcX12_statementGrow_2 6 rfl) rfl
theorem dX12_statementGrow_31 : decode cX12_statementGrow 31 = .ok (.aload_n 0, 1) := dk_1042 (dk_g tcX12_statementGrow_2 7 rfl)
theorem dX12_statementGrow_32 : decode cX12_statementGrow 32 = .ok (.iload_n 1, 1) := dk_1027 (dk_g tcX12_statementGrow_2 8 rfl)
theorem dX12_statementGrow_33 : decode cX12_statementGrow 33 = .ok (.ldc_w 324, 3) := dk_1019 (dk_g tcX12_statementGrow_2 9 rfl) (dk_g tcX12_statementGrow_2 10 rfl) (dk_g tcX12_statementGrow_2 11 rfl) rfl
theorem tcX12_statementGrow_3 : (cX12_statementGrow.data.toList.drop 36).take 12 = [182, 1, 23, 62, 42, 16, 10, 182, 1, 47, 42, 182] := by decide +kernel
theorem dX12_statementGrow_36 : decode cX12_statementGrow 36 = .ok (.invokevirtual 279, 3) := dk_1182 (dk_g tcX12_statementGrow_3 0 rfl) (dk_g tcX12_statementGrow_3 1 rfl) (dk_g tcX12_statementGrow_3 2 rfl) rfl
theorem dX12_statementGrow_39 : decode cX12_statementGrow 39 = .ok (.istore_n 3, 1) := dk_1062 (dk_g tcX12_statementGrow_3 3 rfl)
theorem dX12_statementGrow_40 : decode cX12_statementGrow 40 = .ok (.aload_n 0, 1) := dk_1042 (dk_g tcX12_statementGrow_3 4 rfl)
theorem dX12_statementGrow_41 : decode cX12_statementGrow 41 = .ok (.bipush 10, 2) := dk_1016 (dk_g tcX12_statementGrow_3 5 rfl) (dk_g tcX12_statementGrow_3 6 rfl) (by decide +kernel)
theorem dX12_statementGrow_43 : decode cX12_statementGrow 43 = .ok (.invokevirtual 303, 3) := dk_1182 (dk_g tcX12_statementGrow_3 7 rfl) (dk_g tcX12_statementGrow_3 8 rfl) (dk_g tcX12_statementGrow_3 9 rfl) rfl
theorem dX12_statementGrow_46 : decode cX12_statementGrow 46 = .ok (.aload_n 0, 1) := dk_1042 (dk_g tcX12_statementGrow_3 10 rfl)
theorem tcX12_statementGrow_4 : (cX12_statementGrow.data.toList.drop 48).take 12 = [1, 69, 54, 4, 42, 182, 1, 73, 54, 5, 42, 180] := by decide +kernel
theorem dX12_statementGrow_47 : decode cX12_statementGrow 47 = .ok (.invokevirtual 325, 3) := dk_1182 (dk_g tcX12_statementGrow_3 11 rfl) (dk_g tcX12_statementGrow_4 0 rfl) (dk_g tcX12_statementGrow_4 1 rfl) rfl
theorem dX12_statementGrow_50 : decode cX12_statementGrow 50 = .ok (.istore 4, 2) := dk_1054 (dk_g tcX12_statementGrow_4 2 rfl) (dk_g tcX12_statementGrow_4 3 rfl) rfl
theorem dX12_statementGrow_52 : decode cX12_statementGrow 52 = .ok (.aload_n 0, 1) := dk_1042 (dk_g tcX12_statementGrow_4 4 rfl)
theorem dX12_statementGrow_53 : decode cX12_statementGrow 53 = .ok (.invokevirtual 329, 3) := dk_1182 (dk_g tcX12_statementGrow_4 5 rfl) (dk_g tcX12_statementGrow_4 6 rfl) (dk_g tcX12_statementGrow_4 7 rfl) rfl
theorem dX12_statementGrow_56 : decode cX12_statementGrow 56 = .ok (.istore 5, 2) := dk_1054 (dk_g tcX12_statementGrow_4 8 rfl) (dk_g tcX12_statementGrow_4 9 rfl) rfl
theorem dX12_statementGrow_58 : decode cX12_statementGrow 58 = .ok (.aload_n 0, 1) := dk_1042 (dk_g tcX12_statementGrow_4 10 rfl)
theorem tcX12_statementGrow_5 : (cX12_statementGrow.data.toList.drop 60).take 12 = [1, 6, 158, 0, 7, 3, 167, 0, 14, 42, 21, 5] := by decide +kernel
theorem dX12_statementGrow_59 : decode cX12_statementGrow 59 = .ok (.getfield 262, 3) := dk_1180 (dk_g tcX12_statementGrow_4 11 rfl) (dk_g tcX12_statementGrow_5 0 rfl) (dk_g tcX12_statementGrow_5 1 rfl) rfl
theorem dX12_statementGrow_62 : decode cX12_statementGrow 62 = .ok (.ifCond .le 7, 3) := dk_2158 (dk_g tcX12_statementGrow_5 2 rfl) (dk_g tcX12_statementGrow_5 3 rfl) (dk_g tcX12_statementGrow_5 4 rfl) rfl rfl
theorem dX12_statementGrow_65 : decode cX12_statementGrow 65 = .ok (.iconst 0, 1) := dk_1003 (dk_g tcX12_statementGrow_5 5 rfl)
theorem dX12_statementGrow_66 : decode cX12_statementGrow 66 = .ok (.goto 14, 3) := dk_2167 (dk_g tcX12_statementGrow_5 6 rfl) (dk_g tcX12_statementGrow_5 7 rfl) (dk_g tcX12_statementGrow_5 8 rfl) rfl rfl
theorem dX12_statementGrow_69 : decode cX12_statementGrow 69 = .ok (.aload_n 0, 1) := dk_1042 (dk_g tcX12_statementGrow_5 9 rfl)
theorem dX12_statementGrow_70 : decode cX12_statementGrow 70 = .ok (.iload 5, 2) := dk_1021 (dk_g tcX12_statementGrow_5 10 rfl) (dk_g tcX12_statementGrow_5 11 rfl) rfl
theorem tcX12_statementGrow_6 : (cX12_statementGrow.data.toList.drop 72).take 12 = [27, 28, 29, 21, 4, 182, 0, 199, 172] := by decide +kernel
theorem dX12_statementGrow_72 : decode cX12_statementGrow 72 = .ok (.iload_n 1, 1) := dk_1027 (dk_g tcX12_statementGrow_6 0 rfl)
theorem dX12_statementGrow_73 : decode cX12_statementGrow 73 = .ok (.iload_n 2, 1) := dk_1028 (dk_g tcX12_statementGrow_6 1 rfl)
theorem dX12_statementGrow_74 : decode cX12_statementGrow 74 = .ok (.iload_n 3, 1) := dk_1029 (dk_g tcX12_statementGrow_6 2 rfl)
theorem dX12_statementGrow_75 : decode cX12_statementGrow 75 = .ok (.iload 4, 2) := dk_1021 (dk_g tcX12_statementGrow_6 3 rfl) (dk_g tcX12_statementGrow_6 4 rfl) rfl
theorem dX12_statementGrow_77 : decode cX12_statementGrow 77 = .ok (.invokevirtual 199, 3) := dk_1182 (dk_g tcX12_statementGrow_6 5 rfl) (dk_g tcX12_statementGrow_6 6 rfl) (dk_g tcX12_statementGrow_6 7 rfl) rfl
theorem dX12_statementGrow_80 : decode cX12_statementGrow 80 = .ok (.ireturn, 1) := dk_1172 (dk_g tcX12_statementGrow_6 8 rfl)
theorem tcX12_hear_0 : (cX12_hear.data.toList.drop 0).take 12 = [42, 27, 3, 42, 180, 0, 230, 184, 0, 113, 153, 0] := by decide +kernel
theorem dX12_hear_0 : decode cX12_hear 0 = .ok (.aload_n 0, 1) := dk_1042 (dk_g tcX12_hear_0 0 rfl)
theorem dX12_hear_1 : decode cX12_hear 1 = .ok (.iload_n 1, 1) := dk_1027 (dk_g tcX12_hear_0 1 rfl)
theorem dX12_hear_2 : decode cX12_hear 2 = .ok (.iconst 0, 1) := dk_1003 (dk_g tcX12_hear_0 2 rfl)
theorem dX12_hear_3 : decode cX12_hear 3 = .ok (.aload_n 0, 1) := dk_1042 (dk_g tcX12_hear_0 3 rfl)
theorem dX12_hear_4 : decode cX12_hear 4 = .ok (.getfield 230, 3) := dk_1180 (dk_g tcX12_hear_0 4 rfl) (dk_g tcX12_hear_0 5 rfl) (dk_g tcX12_hear_0 6 rfl) rfl
theorem dX12_hear_7 : decode cX12_hear 7 = .ok (.invokestatic 113, 3) := dk_1184 (dk_g tcX12_hear_0 7 rfl) (dk_g tcX12_hear_0 8 rfl) (dk_g tcX12_hear_0 9 rfl) rfl
theorem tcX12_hear_1 : (cX12_hear.data.toList.drop 12).take 12 = [7, 3, 167, 0, 4, 4, 182, 1, 53, 154, 0, 5] := by decide +kernel
theorem dX12_hear_10 : decode cX12_hear 10 = .ok (.ifCond .eq 7, 3) := dk_2153 (dk_g tcX12_hear_0 10 rfl) (dk_g tcX12_hear_0 11 rfl) (dk_g tcX12_hear_1 0 rfl) rfl rfl
theorem dX12_hear_13 : decode cX12_hear 13 = .ok (.iconst 0, 1) := dk_1003 (dk_g tcX12_hear_1 1 rfl)
theorem dX12_hear_14 : decode cX12_hear 14 = .ok (.goto 4, 3) := dk_2167 (dk_g tcX12_hear_1 2 rfl) (dk_g tcX12_hear_1 3 rfl) (dk_g tcX12_hear_1 4 rfl) rfl rfl
theorem dX12_hear_17 : decode cX12_hear 17 = .ok (.iconst 1, 1) := dk_1004 (dk_g tcX12_hear_1 5 rfl)
theorem dX12_hear_18 : decode cX12_hear 18 = .ok (.invokevirtual 309, 3) := dk_1182 (dk_g tcX12_hear_1 6 rfl) (dk_g tcX12_hear_1 7 rfl) (dk_g tcX12_hear_1 8 rfl) rfl
theorem dX12_hear_21 : decode cX12_hear 21 = .ok (.ifCond .ne 5, 3) := dk_2154 (dk_g tcX12_hear_1 9 rfl) (dk_g tcX12_hear_1 10 rfl) (dk_g tcX12_hear_1 11 rfl) rfl rfl
theorem tcX12_hear_2 : (cX12_hear.data.toList.drop 24).take 12 = [2, 172, 42, 27, 182, 1, 56, 3, 61, 3, 62, 42] := by decide +kernel
theorem dX12_hear_24 : decode cX12_hear 24 = .ok (.iconst (-1), 1) := dk_1002 (dk_g tcX12_hear_2 0 rfl)
theorem dX12_hear_25 : decode cX12_hear 25 = .ok (.ireturn, 1) := dk_1172 (dk_g tcX12_hear_2 1 rfl)
theorem dX12_hear_26 : decode cX12_hear 26 = .ok (.aload_n 0, 1) := dk_1042 (dk_g tcX12_hear_2 2 rfl)
theorem dX12_hear_27 : decode cX12_hear 27 = .ok (.iload_n 1, 1) := dk_1027 (dk_g tcX12_hear_2 3 rfl)
theorem dX12_hear_28 : decode cX12_hear 28 = .ok (.invokevirtual 312, 3) := dk_1182 (dk_g tcX12_hear_2 4 rfl) (dk_g tcX12_hear_2 5 rfl) (dk_g tcX12_hear_2 6 rfl) rfl
theorem dX12_hear_31 : decode cX12_hear 31 = .ok (.iconst 0, 1) := dk_1003 (dk_g tcX12_hear_2 7 rfl)
theorem dX12_hear_32 : decode cX12_hear 32 = .ok (.istore_n 2, 1) := dk_1061 (dk_g tcX12_hear_2 8 rfl)
theorem dX12_hear_33 : decode cX12_hear 33 = .ok (.iconst 0, 1) := dk_1003 (dk_g tcX12_hear_2 9 rfl)
theorem dX12_hear_34 : decode cX12_hear 34 = .ok (.istore_n 3, 1) := dk_1062 (dk_g tcX12_hear_2 10 rfl)
theorem dX12_hear_35 : decode cX12_hear 35 = .ok (.aload_n 0, 1) := dk_1042 (dk_g tcX12_hear_2 11 rfl)
theorem tcX12_hear_3 : (cX12_hear.data.toList.drop 36).take 12 = [180, 1, 6, 154, 0, 114, 42, 180, 0, 245, 153, 0] := by decide +kernel
theorem dX12_hear_36 : decode cX12_hear 36 = .ok (.getfield 262, 3) := dk_1180 (dk_g tcX12_hear_3 0 rfl) (dk_g tcX12_hear_3 1 rfl) (dk_g tcX12_hear_3 2 rfl) rfl
theorem dX12_hear_39 : decode cX12_hear 39 = .ok (.ifCond .ne 114, 3) := dk_2154 (dk_g tcX12_hear_3 3 rfl) (dk_g tcX12_hear_3 4 rfl) (dk_g tcX12_hear_3 5 rfl) rfl rfl
theorem dX12_hear_42 : decode cX12_hear 42 = .ok (.aload_n 0, 1) := dk_1042 (dk_g tcX12_hear_3 6 rfl)
theorem dX12_hear_43 : decode cX12_hear 43 = .ok (.getfield 245, 3) := dk_1180 (dk_g tcX12_hear_3 7 rfl) (dk_g tcX12_hear_3 8 rfl) (dk_g tcX12_hear_3 9 rfl) rfl
theorem tcX12_hear_4 : (cX12_hear.data.toList.drop 48).take 12 = [107, 42, 42, 16, 6, 182, 1, 12, 154, 0, 12, 42] := by decide +kernel
theorem dX12_hear_46 : decode cX12_hear 46 = .ok (.ifCond .eq 107, 3) := dk_2153 (dk_g tcX12_hear_3 10 rfl) (dk_g tcX12_hear_3 11 rfl) (dk_g tcX12_hear_4 0 rfl) rfl rfl
theorem dX12_hear_49 : decode cX12_hear 49 = .ok (.aload_n 0, 1) := dk_1042 (dk_g tcX12_hear_4 1 rfl)
theorem dX12_hear_50 : decode cX12_hear 50 = .ok (.aload_n 0, 1) := dk_1042 (dk_g tcX12_hear_4 2 rfl)
theorem dX12_hear_51 : decode cX12_hear 51 = .ok (.bipush 6, 2) := dk_1016 (dk_g tcX12_hear_4 3 rfl) (dk_g tcX12_hear_4 4 rfl) (by decide +kernel)
theorem dX12_hear_53 : decode cX12_hear 53 = .ok (.invokevirtual 268, 3) := dk_1182 (dk_g tcX12_hear_4 5 rfl) (dk_g tcX12_hear_4 6 rfl) (dk_g tcX12_hear_4 7 rfl) rfl
theorem dX12_hear_56 : decode cX12_hear 56 = .ok (.ifCond .ne 12, 3) := dk_2154 (dk_g tcX12_hear_4 8 rfl) (dk_g tcX12_hear_4 9 rfl) (dk_g tcX12_hear_4 10 rfl) rfl rfl
theorem dX12_hear_59 : decode cX12_hear 59 = .ok (.aload_n 0, 1) := dk_1042 (dk_g tcX12_hear_4 11 rfl)
theorem tcX12_hear_5 : (cX12_hear.data.toList.drop 60).take 12 = [16, 7, 182, 1, 12, 153, 0, 7, 4, 167, 0, 4] := by decide +kernel
theorem dX12_hear_60 : decode cX12_hear 60 = .ok (.bipush 7, 2) := dk_1016 (dk_g tcX12_hear_5 0 rfl) (dk_g tcX12_hear_5 1 rfl) (by decide +kernel)
theorem dX12_hear_62 : decode cX12_hear 62 = .ok (.invokevirtual 268, 3) := dk_1182 (dk_g tcX12_hear_5 2 rfl) (dk_g tcX12_hear_5 3 rfl) (dk_g tcX12_hear_5 4 rfl) rfl
theorem dX12_hear_65 : decode cX12_hear 65 = .ok (.ifCond .eq 7, 3) := dk_2153 (dk_g tcX12_hear_5 5 rfl) (dk_g tcX12_hear_5 6 rfl) (dk_g tcX12_hear_5 7 rfl) rfl rfl
theorem dX12_hear_68 : decode cX12_hear 68 = .ok (.iconst 1, 1) := dk_1004 (dk_g tcX12_hear_5 8 rfl)
theorem dX12_hear_69 : decode cX12_hear 69 = .ok (.goto 4, 3) := dk_2167 (dk_g tcX12_hear_5 9 rfl) (dk_g tcX12_hear_5 10 rfl) (dk_g tcX12_hear_5 11 rfl) rfl rfl
theorem tcX12_hear_6 : (cX12_hear.data.toList.drop 72).take 12 = [3, 5, 182, 1, 16, 42, 28, 16, 20, 162, 0, 7] := by decide +kernel
theorem dX12_hear_72 : decode cX12_hear 72 = .ok (.iconst 0, 1) := dk_1003 (dk_g tcX12_hear_6 0 rfl)
theorem dX12_hear_73 : decode cX12_hear 73 = .ok (.iconst 2, 1) := dk_1005 (dk_g tcX12_hear_6 1 rfl)
theorem dX12_hear_74 : decode cX12_hear 74 = .ok (.invokevirtual 272, 3) := dk_1182 (dk_g tcX12_hear_6 2 rfl) (dk_g tcX12_hear_6 3 rfl) (dk_g tcX12_hear_6 4 rfl) rfl
theorem dX12_hear_77 : decode cX12_hear 77 = .ok (.aload_n 0, 1) := dk_1042 (dk_g tcX12_hear_6 5 rfl)
theorem dX12_hear_78 : decode cX12_hear 78 = .ok (.iload_n 2, 1) := dk_1028 (dk_g tcX12_hear_6 6 rfl)
theorem dX12_hear_79 : decode cX12_hear 79 = .ok (.bipush 20, 2) := dk_1016 (dk_g tcX12_hear_6 7 rfl) (dk_g tcX12_hear_6 8 rfl) (by decide +kernel)
theorem dX12_hear_81 : decode cX12_hear 81 = .ok (.if_icmp .ge 7, 3) := dk_2162 (dk_g tcX12_hear_6 9 rfl) (dk_g tcX12_hear_6 10 rfl) (dk_g tcX12_hear_6 11 rfl) rfl rfl
theorem tcX12_hear_7 : (cX12_hear.data.toList.drop 84).take 12 = [4, 167, 0, 4, 3, 16, 6, 182, 1, 16, 42, 180] := by decide +kernel
theorem dX12_hear_84 : decode cX12_hear 84 = .ok (.iconst 1, 1) := dk_1004 (dk_g tcX12_hear_7 0 rfl)
theorem dX12_hear_85 : decode cX12_hear 85 = .ok (.goto 4, 3) := dk_2167 (dk_g tcX12_hear_7 1 rfl) (dk_g tcX12_hear_7 2 rfl) (dk_g tcX12_hear_7 3 rfl) rfl rfl
theorem dX12_hear_88 : decode cX12_hear 88 = .ok (.iconst 0, 1) := dk_1003 (dk_g tcX12_hear_7 4 rfl)
theorem dX12_hear_89 : decode cX12_hear 89 = .ok (.bipush 6, 2) := dk_1016 (dk_g tcX12_hear_7 5 rfl) (dk_g tcX12_hear_7 6 rfl) (by decide +kernel)
theorem dX12_hear_91 : decode cX12_hear 91 = .ok (.invokevirtual 272, 3) := dk_1182 (dk_g tcX12_hear_7 7 rfl) (dk_g tcX12_hear_7 8 rfl) (dk_g tcX12_hear_7 9 rfl) rfl
theorem dX12_hear_94 : decode cX12_hear 94 = .ok (.aload_n 0, 1) := dk_1042 (dk_g tcX12_hear_7 10 rfl)
theorem tcX12_hear_8 : (cX12_hear.data.toList.drop 96).take 12 = [1, 6, 158, 0, 6, 167, 0, 52, 42, 180, 0, 73] := by decide +kernel
theorem dX12_hear_95 : decode cX12_hear 95 = .ok (.getfield 262, 3) := dk_1180 (dk_g tcX12_hear_7 11 rfl) (dk_g tcX12_hear_8 0 rfl) (dk_g tcX12_hear_8 1 rfl) rfl
theorem dX12_hear_98 : decode cX12_hear 98 = .ok (.ifCond .le 6, 3) := dk_2158 (dk_g tcX12_hear_8 2 rfl) (dk_g tcX12_hear_8 3 rfl) (dk_g tcX12_hear_8 4 rfl) rfl rfl
theorem dX12_hear_101 : decode cX12_hear 101 = .ok (.goto 52, 3) := dk_2167 (dk_g tcX12_hear_8 5 rfl) (dk_g tcX12_hear_8 6 rfl) (dk_g tcX12_hear_8 7 rfl) rfl rfl
theorem dX12_hear_104 : decode cX12_hear 104 = .ok (.aload_n 0, 1) := dk_1042 (dk_g tcX12_hear_8 8 rfl)
theorem dX12_hear_105 : decode cX12_hear 105 = .ok (.getfield 73, 3) := dk_1180 (dk_g tcX12_hear_8 9 rfl) (dk_g tcX12_hear_8 10 rfl) (dk_g tcX12_hear_8 11 rfl) rfl
theorem tcX12_hear_9 : (cX12_hear.data.toList.drop 108).take 12 = [28, 42, 16, 6, 182, 1, 12, 153, 0, 10, 42, 182] := by decide +kernel
theorem dX12_hear_108 : decode cX12_hear 108 = .ok (.iload_n 2, 1) := dk_1028 (dk_g tcX12_hear_9 0 rfl)
theorem dX12_hear_109 : decode cX12_hear 109 = .ok (.aload_n 0, 1) := dk_1042 (dk_g tcX12_hear_9 1 rfl)
theorem dX12_hear_110 : decode cX12_hear 110 = .ok (.bipush 6, 2) := dk_1016 (dk_g tcX12_hear_9 2 rfl) (dk_g tcX12_hear_9 3 rfl) (by decide +kernel)
theorem dX12_hear_112 : decode cX12_hear 112 = .ok (.invokevirtual 268, 3) := dk_1182 (dk_g tcX12_hear_9 4 rfl) (dk_g tcX12_hear_9 5 rfl) (dk_g tcX12_hear_9 6 rfl) rfl
theorem dX12_hear_115 : decode cX12_hear 115 = .ok (.ifCond .eq 10, 3) := dk_2153 (dk_g tcX12_hear_9 7 rfl) (dk_g tcX12_hear_9 8 rfl) (dk_g tcX12_hear_9 9 rfl) rfl rfl
theorem dX12_hear_118 : decode cX12_hear 118 = .ok (.aload_n 0, 1) := dk_1042 (dk_g tcX12_hear_9 10 rfl)
theorem tcX12_hear_10 : (cX12_hear.data.toList.drop 120).take 12 = [1, 79, 167, 0, 7, 42, 182, 1, 82, 79, 29, 42] := by decide +kernel
theorem dX12_hear_119 : decode cX12_hear 119 = .ok (.invokevirtual 335, 3) := dk_1182 (dk_g tcX12_hear_9 11 rfl) (dk_g tcX12_hear_10 0 rfl) (dk_g tcX12_hear_10 1 rfl) rfl
theorem dX12_hear_122 : decode cX12_hear 122 = .ok (.goto 7, 3) := dk_2167 (dk_g tcX12_hear_10 2 rfl) (dk_g tcX12_hear_10 3 rfl) (dk_g tcX12_hear_10 4 rfl) rfl rfl
theorem dX12_hear_125 : decode cX12_hear 125 = .ok (.aload_n 0, 1) := dk_1042 (dk_g tcX12_hear_10 5 rfl)
theorem dX12_hear_126 : decode cX12_hear 126 = .ok (.invokevirtual 338, 3) := dk_1182 (dk_g tcX12_hear_10 6 rfl) (dk_g tcX12_hear_10 7 rfl) (dk_g tcX12_hear_10 8 rfl) rfl
theorem dX12_hear_129 : decode cX12_hear 129 = .ok (.iastore, 1) := dk_1079 (dk_g tcX12_hear_10 9 rfl)
theorem dX12_hear_130 : decode cX12_hear 130 = .ok (.iload_n 3, 1) := dk_1029 (dk_g tcX12_hear_10 10 rfl)
theorem dX12_hear_131 : decode cX12_hear 131 = .ok (.aload_n 0, 1) := dk_1042 (dk_g tcX12_hear_10 11 rfl)
theorem tcX12_hear_11 : (cX12_hear.data.toList.drop 132).take 12 = [180, 0, 73, 28, 46, 154, 0, 7, 4, 167, 0, 4] := by decide +kernel
theorem dX12_hear_132 : decode cX12_hear 132 = .ok (.getfield 73, 3) := dk_1180 (dk_g tcX12_hear_11 0 rfl) (dk_g tcX12_hear_11 1 rfl) (dk_g tcX12_hear_11 2 rfl) rfl
theorem dX12_hear_135 : decode cX12_hear 135 = .ok (.iload_n 2, 1) := dk_1028 (dk_g tcX12_hear_11 3 rfl)
theorem dX12_hear_136 : decode cX12_hear 136 = .ok (.iaload, 1) := dk_1046 (dk_g tcX12_hear_11 4 rfl)
theorem dX12_hear_137 : decode cX12_hear 137 = .ok (.ifCond .ne 7, 3) := dk_2154 (dk_g tcX12_hear_11 5 rfl) (dk_g tcX12_hear_11 6 rfl) (dk_g tcX12_hear_11 7 rfl) rfl rfl
theorem dX12_hear_140 : decode cX12_hear 140 = .ok (.iconst 1, 1) := dk_1004 (dk_g tcX12_hear_11 8 rfl)
theorem dX12_hear_141 : decode cX12_hear 141 = .ok (.goto 4, 3) := dk_2167 (dk_g tcX12_hear_11 9 rfl) (dk_g tcX12_hear_11 10 rfl) (dk_g tcX12_hear_11 11 rfl) rfl rfl
theorem tcX12_hear_12 : (cX12_hear.data.toList.drop 144).take 12 = [3, 96, 62, 132, 2, 1, 167, 255, 141, 42, 182, 1] := by decide +kernel
theorem dX12_hear_144 : decode cX12_hear 144 = .ok (.iconst 0, 1) := dk_1003 (dk_g tcX12_hear_12 0 rfl)
theorem dX12_hear_145 : decode cX12_hear 145 = .ok (.iadd, 1) := dk_1096 (dk_g tcX12_hear_12 1 rfl)
theorem dX12_hear_146 : decode cX12_hear 146 = .ok (.istore_n 3, 1) := dk_1062 (dk_g tcX12_hear_12 2 rfl)
theorem dX12_hear_147 : decode cX12_hear 147 = .ok (.iinc 2 1, 3) := dk_1132 (dk_g tcX12_hear_12 3 rfl) (dk_g tcX12_hear_12 4 rfl) (dk_g tcX12_hear_12 5 rfl) rfl (by decide +kernel)
theorem dX12_hear_150 : decode cX12_hear 150 = .ok (.goto (-115), 3) := dk_1167 (dk_g tcX12_hear_12 6 rfl) (dk_g tcX12_hear_12 7 rfl) (dk_g tcX12_hear_12 8 rfl) (by decide +kernel)
theorem dX12_hear_153 : decode cX12_hear 153 = .ok (.aload_n 0, 1) := dk_1042 (dk_g tcX12_hear_12 9 rfl)
theorem tcX12_hear_13 : (cX12_hear.data.toList.drop 156).take 12 = [62, 42, 180, 1, 6, 158, 0, 5, 2, 172, 3, 54] := by decide +kernel
theorem dX12_hear_154 : decode cX12_hear 154 = .ok (.invokevirtual 318, 3) := dk_1182 (dk_g tcX12_hear_12 10 rfl) (dk_g tcX12_hear_12 11 rfl) (dk_g tcX12_hear_13 0 rfl) rfl
theorem dX12_hear_157 : decode cX12_hear 157 = .ok (.aload_n 0, 1) := dk_1042 (dk_g tcX12_hear_13 1 rfl)
theorem dX12_hear_158 : decode cX12_hear 158 = .ok (.getfield 262, 3) := dk_1180 (dk_g tcX12_hear_13 2 rfl) (dk_g tcX12_hear_13 3 rfl) (dk_g tcX12_hear_13 4 rfl) rfl
theorem dX12_hear_161 : decode cX12_hear 161 = .ok (.ifCond .le 5, 3) := dk_2158 (dk_g tcX12_hear_13 5 rfl) (dk_g tcX12_hear_13 6 rfl) (dk_g tcX12_hear_13 7 rfl) rfl rfl
theorem dX12_hear_164 : decode cX12_hear 164 = .ok (.iconst (-1), 1) := dk_1002 (dk_g tcX12_hear_13 8 rfl)
theorem dX12_hear_165 : decode cX12_hear 165 = .ok (.ireturn, 1) := dk_1172 (dk_g tcX12_hear_13 9 rfl)
theorem dX12_hear_166 : decode cX12_hear 166 = .ok (.iconst 0, 1) := dk_1003 (dk_g tcX12_hear_13 10 rfl)
theorem tcX12_hear_14 : (cX12_hear.data.toList.drop 168).take 12 = [4, 21, 4, 28, 162, 0, 23, 42, 180, 0, 70, 21] := by decide +kernel
theorem dX12_hear_167 : decode cX12_hear 167 = .ok (.istore 4, 2) := dk_1054 (dk_g tcX12_hear_13 11 rfl) (dk_g tcX12_hear_14 0 rfl) rfl
theorem dX12_hear_169 : decode cX12_hear 169 = .ok (.iload 4, 2) := dk_1021 (dk_g tcX12_hear_14 1 rfl) (dk_g tcX12_hear_14 2 rfl) rfl
theorem dX12_hear_171 : decode cX12_hear 171 = .ok (.iload_n 2, 1) := dk_1028 (dk_g tcX12_hear_14 3 rfl)
theorem dX12_hear_172 : decode cX12_hear 172 = .ok (.if_icmp .ge 23, 3) := dk_2162 (dk_g tcX12_hear_14 4 rfl) (dk_g tcX12_hear_14 5 rfl) (dk_g tcX12_hear_14 6 rfl) rfl rfl
theorem dX12_hear_175 : decode cX12_hear 175 = .ok (.aload_n 0, 1) := dk_1042 (dk_g tcX12_hear_14 7 rfl)
theorem dX12_hear_176 : decode cX12_hear 176 = .ok (.getfield 70, 3) := dk_1180 (dk_g tcX12_hear_14 8 rfl) (dk_g tcX12_hear_14 9 rfl) (dk_g tcX12_hear_14 10 rfl) rfl
theorem tcX12_hear_15 : (cX12_hear.data.toList.drop 180).take 12 = [4, 42, 180, 0, 73, 21, 4, 46, 79, 132, 4, 1] := by decide +kernel
theorem dX12_hear_179 : decode cX12_hear 179 = .ok (.iload 4, 2) := dk_1021 (dk_g tcX12_hear_14 11 rfl) (dk_g tcX12_hear_15 0 rfl) rfl
theorem dX12_hear_181 : decode cX12_hear 181 = .ok (.aload_n 0, 1) := dk_1042 (dk_g tcX12_hear_15 1 rfl)
theorem dX12_hear_182 : decode cX12_hear 182 = .ok (.getfield 73, 3) := dk_1180 (dk_g tcX12_hear_15 2 rfl) (dk_g tcX12_hear_15 3 rfl) (dk_g tcX12_hear_15 4 rfl) rfl
theorem dX12_hear_185 : decode cX12_hear 185 = .ok (.iload 4, 2) := dk_1021 (dk_g tcX12_hear_15 5 rfl) (dk_g tcX12_hear_15 6 rfl) rfl
theorem dX12_hear_187 : decode cX12_hear 187 = .ok (.iaload, 1) := dk_1046 (dk_g tcX12_hear_15 7 rfl)
theorem dX12_hear_188 : decode cX12_hear 188 = .ok (.iastore, 1) := dk_1079 (dk_g tcX12_hear_15 8 rfl)
theorem dX12_hear_189 : decode cX12_hear 189 = .ok (.iinc 4 1, 3) := dk_1132 (dk_g tcX12_hear_15 9 rfl) (dk_g tcX12_hear_15 10 rfl) (dk_g tcX12_hear_15 11 rfl) rfl (by decide +kernel)
theorem tcX12_hear_16 : (cX12_hear.data.toList.drop 192).take 12 = [167, 255, 233, 42, 28, 181, 1, 85, 29, 172] := by decide +kernel
theorem dX12_hear_192 : decode cX12_hear 192 = .ok (.goto (-23), 3) := dk_1167 (dk_g tcX12_hear_16 0 rfl) (dk_g tcX12_hear_16 1 rfl) (dk_g tcX12_hear_16 2 rfl) (by decide +kernel)
theorem dX12_hear_195 : decode cX12_hear 195 = .ok (.aload_n 0, 1) := dk_1042 (dk_g tcX12_hear_16 3 rfl)
theorem dX12_hear_196 : decode cX12_hear 196 = .ok (.iload_n 2, 1) := dk_1028 (dk_g tcX12_hear_16 4 rfl)
theorem dX12_hear_197 : decode cX12_hear 197 = .ok (.putfield 341, 3) := dk_1181 (dk_g tcX12_hear_16 5 rfl) (dk_g tcX12_hear_16 6 rfl) (dk_g tcX12_hear_16 7 rfl) rfl
theorem dX12_hear_200 : decode cX12_hear 200 = .ok (.iload_n 3, 1) := dk_1029 (dk_g tcX12_hear_16 8 rfl)
theorem dX12_hear_201 : decode cX12_hear 201 = .ok (.ireturn, 1) := dk_1172 (dk_g tcX12_hear_16 9 rfl)
theorem tcX12_heard_0 : (cX12_heard.data.toList.drop 0).take 12 = [42, 27, 156, 0, 7, 4, 167, 0, 16, 27, 42, 180] := by decide +kernel
theorem dX12_heard_0 : decode cX12_heard 0 = .ok (.aload_n 0, 1) := dk_1042 (dk_g tcX12_heard_0 0 rfl)
theorem dX12_heard_1 : decode cX12_heard 1 = .ok (.iload_n 1, 1) := dk_1027 (dk_g tcX12_heard_0 1 rfl)
theorem dX12_heard_2 : decode cX12_heard 2 = .ok (.ifCond .ge 7, 3) := dk_2156 (dk_g tcX12_heard_0 2 rfl) (dk_g tcX12_heard_0 3 rfl) (dk_g tcX12_heard_0 4 rfl) rfl rfl
theorem dX12_heard_5 : decode cX12_heard 5 = .ok (.iconst 1, 1) := dk_1004 (dk_g tcX12_heard_0 5 rfl)
theorem dX12_heard_6 : decode cX12_heard 6 = .ok (.goto 16, 3) := dk_2167 (dk_g tcX12_heard_0 6 rfl) (dk_g tcX12_heard_0 7 rfl) (dk_g tcX12_heard_0 8 rfl) rfl rfl
theorem dX12_heard_9 : decode cX12_heard 9 = .ok (.iload_n 1, 1) := dk_1027 (dk_g tcX12_heard_0 9 rfl)
theorem dX12_heard_10 : decode cX12_heard 10 = .ok (.aload_n 0, 1) := dk_1042 (dk_g tcX12_heard_0 10 rfl)
theorem tcX12_heard_1 : (cX12_heard.data.toList.drop 12).take 12 = [1, 85, 161, 0, 7, 8, 167, 0, 4, 3, 182, 1] := by decide +kernel
theorem dX12_heard_11 : decode cX12_heard 11 = .ok (.getfield 341, 3) := dk_1180 (dk_g tcX12_heard_0 11 rfl) (dk_g tcX12_heard_1 0 rfl) (dk_g tcX12_heard_1 1 rfl) rfl
theorem dX12_heard_14 : decode cX12_heard 14 = .ok (.if_icmp .lt 7, 3) := dk_2161 (dk_g tcX12_heard_1 2 rfl) (dk_g tcX12_heard_1 3 rfl) (dk_g tcX12_heard_1 4 rfl) rfl rfl
theorem dX12_heard_17 : decode cX12_heard 17 = .ok (.iconst 5, 1) := dk_1008 (dk_g tcX12_heard_1 5 rfl)
theorem dX12_heard_18 : decode cX12_heard 18 = .ok (.goto 4, 3) := dk_2167 (dk_g tcX12_heard_1 6 rfl) (dk_g tcX12_heard_1 7 rfl) (dk_g tcX12_heard_1 8 rfl) rfl rfl
theorem dX12_heard_21 : decode cX12_heard 21 = .ok (.iconst 0, 1) := dk_1003 (dk_g tcX12_heard_1 9 rfl)
theorem tcX12_heard_2 : (cX12_heard.data.toList.drop 24).take 12 = [53, 153, 0, 12, 42, 180, 0, 70, 27, 46, 167, 0] := by decide +kernel
theorem dX12_heard_22 : decode cX12_heard 22 = .ok (.invokevirtual 309, 3) := dk_1182 (dk_g tcX12_heard_1 10 rfl) (dk_g tcX12_heard_1 11 rfl) (dk_g tcX12_heard_2 0 rfl) rfl
theorem dX12_heard_25 : decode cX12_heard 25 = .ok (.ifCond .eq 12, 3) := dk_2153 (dk_g tcX12_heard_2 1 rfl) (dk_g tcX12_heard_2 2 rfl) (dk_g tcX12_heard_2 3 rfl) rfl rfl
theorem dX12_heard_28 : decode cX12_heard 28 = .ok (.aload_n 0, 1) := dk_1042 (dk_g tcX12_heard_2 4 rfl)
theorem dX12_heard_29 : decode cX12_heard 29 = .ok (.getfield 70, 3) := dk_1180 (dk_g tcX12_heard_2 5 rfl) (dk_g tcX12_heard_2 6 rfl) (dk_g tcX12_heard_2 7 rfl) rfl
theorem dX12_heard_32 : decode cX12_heard 32 = .ok (.iload_n 1, 1) := dk_1027 (dk_g tcX12_heard_2 8 rfl)
theorem dX12_heard_33 : decode cX12_heard 33 = .ok (.iaload, 1) := dk_1046 (dk_g tcX12_heard_2 9 rfl)
theorem tcX12_heard_3 : (cX12_heard.data.toList.drop 36).take 12 = [4, 2, 172] := by decide +kernel
theorem dX12_heard_34 : decode cX12_heard 34 = .ok (.goto 4, 3) := dk_2167 (dk_g tcX12_heard_2 10 rfl) (dk_g tcX12_heard_2 11 rfl) (dk_g tcX12_heard_3 0 rfl) rfl rfl
theorem dX12_heard_37 : decode cX12_heard 37 = .ok (.iconst (-1), 1) := dk_1002 (dk_g tcX12_heard_3 1 rfl)
theorem dX12_heard_38 : decode cX12_heard 38 = .ok (.ireturn, 1) := dk_1172 (dk_g tcX12_heard_3 2 rfl)
theorem tcX12_fault_0 : (cX12_fault.data.toList.drop 0).take 12 = [42, 3, 181, 0, 106, 27, 154, 0, 10, 42, 180, 0] := by decide +kernel
theorem dX12_fault_0 : decode cX12_fault 0 = .ok (.aload_n 0, 1) := dk_1042 (dk_g tcX12_fault_0 0 rfl)
theorem dX12_fault_1 : decode cX12_fault 1 = .ok (.iconst 0, 1) := dk_1003 (dk_g tcX12_fault_0 1 rfl)
theorem dX12_fault_2 : decode cX12_fault 2 = .ok (.putfield 106, 3) := dk_1181 (dk_g tcX12_fault_0 2 rfl) (dk_g tcX12_fault_0 3 rfl) (dk_g tcX12_fault_0 4 rfl) rfl
theorem dX12_fault_5 : decode cX12_fault 5 = .ok (.iload_n 1, 1) := dk_1027 (dk_g tcX12_fault_0 5 rfl)
theorem dX12_fault_6 : decode cX12_fault 6 = .ok (.ifCond .ne 10, 3) := dk_2154 (dk_g tcX12_fault_0 6 rfl) (dk_g tcX12_fault_0 7 rfl) (dk_g tcX12_fault_0 8 rfl) rfl rfl
theorem dX12_fault_9 : decode cX12_fault 9 = .ok (.aload_n 0, 1) := dk_1042 (dk_g tcX12_fault_0 9 rfl)
theorem tcX12_fault_1 : (cX12_fault.data.toList.drop 12).take 12 = [35, 167, 0, 16, 27, 4, 160, 0, 10, 42, 180, 0] := by decide +kernel
theorem dX12_fault_10 : decode cX12_fault 10 = .ok (.getfield 35, 3) := dk_1180 (dk_g tcX12_fault_0 10 rfl) (dk_g tcX12_fault_0 11 rfl) (dk_g tcX12_fault_1 0 rfl) rfl
theorem dX12_fault_13 : decode cX12_fault 13 = .ok (.goto 16, 3) := dk_2167 (dk_g tcX12_fault_1 1 rfl) (dk_g tcX12_fault_1 2 rfl) (dk_g tcX12_fault_1 3 rfl) rfl rfl
theorem dX12_fault_16 : decode cX12_fault 16 = .ok (.iload_n 1, 1) := dk_1027 (dk_g tcX12_fault_1 4 rfl)
theorem dX12_fault_17 : decode cX12_fault 17 = .ok (.iconst 1, 1) := dk_1004 (dk_g tcX12_fault_1 5 rfl)
theorem dX12_fault_18 : decode cX12_fault 18 = .ok (.if_icmp .ne 10, 3) := dk_2160 (dk_g tcX12_fault_1 6 rfl) (dk_g tcX12_fault_1 7 rfl) (dk_g tcX12_fault_1 8 rfl) rfl rfl
theorem dX12_fault_21 : decode cX12_fault 21 = .ok (.aload_n 0, 1) := dk_1042 (dk_g tcX12_fault_1 9 rfl)
theorem tcX12_fault_2 : (cX12_fault.data.toList.drop 24).take 12 = [39, 167, 0, 4, 2, 172] := by decide +kernel
theorem dX12_fault_22 : decode cX12_fault 22 = .ok (.getfield 39, 3) := dk_1180 (dk_g tcX12_fault_1 10 rfl) (dk_g tcX12_fault_1 11 rfl) (dk_g tcX12_fault_2 0 rfl) rfl
theorem dX12_fault_25 : decode cX12_fault 25 = .ok (.goto 4, 3) := dk_2167 (dk_g tcX12_fault_2 1 rfl) (dk_g tcX12_fault_2 2 rfl) (dk_g tcX12_fault_2 3 rfl) rfl rfl
theorem dX12_fault_28 : decode cX12_fault 28 = .ok (.iconst (-1), 1) := dk_1002 (dk_g tcX12_fault_2 4 rfl)
theorem dX12_fault_29 : decode cX12_fault 29 = .ok (.ireturn, 1) := dk_1172 (dk_g tcX12_fault_2 5 rfl)
theorem tcX12_many_0 : (cX12_many.data.toList.drop 0).take 12 = [42, 27, 3, 8, 184, 0, 113, 153, 0, 7, 3, 167] := by decide +kernel
theorem dX12_many_0 : decode cX12_many 0 = .ok (.aload_n 0, 1) := dk_1042 (dk_g tcX12_many_0 0 rfl)
theorem dX12_many_1 : decode cX12_many 1 = .ok (.iload_n 1, 1) := dk_1027 (dk_g tcX12_many_0 1 rfl)
theorem dX12_many_2 : decode cX12_many 2 = .ok (.iconst 0, 1) := dk_1003 (dk_g tcX12_many_0 2 rfl)
theorem dX12_many_3 : decode cX12_many 3 = .ok (.iconst 5, 1) := dk_1008 (dk_g tcX12_many_0 3 rfl)
theorem dX12_many_4 : decode cX12_many 4 = .ok (.invokestatic 113, 3) := dk_1184 (dk_g tcX12_many_0 4 rfl) (dk_g tcX12_many_0 5 rfl) (dk_g tcX12_many_0 6 rfl) rfl
theorem dX12_many_7 : decode cX12_many 7 = .ok (.ifCond .eq 7, 3) := dk_2153 (dk_g tcX12_many_0 7 rfl) (dk_g tcX12_many_0 8 rfl) (dk_g tcX12_many_0 9 rfl) rfl rfl
theorem dX12_many_10 : decode cX12_many 10 = .ok (.iconst 0, 1) := dk_1003 (dk_g tcX12_many_0 10 rfl)
theorem tcX12_many_1 : (cX12_many.data.toList.drop 12).take 12 = [0, 4, 4, 182, 1, 53, 154, 0, 5, 2, 172, 27] := by decide +kernel
theorem dX12_many_11 : decode cX12_many 11 = .ok (.goto 4, 3) := dk_2167 (dk_g tcX12_many_0 11 rfl) (dk_g tcX12_many_1 0 rfl) (dk_g tcX12_many_1 1 rfl) rfl rfl
theorem dX12_many_14 : decode cX12_many 14 = .ok (.iconst 1, 1) := dk_1004 (dk_g tcX12_many_1 2 rfl)
theorem dX12_many_15 : decode cX12_many 15 = .ok (.invokevirtual 309, 3) := dk_1182 (dk_g tcX12_many_1 3 rfl) (dk_g tcX12_many_1 4 rfl) (dk_g tcX12_many_1 5 rfl) rfl
theorem dX12_many_18 : decode cX12_many 18 = .ok (.ifCond .ne 5, 3) := dk_2154 (dk_g tcX12_many_1 6 rfl) (dk_g tcX12_many_1 7 rfl) (dk_g tcX12_many_1 8 rfl) rfl rfl
theorem dX12_many_21 : decode cX12_many 21 = .ok (.iconst (-1), 1) := dk_1002 (dk_g tcX12_many_1 9 rfl)
theorem dX12_many_22 : decode cX12_many 22 = .ok (.ireturn, 1) := dk_1172 (dk_g tcX12_many_1 10 rfl)
theorem dX12_many_23 : decode cX12_many 23 = .ok (.iload_n 1, 1) := dk_1027 (dk_g tcX12_many_1 11 rfl)
theorem tcX12_many_2 : (cX12_many.data.toList.drop 24).take 12 = [8, 162, 0, 10, 42, 180, 0, 7, 27, 46, 172, 3] := by decide +kernel
theorem dX12_many_24 : decode cX12_many 24 = .ok (.iconst 5, 1) := dk_1008 (dk_g tcX12_many_2 0 rfl)
theorem dX12_many_25 : decode cX12_many 25 = .ok (.if_icmp .ge 10, 3) := dk_2162 (dk_g tcX12_many_2 1 rfl) (dk_g tcX12_many_2 2 rfl) (dk_g tcX12_many_2 3 rfl) rfl rfl
theorem dX12_many_28 : decode cX12_many 28 = .ok (.aload_n 0, 1) := dk_1042 (dk_g tcX12_many_2 4 rfl)
theorem dX12_many_29 : decode cX12_many 29 = .ok (.getfield 7, 3) := dk_1180 (dk_g tcX12_many_2 5 rfl) (dk_g tcX12_many_2 6 rfl) (dk_g tcX12_many_2 7 rfl) rfl
theorem dX12_many_32 : decode cX12_many 32 = .ok (.iload_n 1, 1) := dk_1027 (dk_g tcX12_many_2 8 rfl)
theorem dX12_many_33 : decode cX12_many 33 = .ok (.iaload, 1) := dk_1046 (dk_g tcX12_many_2 9 rfl)
theorem dX12_many_34 : decode cX12_many 34 = .ok (.ireturn, 1) := dk_1172 (dk_g tcX12_many_2 10 rfl)
theorem dX12_many_35 : decode cX12_many 35 = .ok (.iconst 0, 1) := dk_1003 (dk_g tcX12_many_2 11 rfl)
theorem tcX12_many_3 : (cX12_many.data.toList.drop 36).take 12 = [61, 3, 62, 29, 7, 162, 0, 20, 28, 42, 29, 5] := by decide +kernel
theorem dX12_many_36 : decode cX12_many 36 = .ok (.istore_n 2, 1) := dk_1061 (dk_g tcX12_many_3 0 rfl)
theorem dX12_many_37 : decode cX12_many 37 = .ok (.iconst 0, 1) := dk_1003 (dk_g tcX12_many_3 1 rfl)
theorem dX12_many_38 : decode cX12_many 38 = .ok (.istore_n 3, 1) := dk_1062 (dk_g tcX12_many_3 2 rfl)
theorem dX12_many_39 : decode cX12_many 39 = .ok (.iload_n 3, 1) := dk_1029 (dk_g tcX12_many_3 3 rfl)
theorem dX12_many_40 : decode cX12_many 40 = .ok (.iconst 4, 1) := dk_1007 (dk_g tcX12_many_3 4 rfl)
theorem dX12_many_41 : decode cX12_many 41 = .ok (.if_icmp .ge 20, 3) := dk_2162 (dk_g tcX12_many_3 5 rfl) (dk_g tcX12_many_3 6 rfl) (dk_g tcX12_many_3 7 rfl) rfl rfl
theorem dX12_many_44 : decode cX12_many 44 = .ok (.iload_n 2, 1) := dk_1028 (dk_g tcX12_many_3 8 rfl)
theorem dX12_many_45 : decode cX12_many 45 = .ok (.aload_n 0, 1) := dk_1042 (dk_g tcX12_many_3 9 rfl)
theorem dX12_many_46 : decode cX12_many 46 = .ok (.iload_n 3, 1) := dk_1029 (dk_g tcX12_many_3 10 rfl)
theorem dX12_many_47 : decode cX12_many 47 = .ok (.iconst 2, 1) := dk_1005 (dk_g tcX12_many_3 11 rfl)
theorem tcX12_many_4 : (cX12_many.data.toList.drop 48).take 12 = [182, 0, 221, 29, 120, 128, 61, 132, 3, 1, 167, 255] := by decide +kernel
theorem dX12_many_48 : decode cX12_many 48 = .ok (.invokevirtual 221, 3) := dk_1182 (dk_g tcX12_many_4 0 rfl) (dk_g tcX12_many_4 1 rfl) (dk_g tcX12_many_4 2 rfl) rfl
theorem dX12_many_51 : decode cX12_many 51 = .ok (.iload_n 3, 1) := dk_1029 (dk_g tcX12_many_4 3 rfl)
theorem dX12_many_52 : decode cX12_many 52 = .ok (.ishl, 1) := dk_1120 (dk_g tcX12_many_4 4 rfl)
theorem dX12_many_53 : decode cX12_many 53 = .ok (.ior, 1) := dk_1128 (dk_g tcX12_many_4 5 rfl)
theorem dX12_many_54 : decode cX12_many 54 = .ok (.istore_n 2, 1) := dk_1061 (dk_g tcX12_many_4 6 rfl)
theorem dX12_many_55 : decode cX12_many 55 = .ok (.iinc 3 1, 3) := dk_1132 (dk_g tcX12_many_4 7 rfl) (dk_g tcX12_many_4 8 rfl) (dk_g tcX12_many_4 9 rfl) rfl (by decide +kernel)
theorem tcX12_many_5 : (cX12_many.data.toList.drop 60).take 12 = [237, 28, 172] := by decide +kernel
theorem dX12_many_58 : decode cX12_many 58 = .ok (.goto (-19), 3) := dk_1167 (dk_g tcX12_many_4 10 rfl) (dk_g tcX12_many_4 11 rfl) (dk_g tcX12_many_5 0 rfl) (by decide +kernel)
theorem dX12_many_61 : decode cX12_many 61 = .ok (.iload_n 2, 1) := dk_1028 (dk_g tcX12_many_5 1 rfl)
theorem dX12_many_62 : decode cX12_many 62 = .ok (.ireturn, 1) := dk_1172 (dk_g tcX12_many_5 2 rfl)
theorem tcX12_size_0 : (cX12_size.data.toList.drop 0).take 12 = [42, 42, 27, 182, 1, 88, 153, 0, 7, 3, 167, 0] := by decide +kernel
theorem dX12_size_0 : decode cX12_size 0 = .ok (.aload_n 0, 1) := dk_1042 (dk_g tcX12_size_0 0 rfl)
theorem dX12_size_1 : decode cX12_size 1 = .ok (.aload_n 0, 1) := dk_1042 (dk_g tcX12_size_0 1 rfl)
theorem dX12_size_2 : decode cX12_size 2 = .ok (.iload_n 1, 1) := dk_1027 (dk_g tcX12_size_0 2 rfl)
theorem dX12_size_3 : decode cX12_size 3 = .ok (.invokevirtual 344, 3) := dk_1182 (dk_g tcX12_size_0 3 rfl) (dk_g tcX12_size_0 4 rfl) (dk_g tcX12_size_0 5 rfl) rfl
theorem dX12_size_6 : decode cX12_size 6 = .ok (.ifCond .eq 7, 3) := dk_2153 (dk_g tcX12_size_0 6 rfl) (dk_g tcX12_size_0 7 rfl) (dk_g tcX12_size_0 8 rfl) rfl rfl
theorem dX12_size_9 : decode cX12_size 9 = .ok (.iconst 0, 1) := dk_1003 (dk_g tcX12_size_0 9 rfl)
theorem tcX12_size_1 : (cX12_size.data.toList.drop 12).take 12 = [4, 5, 182, 1, 53, 153, 0, 11, 42, 27, 182, 0] := by decide +kernel
theorem dX12_size_10 : decode cX12_size 10 = .ok (.goto 4, 3) := dk_2167 (dk_g tcX12_size_0 10 rfl) (dk_g tcX12_size_0 11 rfl) (dk_g tcX12_size_1 0 rfl) rfl rfl
theorem dX12_size_13 : decode cX12_size 13 = .ok (.iconst 2, 1) := dk_1005 (dk_g tcX12_size_1 1 rfl)
theorem dX12_size_14 : decode cX12_size 14 = .ok (.invokevirtual 309, 3) := dk_1182 (dk_g tcX12_size_1 2 rfl) (dk_g tcX12_size_1 3 rfl) (dk_g tcX12_size_1 4 rfl) rfl
theorem dX12_size_17 : decode cX12_size 17 = .ok (.ifCond .eq 11, 3) := dk_2153 (dk_g tcX12_size_1 5 rfl) (dk_g tcX12_size_1 6 rfl) (dk_g tcX12_size_1 7 rfl) rfl rfl
theorem dX12_size_20 : decode cX12_size 20 = .ok (.aload_n 0, 1) := dk_1042 (dk_g tcX12_size_1 8 rfl)
theorem dX12_size_21 : decode cX12_size 21 = .ok (.iload_n 1, 1) := dk_1027 (dk_g tcX12_size_1 9 rfl)
theorem tcX12_size_2 : (cX12_size.data.toList.drop 24).take 12 = [209, 167, 0, 4, 2, 172] := by decide +kernel
theorem dX12_size_22 : decode cX12_size 22 = .ok (.invokevirtual 209, 3) := dk_1182 (dk_g tcX12_size_1 10 rfl) (dk_g tcX12_size_1 11 rfl) (dk_g tcX12_size_2 0 rfl) rfl
theorem dX12_size_25 : decode cX12_size 25 = .ok (.goto 4, 3) := dk_2167 (dk_g tcX12_size_2 1 rfl) (dk_g tcX12_size_2 2 rfl) (dk_g tcX12_size_2 3 rfl) rfl rfl
theorem dX12_size_28 : decode cX12_size 28 = .ok (.iconst (-1), 1) := dk_1002 (dk_g tcX12_size_2 4 rfl)
theorem dX12_size_29 : decode cX12_size 29 = .ok (.ireturn, 1) := dk_1172 (dk_g tcX12_size_2 5 rfl)
theorem tcX12_entry_0 : (cX12_entry.data.toList.drop 0).take 12 = [42, 28, 155, 0, 7, 29, 156, 0, 7, 4, 167, 0] := by decide +kernel
theorem dX12_entry_0 : decode cX12_entry 0 = .ok (.aload_n 0, 1) := dk_1042 (dk_g tcX12_entry_0 0 rfl)
theorem dX12_entry_1 : decode cX12_entry 1 = .ok (.iload_n 2, 1) := dk_1028 (dk_g tcX12_entry_0 1 rfl)
theorem dX12_entry_2 : decode cX12_entry 2 = .ok (.ifCond .lt 7, 3) := dk_2155 (dk_g tcX12_entry_0 2 rfl) (dk_g tcX12_entry_0 3 rfl) (dk_g tcX12_entry_0 4 rfl) rfl rfl
theorem dX12_entry_5 : decode cX12_entry 5 = .ok (.iload_n 3, 1) := dk_1029 (dk_g tcX12_entry_0 5 rfl)
theorem dX12_entry_6 : decode cX12_entry 6 = .ok (.ifCond .ge 7, 3) := dk_2156 (dk_g tcX12_entry_0 6 rfl) (dk_g tcX12_entry_0 7 rfl) (dk_g tcX12_entry_0 8 rfl) rfl rfl
theorem dX12_entry_9 : decode cX12_entry 9 = .ok (.iconst 1, 1) := dk_1004 (dk_g tcX12_entry_0 9 rfl)
theorem tcX12_entry_1 : (cX12_entry.data.toList.drop 12).take 12 = [29, 42, 27, 182, 1, 88, 154, 0, 7, 5, 167, 0] := by decide +kernel
theorem dX12_entry_10 : decode cX12_entry 10 = .ok (.goto 29, 3) := dk_2167 (dk_g tcX12_entry_0 10 rfl) (dk_g tcX12_entry_0 11 rfl) (dk_g tcX12_entry_1 0 rfl) rfl rfl
theorem dX12_entry_13 : decode cX12_entry 13 = .ok (.aload_n 0, 1) := dk_1042 (dk_g tcX12_entry_1 1 rfl)
theorem dX12_entry_14 : decode cX12_entry 14 = .ok (.iload_n 1, 1) := dk_1027 (dk_g tcX12_entry_1 2 rfl)
theorem dX12_entry_15 : decode cX12_entry 15 = .ok (.invokevirtual 344, 3) := dk_1182 (dk_g tcX12_entry_1 3 rfl) (dk_g tcX12_entry_1 4 rfl) (dk_g tcX12_entry_1 5 rfl) rfl
theorem dX12_entry_18 : decode cX12_entry 18 = .ok (.ifCond .ne 7, 3) := dk_2154 (dk_g tcX12_entry_1 6 rfl) (dk_g tcX12_entry_1 7 rfl) (dk_g tcX12_entry_1 8 rfl) rfl rfl
theorem dX12_entry_21 : decode cX12_entry 21 = .ok (.iconst 2, 1) := dk_1005 (dk_g tcX12_entry_1 9 rfl)
theorem tcX12_entry_2 : (cX12_entry.data.toList.drop 24).take 12 = [17, 28, 42, 27, 182, 0, 209, 161, 0, 7, 8, 167] := by decide +kernel
theorem dX12_entry_22 : decode cX12_entry 22 = .ok (.goto 17, 3) := dk_2167 (dk_g tcX12_entry_1 10 rfl) (dk_g tcX12_entry_1 11 rfl) (dk_g tcX12_entry_2 0 rfl) rfl rfl
theorem dX12_entry_25 : decode cX12_entry 25 = .ok (.iload_n 2, 1) := dk_1028 (dk_g tcX12_entry_2 1 rfl)
theorem dX12_entry_26 : decode cX12_entry 26 = .ok (.aload_n 0, 1) := dk_1042 (dk_g tcX12_entry_2 2 rfl)
theorem dX12_entry_27 : decode cX12_entry 27 = .ok (.iload_n 1, 1) := dk_1027 (dk_g tcX12_entry_2 3 rfl)
theorem dX12_entry_28 : decode cX12_entry 28 = .ok (.invokevirtual 209, 3) := dk_1182 (dk_g tcX12_entry_2 4 rfl) (dk_g tcX12_entry_2 5 rfl) (dk_g tcX12_entry_2 6 rfl) rfl
theorem dX12_entry_31 : decode cX12_entry 31 = .ok (.if_icmp .lt 7, 3) := dk_2161 (dk_g tcX12_entry_2 7 rfl) (dk_g tcX12_entry_2 8 rfl) (dk_g tcX12_entry_2 9 rfl) rfl rfl
theorem dX12_entry_34 : decode cX12_entry 34 = .ok (.iconst 5, 1) := dk_1008 (dk_g tcX12_entry_2 10 rfl)
theorem tcX12_entry_3 : (cX12_entry.data.toList.drop 36).take 12 = [0, 4, 3, 182, 1, 53, 154, 0, 5, 2, 172, 16] := by decide +kernel
theorem dX12_entry_35 : decode cX12_entry 35 = .ok (.goto 4, 3) := dk_2167 (dk_g tcX12_entry_2 11 rfl) (dk_g tcX12_entry_3 0 rfl) (dk_g tcX12_entry_3 1 rfl) rfl rfl
theorem dX12_entry_38 : decode cX12_entry 38 = .ok (.iconst 0, 1) := dk_1003 (dk_g tcX12_entry_3 2 rfl)
theorem dX12_entry_39 : decode cX12_entry 39 = .ok (.invokevirtual 309, 3) := dk_1182 (dk_g tcX12_entry_3 3 rfl) (dk_g tcX12_entry_3 4 rfl) (dk_g tcX12_entry_3 5 rfl) rfl
theorem dX12_entry_42 : decode cX12_entry 42 = .ok (.ifCond .ne 5, 3) := dk_2154 (dk_g tcX12_entry_3 6 rfl) (dk_g tcX12_entry_3 7 rfl) (dk_g tcX12_entry_3 8 rfl) rfl rfl
theorem dX12_entry_45 : decode cX12_entry 45 = .ok (.iconst (-1), 1) := dk_1002 (dk_g tcX12_entry_3 9 rfl)
theorem dX12_entry_46 : decode cX12_entry 46 = .ok (.ireturn, 1) := dk_1172 (dk_g tcX12_entry_3 10 rfl)
theorem tcX12_entry_4 : (cX12_entry.data.toList.drop 48).take 12 = [48, 27, 104, 28, 96, 54, 4, 29, 5, 162, 0, 28] := by decide +kernel
theorem dX12_entry_47 : decode cX12_entry 47 = .ok (.bipush 48, 2) := dk_1016 (dk_g tcX12_entry_3 11 rfl) (dk_g tcX12_entry_4 0 rfl) (by decide +kernel)
theorem dX12_entry_49 : decode cX12_entry 49 = .ok (.iload_n 1, 1) := dk_1027 (dk_g tcX12_entry_4 1 rfl)
theorem dX12_entry_50 : decode cX12_entry 50 = .ok (.imul, 1) := dk_1104 (dk_g tcX12_entry_4 2 rfl)
theorem dX12_entry_51 : decode cX12_entry 51 = .ok (.iload_n 2, 1) := dk_1028 (dk_g tcX12_entry_4 3 rfl)
theorem dX12_entry_52 : decode cX12_entry 52 = .ok (.iadd, 1) := dk_1096 (dk_g tcX12_entry_4 4 rfl)
theorem dX12_entry_53 : decode cX12_entry 53 = .ok (.istore 4, 2) := dk_1054 (dk_g tcX12_entry_4 5 rfl) (dk_g tcX12_entry_4 6 rfl) rfl
theorem dX12_entry_55 : decode cX12_entry 55 = .ok (.iload_n 3, 1) := dk_1029 (dk_g tcX12_entry_4 7 rfl)
theorem dX12_entry_56 : decode cX12_entry 56 = .ok (.iconst 2, 1) := dk_1005 (dk_g tcX12_entry_4 8 rfl)
theorem dX12_entry_57 : decode cX12_entry 57 = .ok (.if_icmp .ge 28, 3) := dk_2162 (dk_g tcX12_entry_4 9 rfl) (dk_g tcX12_entry_4 10 rfl) (dk_g tcX12_entry_4 11 rfl) rfl rfl
theorem tcX12_entry_5 : (cX12_entry.data.toList.drop 60).take 12 = [29, 154, 0, 17, 42, 180, 0, 7, 17, 0, 252, 21] := by decide +kernel
theorem dX12_entry_60 : decode cX12_entry 60 = .ok (.iload_n 3, 1) := dk_1029 (dk_g tcX12_entry_5 0 rfl)
theorem dX12_entry_61 : decode cX12_entry 61 = .ok (.ifCond .ne 17, 3) := dk_2154 (dk_g tcX12_entry_5 1 rfl) (dk_g tcX12_entry_5 2 rfl) (dk_g tcX12_entry_5 3 rfl) rfl rfl
theorem dX12_entry_64 : decode cX12_entry 64 = .ok (.aload_n 0, 1) := dk_1042 (dk_g tcX12_entry_5 4 rfl)
theorem dX12_entry_65 : decode cX12_entry 65 = .ok (.getfield 7, 3) := dk_1180 (dk_g tcX12_entry_5 5 rfl) (dk_g tcX12_entry_5 6 rfl) (dk_g tcX12_entry_5 7 rfl) rfl
theorem dX12_entry_68 : decode cX12_entry 68 = .ok (.sipush 252, 3) := dk_2017 (dk_g tcX12_entry_5 8 rfl) (dk_g tcX12_entry_5 9 rfl) (dk_g tcX12_entry_5 10 rfl) rfl rfl
theorem tcX12_entry_6 : (cX12_entry.data.toList.drop 72).take 12 = [4, 96, 46, 167, 0, 9, 42, 27, 28, 182, 0, 125] := by decide +kernel
theorem dX12_entry_71 : decode cX12_entry 71 = .ok (.iload 4, 2) := dk_1021 (dk_g tcX12_entry_5 11 rfl) (dk_g tcX12_entry_6 0 rfl) rfl
theorem dX12_entry_73 : decode cX12_entry 73 = .ok (.iadd, 1) := dk_1096 (dk_g tcX12_entry_6 1 rfl)
theorem dX12_entry_74 : decode cX12_entry 74 = .ok (.iaload, 1) := dk_1046 (dk_g tcX12_entry_6 2 rfl)
theorem dX12_entry_75 : decode cX12_entry 75 = .ok (.goto 9, 3) := dk_2167 (dk_g tcX12_entry_6 3 rfl) (dk_g tcX12_entry_6 4 rfl) (dk_g tcX12_entry_6 5 rfl) rfl rfl
theorem dX12_entry_78 : decode cX12_entry 78 = .ok (.aload_n 0, 1) := dk_1042 (dk_g tcX12_entry_6 6 rfl)
theorem dX12_entry_79 : decode cX12_entry 79 = .ok (.iload_n 1, 1) := dk_1027 (dk_g tcX12_entry_6 7 rfl)
theorem dX12_entry_80 : decode cX12_entry 80 = .ok (.iload_n 2, 1) := dk_1028 (dk_g tcX12_entry_6 8 rfl)
theorem dX12_entry_81 : decode cX12_entry 81 = .ok (.invokevirtual 125, 3) := dk_1182 (dk_g tcX12_entry_6 9 rfl) (dk_g tcX12_entry_6 10 rfl) (dk_g tcX12_entry_6 11 rfl) rfl
theorem tcX12_entry_7 : (cX12_entry.data.toList.drop 84).take 12 = [172, 29, 5, 100, 42, 180, 0, 7, 17, 0, 252, 21] := by decide +kernel
theorem dX12_entry_84 : decode cX12_entry 84 = .ok (.ireturn, 1) := dk_1172 (dk_g tcX12_entry_7 0 rfl)
theorem dX12_entry_85 : decode cX12_entry 85 = .ok (.iload_n 3, 1) := dk_1029 (dk_g tcX12_entry_7 1 rfl)
theorem dX12_entry_86 : decode cX12_entry 86 = .ok (.iconst 2, 1) := dk_1005 (dk_g tcX12_entry_7 2 rfl)
theorem dX12_entry_87 : decode cX12_entry 87 = .ok (.isub, 1) := dk_1100 (dk_g tcX12_entry_7 3 rfl)
theorem dX12_entry_88 : decode cX12_entry 88 = .ok (.aload_n 0, 1) := dk_1042 (dk_g tcX12_entry_7 4 rfl)
theorem dX12_entry_89 : decode cX12_entry 89 = .ok (.getfield 7, 3) := dk_1180 (dk_g tcX12_entry_7 5 rfl) (dk_g tcX12_entry_7 6 rfl) (dk_g tcX12_entry_7 7 rfl) rfl
theorem dX12_entry_92 : decode cX12_entry 92 = .ok (.sipush 252, 3) := dk_2017 (dk_g tcX12_entry_7 8 rfl) (dk_g tcX12_entry_7 9 rfl) (dk_g tcX12_entry_7 10 rfl) rfl rfl
theorem tcX12_entry_8 : (cX12_entry.data.toList.drop 96).take 12 = [4, 96, 46, 162, 0, 24, 42, 180, 0, 7, 17, 1] := by decide +kernel
theorem dX12_entry_95 : decode cX12_entry 95 = .ok (.iload 4, 2) := dk_1021 (dk_g tcX12_entry_7 11 rfl) (dk_g tcX12_entry_8 0 rfl) rfl
theorem dX12_entry_97 : decode cX12_entry 97 = .ok (.iadd, 1) := dk_1096 (dk_g tcX12_entry_8 1 rfl)
theorem dX12_entry_98 : decode cX12_entry 98 = .ok (.iaload, 1) := dk_1046 (dk_g tcX12_entry_8 2 rfl)
theorem dX12_entry_99 : decode cX12_entry 99 = .ok (.if_icmp .ge 24, 3) := dk_2162 (dk_g tcX12_entry_8 3 rfl) (dk_g tcX12_entry_8 4 rfl) (dk_g tcX12_entry_8 5 rfl) rfl rfl
theorem dX12_entry_102 : decode cX12_entry 102 = .ok (.aload_n 0, 1) := dk_1042 (dk_g tcX12_entry_8 6 rfl)
theorem dX12_entry_103 : decode cX12_entry 103 = .ok (.getfield 7, 3) := dk_1180 (dk_g tcX12_entry_8 7 rfl) (dk_g tcX12_entry_8 8 rfl) (dk_g tcX12_entry_8 9 rfl) rfl
theorem tcX12_entry_9 : (cX12_entry.data.toList.drop 108).take 12 = [188, 16, 8, 21, 4, 104, 96, 29, 96, 5, 100, 46] := by decide +kernel
theorem dX12_entry_106 : decode cX12_entry 106 = .ok (.sipush 444, 3) := dk_2017 (dk_g tcX12_entry_8 10 rfl) (dk_g tcX12_entry_8 11 rfl) (dk_g tcX12_entry_9 0 rfl) rfl rfl
theorem dX12_entry_109 : decode cX12_entry 109 = .ok (.bipush 8, 2) := dk_1016 (dk_g tcX12_entry_9 1 rfl) (dk_g tcX12_entry_9 2 rfl) (by decide +kernel)
theorem dX12_entry_111 : decode cX12_entry 111 = .ok (.iload 4, 2) := dk_1021 (dk_g tcX12_entry_9 3 rfl) (dk_g tcX12_entry_9 4 rfl) rfl
theorem dX12_entry_113 : decode cX12_entry 113 = .ok (.imul, 1) := dk_1104 (dk_g tcX12_entry_9 5 rfl)
theorem dX12_entry_114 : decode cX12_entry 114 = .ok (.iadd, 1) := dk_1096 (dk_g tcX12_entry_9 6 rfl)
theorem dX12_entry_115 : decode cX12_entry 115 = .ok (.iload_n 3, 1) := dk_1029 (dk_g tcX12_entry_9 7 rfl)
theorem dX12_entry_116 : decode cX12_entry 116 = .ok (.iadd, 1) := dk_1096 (dk_g tcX12_entry_9 8 rfl)
theorem dX12_entry_117 : decode cX12_entry 117 = .ok (.iconst 2, 1) := dk_1005 (dk_g tcX12_entry_9 9 rfl)
theorem dX12_entry_118 : decode cX12_entry 118 = .ok (.isub, 1) := dk_1100 (dk_g tcX12_entry_9 10 rfl)
theorem dX12_entry_119 : decode cX12_entry 119 = .ok (.iaload, 1) := dk_1046 (dk_g tcX12_entry_9 11 rfl)
theorem tcX12_entry_10 : (cX12_entry.data.toList.drop 120).take 12 = [167, 0, 8, 42, 8, 182, 0, 212, 172] := by decide +kernel
theorem dX12_entry_120 : decode cX12_entry 120 = .ok (.goto 8, 3) := dk_2167 (dk_g tcX12_entry_10 0 rfl) (dk_g tcX12_entry_10 1 rfl) (dk_g tcX12_entry_10 2 rfl) rfl rfl
theorem dX12_entry_123 : decode cX12_entry 123 = .ok (.aload_n 0, 1) := dk_1042 (dk_g tcX12_entry_10 3 rfl)
theorem dX12_entry_124 : decode cX12_entry 124 = .ok (.iconst 5, 1) := dk_1008 (dk_g tcX12_entry_10 4 rfl)
theorem dX12_entry_125 : decode cX12_entry 125 = .ok (.invokevirtual 212, 3) := dk_1182 (dk_g tcX12_entry_10 5 rfl) (dk_g tcX12_entry_10 6 rfl) (dk_g tcX12_entry_10 7 rfl) rfl
theorem dX12_entry_128 : decode cX12_entry 128 = .ok (.ireturn, 1) := dk_1172 (dk_g tcX12_entry_10 8 rfl)
theorem tcX12_noSize_0 : (cX12_noSize.data.toList.drop 0).take 12 = [28, 156, 0, 7, 4, 167, 0, 29, 42, 27, 182, 1] := by decide +kernel
theorem dX12_noSize_0 : decode cX12_noSize 0 = .ok (.iload_n 2, 1) := dk_1028 (dk_g tcX12_noSize_0 0 rfl)
theorem dX12_noSize_1 : decode cX12_noSize 1 = .ok (.ifCond .ge 7, 3) := dk_2156 (dk_g tcX12_noSize_0 1 rfl) (dk_g tcX12_noSize_0 2 rfl) (dk_g tcX12_noSize_0 3 rfl) rfl rfl
theorem dX12_noSize_4 : decode cX12_noSize 4 = .ok (.iconst 1, 1) := dk_1004 (dk_g tcX12_noSize_0 4 rfl)
theorem dX12_noSize_5 : decode cX12_noSize 5 = .ok (.goto 29, 3) := dk_2167 (dk_g tcX12_noSize_0 5 rfl) (dk_g tcX12_noSize_0 6 rfl) (dk_g tcX12_noSize_0 7 rfl) rfl rfl
theorem dX12_noSize_8 : decode cX12_noSize 8 = .ok (.aload_n 0, 1) := dk_1042 (dk_g tcX12_noSize_0 8 rfl)
theorem dX12_noSize_9 : decode cX12_noSize 9 = .ok (.iload_n 1, 1) := dk_1027 (dk_g tcX12_noSize_0 9 rfl)
theorem tcX12_noSize_1 : (cX12_noSize.data.toList.drop 12).take 12 = [88, 154, 0, 7, 5, 167, 0, 17, 28, 42, 27, 182] := by decide +kernel
theorem dX12_noSize_10 : decode cX12_noSize 10 = .ok (.invokevirtual 344, 3) := dk_1182 (dk_g tcX12_noSize_0 10 rfl) (dk_g tcX12_noSize_0 11 rfl) (dk_g tcX12_noSize_1 0 rfl) rfl
theorem dX12_noSize_13 : decode cX12_noSize 13 = .ok (.ifCond .ne 7, 3) := dk_2154 (dk_g tcX12_noSize_1 1 rfl) (dk_g tcX12_noSize_1 2 rfl) (dk_g tcX12_noSize_1 3 rfl) rfl rfl
theorem dX12_noSize_16 : decode cX12_noSize 16 = .ok (.iconst 2, 1) := dk_1005 (dk_g tcX12_noSize_1 4 rfl)
theorem dX12_noSize_17 : decode cX12_noSize 17 = .ok (.goto 17, 3) := dk_2167 (dk_g tcX12_noSize_1 5 rfl) (dk_g tcX12_noSize_1 6 rfl) (dk_g tcX12_noSize_1 7 rfl) rfl rfl
theorem dX12_noSize_20 : decode cX12_noSize 20 = .ok (.iload_n 2, 1) := dk_1028 (dk_g tcX12_noSize_1 8 rfl)
theorem dX12_noSize_21 : decode cX12_noSize 21 = .ok (.aload_n 0, 1) := dk_1042 (dk_g tcX12_noSize_1 9 rfl)
theorem dX12_noSize_22 : decode cX12_noSize 22 = .ok (.iload_n 1, 1) := dk_1027 (dk_g tcX12_noSize_1 10 rfl)
theorem tcX12_noSize_2 : (cX12_noSize.data.toList.drop 24).take 12 = [0, 209, 164, 0, 7, 8, 167, 0, 4, 3, 172] := by decide +kernel
theorem dX12_noSize_23 : decode cX12_noSize 23 = .ok (.invokevirtual 209, 3) := dk_1182 (dk_g tcX12_noSize_1 11 rfl) (dk_g tcX12_noSize_2 0 rfl) (dk_g tcX12_noSize_2 1 rfl) rfl
theorem dX12_noSize_26 : decode cX12_noSize 26 = .ok (.if_icmp .le 7, 3) := dk_2164 (dk_g tcX12_noSize_2 2 rfl) (dk_g tcX12_noSize_2 3 rfl) (dk_g tcX12_noSize_2 4 rfl) rfl rfl
theorem dX12_noSize_29 : decode cX12_noSize 29 = .ok (.iconst 5, 1) := dk_1008 (dk_g tcX12_noSize_2 5 rfl)
theorem dX12_noSize_30 : decode cX12_noSize 30 = .ok (.goto 4, 3) := dk_2167 (dk_g tcX12_noSize_2 6 rfl) (dk_g tcX12_noSize_2 7 rfl) (dk_g tcX12_noSize_2 8 rfl) rfl rfl
theorem dX12_noSize_33 : decode cX12_noSize 33 = .ok (.iconst 0, 1) := dk_1003 (dk_g tcX12_noSize_2 9 rfl)
theorem dX12_noSize_34 : decode cX12_noSize 34 = .ok (.ireturn, 1) := dk_1172 (dk_g tcX12_noSize_2 10 rfl)
theorem tcX12_head_0 : (cX12_head.data.toList.drop 0).take 12 = [42, 42, 27, 28, 182, 1, 91, 182, 1, 53, 153, 0] := by decide +kernel
theorem dX12_head_0 : decode cX12_head 0 = .ok (.aload_n 0, 1) := dk_1042 (dk_g tcX12_head_0 0 rfl)
theorem dX12_head_1 : decode cX12_head 1 = .ok (.aload_n 0, 1) := dk_1042 (dk_g tcX12_head_0 1 rfl)
theorem dX12_head_2 : decode cX12_head 2 = .ok (.iload_n 1, 1) := dk_1027 (dk_g tcX12_head_0 2 rfl)
theorem dX12_head_3 : decode cX12_head 3 = .ok (.iload_n 2, 1) := dk_1028 (dk_g tcX12_head_0 3 rfl)
theorem dX12_head_4 : decode cX12_head 4 = .ok (.invokevirtual 347, 3) := dk_1182 (dk_g tcX12_head_0 4 rfl) (dk_g tcX12_head_0 5 rfl) (dk_g tcX12_head_0 6 rfl) rfl
theorem dX12_head_7 : decode cX12_head 7 = .ok (.invokevirtual 309, 3) := dk_1182 (dk_g tcX12_head_0 7 rfl) (dk_g tcX12_head_0 8 rfl) (dk_g tcX12_head_0 9 rfl) rfl
theorem tcX12_head_1 : (cX12_head.data.toList.drop 12).take 12 = [12, 42, 27, 28, 182, 0, 215, 167, 0, 4, 2, 172] := by decide +kernel
theorem dX12_head_10 : decode cX12_head 10 = .ok (.ifCond .eq 12, 3) := dk_2153 (dk_g tcX12_head_0 10 rfl) (dk_g tcX12_head_0 11 rfl) (dk_g tcX12_head_1 0 rfl) rfl rfl
theorem dX12_head_13 : decode cX12_head 13 = .ok (.aload_n 0, 1) := dk_1042 (dk_g tcX12_head_1 1 rfl)
theorem dX12_head_14 : decode cX12_head 14 = .ok (.iload_n 1, 1) := dk_1027 (dk_g tcX12_head_1 2 rfl)
theorem dX12_head_15 : decode cX12_head 15 = .ok (.iload_n 2, 1) := dk_1028 (dk_g tcX12_head_1 3 rfl)
theorem dX12_head_16 : decode cX12_head 16 = .ok (.invokevirtual 215, 3) := dk_1182 (dk_g tcX12_head_1 4 rfl) (dk_g tcX12_head_1 5 rfl) (dk_g tcX12_head_1 6 rfl) rfl
theorem dX12_head_19 : decode cX12_head 19 = .ok (.goto 4, 3) := dk_2167 (dk_g tcX12_head_1 7 rfl) (dk_g tcX12_head_1 8 rfl) (dk_g tcX12_head_1 9 rfl) rfl rfl
theorem dX12_head_22 : decode cX12_head 22 = .ok (.iconst (-1), 1) := dk_1002 (dk_g tcX12_head_1 10 rfl)
theorem dX12_head_23 : decode cX12_head 23 = .ok (.ireturn, 1) := dk_1172 (dk_g tcX12_head_1 11 rfl)
theorem tcX12_join_0 : (cX12_join.data.toList.drop 0).take 12 = [42, 42, 27, 182, 1, 65, 153, 0, 15, 42, 28, 182] := by decide +kernel
theorem dX12_join_0 : decode cX12_join 0 = .ok (.aload_n 0, 1) := dk_1042 (dk_g tcX12_join_0 0 rfl)
theorem dX12_join_1 : decode cX12_join 1 = .ok (.aload_n 0, 1) := dk_1042 (dk_g tcX12_join_0 1 rfl)
theorem dX12_join_2 : decode cX12_join 2 = .ok (.iload_n 1, 1) := dk_1027 (dk_g tcX12_join_0 2 rfl)
theorem dX12_join_3 : decode cX12_join 3 = .ok (.invokevirtual 321, 3) := dk_1182 (dk_g tcX12_join_0 3 rfl) (dk_g tcX12_join_0 4 rfl) (dk_g tcX12_join_0 5 rfl) rfl
theorem dX12_join_6 : decode cX12_join 6 = .ok (.ifCond .eq 15, 3) := dk_2153 (dk_g tcX12_join_0 6 rfl) (dk_g tcX12_join_0 7 rfl) (dk_g tcX12_join_0 8 rfl) rfl rfl
theorem dX12_join_9 : decode cX12_join 9 = .ok (.aload_n 0, 1) := dk_1042 (dk_g tcX12_join_0 9 rfl)
theorem dX12_join_10 : decode cX12_join 10 = .ok (.iload_n 2, 1) := dk_1028 (dk_g tcX12_join_0 10 rfl)
theorem tcX12_join_1 : (cX12_join.data.toList.drop 12).take 12 = [1, 65, 153, 0, 7, 3, 167, 0, 4, 4, 182, 1] := by decide +kernel
theorem dX12_join_11 : decode cX12_join 11 = .ok (.invokevirtual 321, 3) := dk_1182 (dk_g tcX12_join_0 11 rfl) (dk_g tcX12_join_1 0 rfl) (dk_g tcX12_join_1 1 rfl) rfl
theorem dX12_join_14 : decode cX12_join 14 = .ok (.ifCond .eq 7, 3) := dk_2153 (dk_g tcX12_join_1 2 rfl) (dk_g tcX12_join_1 3 rfl) (dk_g tcX12_join_1 4 rfl) rfl rfl
theorem dX12_join_17 : decode cX12_join 17 = .ok (.iconst 0, 1) := dk_1003 (dk_g tcX12_join_1 5 rfl)
theorem dX12_join_18 : decode cX12_join 18 = .ok (.goto 4, 3) := dk_2167 (dk_g tcX12_join_1 6 rfl) (dk_g tcX12_join_1 7 rfl) (dk_g tcX12_join_1 8 rfl) rfl rfl
theorem dX12_join_21 : decode cX12_join 21 = .ok (.iconst 1, 1) := dk_1004 (dk_g tcX12_join_1 9 rfl)
theorem tcX12_join_2 : (cX12_join.data.toList.drop 24).take 12 = [53, 153, 0, 12, 42, 27, 28, 182, 0, 136, 167, 0] := by decide +kernel
theorem dX12_join_22 : decode cX12_join 22 = .ok (.invokevirtual 309, 3) := dk_1182 (dk_g tcX12_join_1 10 rfl) (dk_g tcX12_join_1 11 rfl) (dk_g tcX12_join_2 0 rfl) rfl
theorem dX12_join_25 : decode cX12_join 25 = .ok (.ifCond .eq 12, 3) := dk_2153 (dk_g tcX12_join_2 1 rfl) (dk_g tcX12_join_2 2 rfl) (dk_g tcX12_join_2 3 rfl) rfl rfl
theorem dX12_join_28 : decode cX12_join 28 = .ok (.aload_n 0, 1) := dk_1042 (dk_g tcX12_join_2 4 rfl)
theorem dX12_join_29 : decode cX12_join 29 = .ok (.iload_n 1, 1) := dk_1027 (dk_g tcX12_join_2 5 rfl)
theorem dX12_join_30 : decode cX12_join 30 = .ok (.iload_n 2, 1) := dk_1028 (dk_g tcX12_join_2 6 rfl)
theorem dX12_join_31 : decode cX12_join 31 = .ok (.invokevirtual 136, 3) := dk_1182 (dk_g tcX12_join_2 7 rfl) (dk_g tcX12_join_2 8 rfl) (dk_g tcX12_join_2 9 rfl) rfl
theorem tcX12_join_3 : (cX12_join.data.toList.drop 36).take 12 = [4, 2, 172] := by decide +kernel
theorem dX12_join_34 : decode cX12_join 34 = .ok (.goto 4, 3) := dk_2167 (dk_g tcX12_join_2 10 rfl) (dk_g tcX12_join_2 11 rfl) (dk_g tcX12_join_3 0 rfl) rfl rfl
theorem dX12_join_37 : decode cX12_join 37 = .ok (.iconst (-1), 1) := dk_1002 (dk_g tcX12_join_3 1 rfl)
theorem dX12_join_38 : decode cX12_join 38 = .ok (.ireturn, 1) := dk_1172 (dk_g tcX12_join_3 2 rfl)
theorem tcX12_mark_0 : (cX12_mark.data.toList.drop 0).take 12 = [42, 3, 182, 1, 53, 87, 4, 60, 3, 61, 28, 42] := by decide +kernel
theorem dX12_mark_0 : decode cX12_mark 0 = .ok (.aload_n 0, 1) := dk_1042 (dk_g tcX12_mark_0 0 rfl)
theorem dX12_mark_1 : decode cX12_mark 1 = .ok (.iconst 0, 1) := dk_1003 (dk_g tcX12_mark_0 1 rfl)
theorem dX12_mark_2 : decode cX12_mark 2 = .ok (.invokevirtual 309, 3) := dk_1182 (dk_g tcX12_mark_0 2 rfl) (dk_g tcX12_mark_0 3 rfl) (dk_g tcX12_mark_0 4 rfl) rfl
theorem dX12_mark_5 : decode cX12_mark 5 = .ok (.pop, 1) := dk_1087 (dk_g tcX12_mark_0 5 rfl)
theorem dX12_mark_6 : decode cX12_mark 6 = .ok (.iconst 1, 1) := dk_1004 (dk_g tcX12_mark_0 6 rfl)
theorem dX12_mark_7 : decode cX12_mark 7 = .ok (.istore_n 1, 1) := dk_1060 (dk_g tcX12_mark_0 7 rfl)
theorem dX12_mark_8 : decode cX12_mark 8 = .ok (.iconst 0, 1) := dk_1003 (dk_g tcX12_mark_0 8 rfl)
theorem dX12_mark_9 : decode cX12_mark 9 = .ok (.istore_n 2, 1) := dk_1061 (dk_g tcX12_mark_0 9 rfl)
theorem dX12_mark_10 : decode cX12_mark 10 = .ok (.iload_n 2, 1) := dk_1028 (dk_g tcX12_mark_0 10 rfl)
theorem dX12_mark_11 : decode cX12_mark 11 = .ok (.aload_n 0, 1) := dk_1042 (dk_g tcX12_mark_0 11 rfl)
theorem tcX12_mark_1 : (cX12_mark.data.toList.drop 12).take 12 = [180, 0, 203, 162, 0, 21, 42, 27, 42, 180, 0, 25] := by decide +kernel
theorem dX12_mark_12 : decode cX12_mark 12 = .ok (.getfield 203, 3) := dk_1180 (dk_g tcX12_mark_1 0 rfl) (dk_g tcX12_mark_1 1 rfl) (dk_g tcX12_mark_1 2 rfl) rfl
theorem dX12_mark_15 : decode cX12_mark 15 = .ok (.if_icmp .ge 21, 3) := dk_2162 (dk_g tcX12_mark_1 3 rfl) (dk_g tcX12_mark_1 4 rfl) (dk_g tcX12_mark_1 5 rfl) rfl rfl
theorem dX12_mark_18 : decode cX12_mark 18 = .ok (.aload_n 0, 1) := dk_1042 (dk_g tcX12_mark_1 6 rfl)
theorem dX12_mark_19 : decode cX12_mark 19 = .ok (.iload_n 1, 1) := dk_1027 (dk_g tcX12_mark_1 7 rfl)
theorem dX12_mark_20 : decode cX12_mark 20 = .ok (.aload_n 0, 1) := dk_1042 (dk_g tcX12_mark_1 8 rfl)
theorem dX12_mark_21 : decode cX12_mark 21 = .ok (.getfield 25, 3) := dk_1180 (dk_g tcX12_mark_1 9 rfl) (dk_g tcX12_mark_1 10 rfl) (dk_g tcX12_mark_1 11 rfl) rfl
theorem tcX12_mark_2 : (cX12_mark.data.toList.drop 24).take 12 = [28, 46, 182, 0, 121, 60, 132, 2, 1, 167, 255, 233] := by decide +kernel
theorem dX12_mark_24 : decode cX12_mark 24 = .ok (.iload_n 2, 1) := dk_1028 (dk_g tcX12_mark_2 0 rfl)
theorem dX12_mark_25 : decode cX12_mark 25 = .ok (.iaload, 1) := dk_1046 (dk_g tcX12_mark_2 1 rfl)
theorem dX12_mark_26 : decode cX12_mark 26 = .ok (.invokevirtual 121, 3) := dk_1182 (dk_g tcX12_mark_2 2 rfl) (dk_g tcX12_mark_2 3 rfl) (dk_g tcX12_mark_2 4 rfl) rfl
theorem dX12_mark_29 : decode cX12_mark 29 = .ok (.istore_n 1, 1) := dk_1060 (dk_g tcX12_mark_2 5 rfl)
theorem dX12_mark_30 : decode cX12_mark 30 = .ok (.iinc 2 1, 3) := dk_1132 (dk_g tcX12_mark_2 6 rfl) (dk_g tcX12_mark_2 7 rfl) (dk_g tcX12_mark_2 8 rfl) rfl (by decide +kernel)
theorem dX12_mark_33 : decode cX12_mark 33 = .ok (.goto (-23), 3) := dk_1167 (dk_g tcX12_mark_2 9 rfl) (dk_g tcX12_mark_2 10 rfl) (dk_g tcX12_mark_2 11 rfl) (by decide +kernel)
theorem tcX12_mark_3 : (cX12_mark.data.toList.drop 36).take 12 = [27, 172] := by decide +kernel
theorem dX12_mark_36 : decode cX12_mark 36 = .ok (.iload_n 1, 1) := dk_1027 (dk_g tcX12_mark_3 0 rfl)
theorem dX12_mark_37 : decode cX12_mark 37 = .ok (.ireturn, 1) := dk_1172 (dk_g tcX12_mark_3 1 rfl)
theorem tcX12_froze_0 : (cX12_froze.data.toList.drop 0).take 12 = [42, 180, 0, 7, 16, 92, 16, 10, 27, 104, 96, 28] := by decide +kernel
theorem dX12_froze_0 : decode cX12_froze 0 = .ok (.aload_n 0, 1) := dk_1042 (dk_g tcX12_froze_0 0 rfl)
theorem dX12_froze_1 : decode cX12_froze 1 = .ok (.getfield 7, 3) := dk_1180 (dk_g tcX12_froze_0 1 rfl) (dk_g tcX12_froze_0 2 rfl) (dk_g tcX12_froze_0 3 rfl) rfl
theorem dX12_froze_4 : decode cX12_froze 4 = .ok (.bipush 92, 2) := dk_1016 (dk_g tcX12_froze_0 4 rfl) (dk_g tcX12_froze_0 5 rfl) (by decide +kernel)
theorem dX12_froze_6 : decode cX12_froze 6 = .ok (.bipush 10, 2) := dk_1016 (dk_g tcX12_froze_0 6 rfl) (dk_g tcX12_froze_0 7 rfl) (by decide +kernel)
theorem dX12_froze_8 : decode cX12_froze 8 = .ok (.iload_n 1, 1) := dk_1027 (dk_g tcX12_froze_0 8 rfl)
theorem dX12_froze_9 : decode cX12_froze 9 = .ok (.imul, 1) := dk_1104 (dk_g tcX12_froze_0 9 rfl)
theorem dX12_froze_10 : decode cX12_froze 10 = .ok (.iadd, 1) := dk_1096 (dk_g tcX12_froze_0 10 rfl)
theorem dX12_froze_11 : decode cX12_froze 11 = .ok (.iload_n 2, 1) := dk_1028 (dk_g tcX12_froze_0 11 rfl)
theorem tcX12_froze_1 : (cX12_froze.data.toList.drop 12).take 12 = [96, 46, 172] := by decide +kernel
theorem dX12_froze_12 : decode cX12_froze 12 = .ok (.iadd, 1) := dk_1096 (dk_g tcX12_froze_1 0 rfl)
theorem dX12_froze_13 : decode cX12_froze 13 = .ok (.iaload, 1) := dk_1046 (dk_g tcX12_froze_1 1 rfl)
theorem dX12_froze_14 : decode cX12_froze 14 = .ok (.ireturn, 1) := dk_1172 (dk_g tcX12_froze_1 2 rfl)
theorem tcX12_isSound_0 : (cX12_isSound.data.toList.drop 0).take 12 = [42, 42, 27, 3, 182, 1, 94, 42, 27, 4, 182, 1] := by decide +kernel
theorem dX12_isSound_0 : decode cX12_isSound 0 = .ok (.aload_n 0, 1) := dk_1042 (dk_g tcX12_isSound_0 0 rfl)
theorem dX12_isSound_1 : decode cX12_isSound 1 = .ok (.aload_n 0, 1) := dk_1042 (dk_g tcX12_isSound_0 1 rfl)
theorem dX12_isSound_2 : decode cX12_isSound 2 = .ok (.iload_n 1, 1) := dk_1027 (dk_g tcX12_isSound_0 2 rfl)
theorem dX12_isSound_3 : decode cX12_isSound 3 = .ok (.iconst 0, 1) := dk_1003 (dk_g tcX12_isSound_0 3 rfl)
theorem dX12_isSound_4 : decode cX12_isSound 4 = .ok (.invokevirtual 350, 3) := dk_1182 (dk_g tcX12_isSound_0 4 rfl) (dk_g tcX12_isSound_0 5 rfl) (dk_g tcX12_isSound_0 6 rfl) rfl
theorem dX12_isSound_7 : decode cX12_isSound 7 = .ok (.aload_n 0, 1) := dk_1042 (dk_g tcX12_isSound_0 7 rfl)
theorem dX12_isSound_8 : decode cX12_isSound 8 = .ok (.iload_n 1, 1) := dk_1027 (dk_g tcX12_isSound_0 8 rfl)
theorem dX12_isSound_9 : decode cX12_isSound 9 = .ok (.iconst 1, 1) := dk_1004 (dk_g tcX12_isSound_0 9 rfl)
theorem tcX12_isSound_1 : (cX12_isSound.data.toList.drop 12).take 12 = [94, 182, 0, 215, 42, 27, 5, 182, 1, 94, 160, 0] := by decide +kernel
theorem dX12_isSound_10 : decode cX12_isSound 10 = .ok (.invokevirtual 350, 3) := dk_1182 (dk_g tcX12_isSound_0 10 rfl) (dk_g tcX12_isSound_0 11 rfl) (dk_g tcX12_isSound_1 0 rfl) rfl
theorem dX12_isSound_13 : decode cX12_isSound 13 = .ok (.invokevirtual 215, 3) := dk_1182 (dk_g tcX12_isSound_1 1 rfl) (dk_g tcX12_isSound_1 2 rfl) (dk_g tcX12_isSound_1 3 rfl) rfl
theorem dX12_isSound_16 : decode cX12_isSound 16 = .ok (.aload_n 0, 1) := dk_1042 (dk_g tcX12_isSound_1 4 rfl)
theorem dX12_isSound_17 : decode cX12_isSound 17 = .ok (.iload_n 1, 1) := dk_1027 (dk_g tcX12_isSound_1 5 rfl)
theorem dX12_isSound_18 : decode cX12_isSound 18 = .ok (.iconst 2, 1) := dk_1005 (dk_g tcX12_isSound_1 6 rfl)
theorem dX12_isSound_19 : decode cX12_isSound 19 = .ok (.invokevirtual 350, 3) := dk_1182 (dk_g tcX12_isSound_1 7 rfl) (dk_g tcX12_isSound_1 8 rfl) (dk_g tcX12_isSound_1 9 rfl) rfl
theorem tcX12_isSound_2 : (cX12_isSound.data.toList.drop 24).take 12 = [7, 4, 167, 0, 4, 3, 172] := by decide +kernel
theorem dX12_isSound_22 : decode cX12_isSound 22 = .ok (.if_icmp .ne 7, 3) := dk_2160 (dk_g tcX12_isSound_1 10 rfl) (dk_g tcX12_isSound_1 11 rfl) (dk_g tcX12_isSound_2 0 rfl) rfl rfl
theorem dX12_isSound_25 : decode cX12_isSound 25 = .ok (.iconst 1, 1) := dk_1004 (dk_g tcX12_isSound_2 1 rfl)
theorem dX12_isSound_26 : decode cX12_isSound 26 = .ok (.goto 4, 3) := dk_2167 (dk_g tcX12_isSound_2 2 rfl) (dk_g tcX12_isSound_2 3 rfl) (dk_g tcX12_isSound_2 4 rfl) rfl rfl
theorem dX12_isSound_29 : decode cX12_isSound 29 = .ok (.iconst 0, 1) := dk_1003 (dk_g tcX12_isSound_2 5 rfl)
theorem dX12_isSound_30 : decode cX12_isSound 30 = .ok (.ireturn, 1) := dk_1172 (dk_g tcX12_isSound_2 6 rfl)
theorem tcX12_frozen_0 : (cX12_frozen.data.toList.drop 0).take 12 = [42, 27, 155, 0, 12, 28, 3, 7, 184, 0, 113, 154] := by decide +kernel
theorem dX12_frozen_0 : decode cX12_frozen 0 = .ok (.aload_n 0, 1) := dk_1042 (dk_g tcX12_frozen_0 0 rfl)
theorem dX12_frozen_1 : decode cX12_frozen 1 = .ok (.iload_n 1, 1) := dk_1027 (dk_g tcX12_frozen_0 1 rfl)
theorem dX12_frozen_2 : decode cX12_frozen 2 = .ok (.ifCond .lt 12, 3) := dk_2155 (dk_g tcX12_frozen_0 2 rfl) (dk_g tcX12_frozen_0 3 rfl) (dk_g tcX12_frozen_0 4 rfl) rfl rfl
theorem dX12_frozen_5 : decode cX12_frozen 5 = .ok (.iload_n 2, 1) := dk_1028 (dk_g tcX12_frozen_0 5 rfl)
theorem dX12_frozen_6 : decode cX12_frozen 6 = .ok (.iconst 0, 1) := dk_1003 (dk_g tcX12_frozen_0 6 rfl)
theorem dX12_frozen_7 : decode cX12_frozen 7 = .ok (.iconst 4, 1) := dk_1007 (dk_g tcX12_frozen_0 7 rfl)
theorem dX12_frozen_8 : decode cX12_frozen 8 = .ok (.invokestatic 113, 3) := dk_1184 (dk_g tcX12_frozen_0 8 rfl) (dk_g tcX12_frozen_0 9 rfl) (dk_g tcX12_frozen_0 10 rfl) rfl
theorem tcX12_frozen_1 : (cX12_frozen.data.toList.drop 12).take 12 = [0, 7, 4, 167, 0, 18, 27, 42, 180, 0, 7, 6] := by decide +kernel
theorem dX12_frozen_11 : decode cX12_frozen 11 = .ok (.ifCond .ne 7, 3) := dk_2154 (dk_g tcX12_frozen_0 11 rfl) (dk_g tcX12_frozen_1 0 rfl) (dk_g tcX12_frozen_1 1 rfl) rfl rfl
theorem dX12_frozen_14 : decode cX12_frozen 14 = .ok (.iconst 1, 1) := dk_1004 (dk_g tcX12_frozen_1 2 rfl)
theorem dX12_frozen_15 : decode cX12_frozen 15 = .ok (.goto 18, 3) := dk_2167 (dk_g tcX12_frozen_1 3 rfl) (dk_g tcX12_frozen_1 4 rfl) (dk_g tcX12_frozen_1 5 rfl) rfl rfl
theorem dX12_frozen_18 : decode cX12_frozen 18 = .ok (.iload_n 1, 1) := dk_1027 (dk_g tcX12_frozen_1 6 rfl)
theorem dX12_frozen_19 : decode cX12_frozen 19 = .ok (.aload_n 0, 1) := dk_1042 (dk_g tcX12_frozen_1 7 rfl)
theorem dX12_frozen_20 : decode cX12_frozen 20 = .ok (.getfield 7, 3) := dk_1180 (dk_g tcX12_frozen_1 8 rfl) (dk_g tcX12_frozen_1 9 rfl) (dk_g tcX12_frozen_1 10 rfl) rfl
theorem dX12_frozen_23 : decode cX12_frozen 23 = .ok (.iconst 3, 1) := dk_1006 (dk_g tcX12_frozen_1 11 rfl)
theorem tcX12_frozen_2 : (cX12_frozen.data.toList.drop 24).take 12 = [46, 161, 0, 7, 8, 167, 0, 4, 3, 182, 1, 53] := by decide +kernel
theorem dX12_frozen_24 : decode cX12_frozen 24 = .ok (.iaload, 1) := dk_1046 (dk_g tcX12_frozen_2 0 rfl)
theorem dX12_frozen_25 : decode cX12_frozen 25 = .ok (.if_icmp .lt 7, 3) := dk_2161 (dk_g tcX12_frozen_2 1 rfl) (dk_g tcX12_frozen_2 2 rfl) (dk_g tcX12_frozen_2 3 rfl) rfl rfl
theorem dX12_frozen_28 : decode cX12_frozen 28 = .ok (.iconst 5, 1) := dk_1008 (dk_g tcX12_frozen_2 4 rfl)
theorem dX12_frozen_29 : decode cX12_frozen 29 = .ok (.goto 4, 3) := dk_2167 (dk_g tcX12_frozen_2 5 rfl) (dk_g tcX12_frozen_2 6 rfl) (dk_g tcX12_frozen_2 7 rfl) rfl rfl
theorem dX12_frozen_32 : decode cX12_frozen 32 = .ok (.iconst 0, 1) := dk_1003 (dk_g tcX12_frozen_2 8 rfl)
theorem dX12_frozen_33 : decode cX12_frozen 33 = .ok (.invokevirtual 309, 3) := dk_1182 (dk_g tcX12_frozen_2 9 rfl) (dk_g tcX12_frozen_2 10 rfl) (dk_g tcX12_frozen_2 11 rfl) rfl
theorem tcX12_frozen_3 : (cX12_frozen.data.toList.drop 36).take 12 = [154, 0, 5, 2, 172, 28, 7, 162, 0, 12, 42, 27] := by decide +kernel
theorem dX12_frozen_36 : decode cX12_frozen 36 = .ok (.ifCond .ne 5, 3) := dk_2154 (dk_g tcX12_frozen_3 0 rfl) (dk_g tcX12_frozen_3 1 rfl) (dk_g tcX12_frozen_3 2 rfl) rfl rfl
theorem dX12_frozen_39 : decode cX12_frozen 39 = .ok (.iconst (-1), 1) := dk_1002 (dk_g tcX12_frozen_3 3 rfl)
theorem dX12_frozen_40 : decode cX12_frozen 40 = .ok (.ireturn, 1) := dk_1172 (dk_g tcX12_frozen_3 4 rfl)
theorem dX12_frozen_41 : decode cX12_frozen 41 = .ok (.iload_n 2, 1) := dk_1028 (dk_g tcX12_frozen_3 5 rfl)
theorem dX12_frozen_42 : decode cX12_frozen 42 = .ok (.iconst 4, 1) := dk_1007 (dk_g tcX12_frozen_3 6 rfl)
theorem dX12_frozen_43 : decode cX12_frozen 43 = .ok (.if_icmp .ge 12, 3) := dk_2162 (dk_g tcX12_frozen_3 7 rfl) (dk_g tcX12_frozen_3 8 rfl) (dk_g tcX12_frozen_3 9 rfl) rfl rfl
theorem dX12_frozen_46 : decode cX12_frozen 46 = .ok (.aload_n 0, 1) := dk_1042 (dk_g tcX12_frozen_3 10 rfl)
theorem dX12_frozen_47 : decode cX12_frozen 47 = .ok (.iload_n 1, 1) := dk_1027 (dk_g tcX12_frozen_3 11 rfl)
theorem tcX12_frozen_4 : (cX12_frozen.data.toList.drop 48).take 12 = [28, 182, 1, 94, 167, 0, 16, 42, 27, 182, 1, 97] := by decide +kernel
theorem dX12_frozen_48 : decode cX12_frozen 48 = .ok (.iload_n 2, 1) := dk_1028 (dk_g tcX12_frozen_4 0 rfl)
theorem dX12_frozen_49 : decode cX12_frozen 49 = .ok (.invokevirtual 350, 3) := dk_1182 (dk_g tcX12_frozen_4 1 rfl) (dk_g tcX12_frozen_4 2 rfl) (dk_g tcX12_frozen_4 3 rfl) rfl
theorem dX12_frozen_52 : decode cX12_frozen 52 = .ok (.goto 16, 3) := dk_2167 (dk_g tcX12_frozen_4 4 rfl) (dk_g tcX12_frozen_4 5 rfl) (dk_g tcX12_frozen_4 6 rfl) rfl rfl
theorem dX12_frozen_55 : decode cX12_frozen 55 = .ok (.aload_n 0, 1) := dk_1042 (dk_g tcX12_frozen_4 7 rfl)
theorem dX12_frozen_56 : decode cX12_frozen 56 = .ok (.iload_n 1, 1) := dk_1027 (dk_g tcX12_frozen_4 8 rfl)
theorem dX12_frozen_57 : decode cX12_frozen 57 = .ok (.invokevirtual 353, 3) := dk_1182 (dk_g tcX12_frozen_4 9 rfl) (dk_g tcX12_frozen_4 10 rfl) (dk_g tcX12_frozen_4 11 rfl) rfl
theorem tcX12_frozen_5 : (cX12_frozen.data.toList.drop 60).take 12 = [153, 0, 7, 4, 167, 0, 4, 3, 172] := by decide +kernel
theorem dX12_frozen_60 : decode cX12_frozen 60 = .ok (.ifCond .eq 7, 3) := dk_2153 (dk_g tcX12_frozen_5 0 rfl) (dk_g tcX12_frozen_5 1 rfl) (dk_g tcX12_frozen_5 2 rfl) rfl rfl
theorem dX12_frozen_63 : decode cX12_frozen 63 = .ok (.iconst 1, 1) := dk_1004 (dk_g tcX12_frozen_5 3 rfl)
theorem dX12_frozen_64 : decode cX12_frozen 64 = .ok (.goto 4, 3) := dk_2167 (dk_g tcX12_frozen_5 4 rfl) (dk_g tcX12_frozen_5 5 rfl) (dk_g tcX12_frozen_5 6 rfl) rfl rfl
theorem dX12_frozen_67 : decode cX12_frozen 67 = .ok (.iconst 0, 1) := dk_1003 (dk_g tcX12_frozen_5 7 rfl)
theorem dX12_frozen_68 : decode cX12_frozen 68 = .ok (.ireturn, 1) := dk_1172 (dk_g tcX12_frozen_5 8 rfl)
theorem tcX12_isWatcher_0 : (cX12_isWatcher.data.toList.drop 0).take 12 = [26, 3, 6, 184, 0, 113, 172] := by decide +kernel
theorem dX12_isWatcher_0 : decode cX12_isWatcher 0 = .ok (.iload_n 0, 1) := dk_1026 (dk_g tcX12_isWatcher_0 0 rfl)
theorem dX12_isWatcher_1 : decode cX12_isWatcher 1 = .ok (.iconst 0, 1) := dk_1003 (dk_g tcX12_isWatcher_0 1 rfl)
theorem dX12_isWatcher_2 : decode cX12_isWatcher 2 = .ok (.iconst 3, 1) := dk_1006 (dk_g tcX12_isWatcher_0 2 rfl)
theorem dX12_isWatcher_3 : decode cX12_isWatcher 3 = .ok (.invokestatic 113, 3) := dk_1184 (dk_g tcX12_isWatcher_0 3 rfl) (dk_g tcX12_isWatcher_0 4 rfl) (dk_g tcX12_isWatcher_0 5 rfl) rfl
theorem dX12_isWatcher_6 : decode cX12_isWatcher 6 = .ok (.ireturn, 1) := dk_1172 (dk_g tcX12_isWatcher_0 6 rfl)
theorem tcX12_watcher_0 : (cX12_watcher.data.toList.drop 0).take 12 = [42, 28, 3, 6, 184, 0, 113, 154, 0, 7, 4, 167] := by decide +kernel
theorem dX12_watcher_0 : decode cX12_watcher 0 = .ok (.aload_n 0, 1) := dk_1042 (dk_g tcX12_watcher_0 0 rfl)
theorem dX12_watcher_1 : decode cX12_watcher 1 = .ok (.iload_n 2, 1) := dk_1028 (dk_g tcX12_watcher_0 1 rfl)
theorem dX12_watcher_2 : decode cX12_watcher 2 = .ok (.iconst 0, 1) := dk_1003 (dk_g tcX12_watcher_0 2 rfl)
theorem dX12_watcher_3 : decode cX12_watcher 3 = .ok (.iconst 3, 1) := dk_1006 (dk_g tcX12_watcher_0 3 rfl)
theorem dX12_watcher_4 : decode cX12_watcher 4 = .ok (.invokestatic 113, 3) := dk_1184 (dk_g tcX12_watcher_0 4 rfl) (dk_g tcX12_watcher_0 5 rfl) (dk_g tcX12_watcher_0 6 rfl) rfl
theorem dX12_watcher_7 : decode cX12_watcher 7 = .ok (.ifCond .ne 7, 3) := dk_2154 (dk_g tcX12_watcher_0 7 rfl) (dk_g tcX12_watcher_0 8 rfl) (dk_g tcX12_watcher_0 9 rfl) rfl rfl
theorem dX12_watcher_10 : decode cX12_watcher 10 = .ok (.iconst 1, 1) := dk_1004 (dk_g tcX12_watcher_0 10 rfl)
theorem tcX12_watcher_1 : (cX12_watcher.data.toList.drop 12).take 12 = [0, 15, 27, 184, 1, 100, 154, 0, 7, 5, 167, 0] := by decide +kernel
theorem dX12_watcher_11 : decode cX12_watcher 11 = .ok (.goto 15, 3) := dk_2167 (dk_g tcX12_watcher_0 11 rfl) (dk_g tcX12_watcher_1 0 rfl) (dk_g tcX12_watcher_1 1 rfl) rfl rfl
theorem dX12_watcher_14 : decode cX12_watcher 14 = .ok (.iload_n 1, 1) := dk_1027 (dk_g tcX12_watcher_1 2 rfl)
theorem dX12_watcher_15 : decode cX12_watcher 15 = .ok (.invokestatic 356, 3) := dk_1184 (dk_g tcX12_watcher_1 3 rfl) (dk_g tcX12_watcher_1 4 rfl) (dk_g tcX12_watcher_1 5 rfl) rfl
theorem dX12_watcher_18 : decode cX12_watcher 18 = .ok (.ifCond .ne 7, 3) := dk_2154 (dk_g tcX12_watcher_1 6 rfl) (dk_g tcX12_watcher_1 7 rfl) (dk_g tcX12_watcher_1 8 rfl) rfl rfl
theorem dX12_watcher_21 : decode cX12_watcher 21 = .ok (.iconst 2, 1) := dk_1005 (dk_g tcX12_watcher_1 9 rfl)
theorem tcX12_watcher_2 : (cX12_watcher.data.toList.drop 24).take 12 = [4, 3, 182, 1, 53, 153, 0, 12, 42, 27, 28, 182] := by decide +kernel
theorem dX12_watcher_22 : decode cX12_watcher 22 = .ok (.goto 4, 3) := dk_2167 (dk_g tcX12_watcher_1 10 rfl) (dk_g tcX12_watcher_1 11 rfl) (dk_g tcX12_watcher_2 0 rfl) rfl rfl
theorem dX12_watcher_25 : decode cX12_watcher 25 = .ok (.iconst 0, 1) := dk_1003 (dk_g tcX12_watcher_2 1 rfl)
theorem dX12_watcher_26 : decode cX12_watcher 26 = .ok (.invokevirtual 309, 3) := dk_1182 (dk_g tcX12_watcher_2 2 rfl) (dk_g tcX12_watcher_2 3 rfl) (dk_g tcX12_watcher_2 4 rfl) rfl
theorem dX12_watcher_29 : decode cX12_watcher 29 = .ok (.ifCond .eq 12, 3) := dk_2153 (dk_g tcX12_watcher_2 5 rfl) (dk_g tcX12_watcher_2 6 rfl) (dk_g tcX12_watcher_2 7 rfl) rfl rfl
theorem dX12_watcher_32 : decode cX12_watcher 32 = .ok (.aload_n 0, 1) := dk_1042 (dk_g tcX12_watcher_2 8 rfl)
theorem dX12_watcher_33 : decode cX12_watcher 33 = .ok (.iload_n 1, 1) := dk_1027 (dk_g tcX12_watcher_2 9 rfl)
theorem dX12_watcher_34 : decode cX12_watcher 34 = .ok (.iload_n 2, 1) := dk_1028 (dk_g tcX12_watcher_2 10 rfl)
theorem tcX12_watcher_3 : (cX12_watcher.data.toList.drop 36).take 12 = [0, 221, 167, 0, 4, 2, 172] := by decide +kernel
theorem dX12_watcher_35 : decode cX12_watcher 35 = .ok (.invokevirtual 221, 3) := dk_1182 (dk_g tcX12_watcher_2 11 rfl) (dk_g tcX12_watcher_3 0 rfl) (dk_g tcX12_watcher_3 1 rfl) rfl
theorem dX12_watcher_38 : decode cX12_watcher 38 = .ok (.goto 4, 3) := dk_2167 (dk_g tcX12_watcher_3 2 rfl) (dk_g tcX12_watcher_3 3 rfl) (dk_g tcX12_watcher_3 4 rfl) rfl rfl
theorem dX12_watcher_41 : decode cX12_watcher 41 = .ok (.iconst (-1), 1) := dk_1002 (dk_g tcX12_watcher_3 5 rfl)
theorem dX12_watcher_42 : decode cX12_watcher 42 = .ok (.ireturn, 1) := dk_1172 (dk_g tcX12_watcher_3 6 rfl)
theorem tcX12_add_0 : (cX12_add.data.toList.drop 0).take 12 = [42, 42, 27, 182, 1, 88, 153, 0, 7, 3, 167, 0] := by decide +kernel
theorem dX12_add_0 : decode cX12_add 0 = .ok (.aload_n 0, 1) := dk_1042 (dk_g tcX12_add_0 0 rfl)
theorem dX12_add_1 : decode cX12_add 1 = .ok (.aload_n 0, 1) := dk_1042 (dk_g tcX12_add_0 1 rfl)
theorem dX12_add_2 : decode cX12_add 2 = .ok (.iload_n 1, 1) := dk_1027 (dk_g tcX12_add_0 2 rfl)
theorem dX12_add_3 : decode cX12_add 3 = .ok (.invokevirtual 344, 3) := dk_1182 (dk_g tcX12_add_0 3 rfl) (dk_g tcX12_add_0 4 rfl) (dk_g tcX12_add_0 5 rfl) rfl
theorem dX12_add_6 : decode cX12_add 6 = .ok (.ifCond .eq 7, 3) := dk_2153 (dk_g tcX12_add_0 6 rfl) (dk_g tcX12_add_0 7 rfl) (dk_g tcX12_add_0 8 rfl) rfl rfl
theorem dX12_add_9 : decode cX12_add 9 = .ok (.iconst 0, 1) := dk_1003 (dk_g tcX12_add_0 9 rfl)
theorem tcX12_add_1 : (cX12_add.data.toList.drop 12).take 12 = [4, 5, 182, 1, 53, 154, 0, 5, 2, 172, 42, 182] := by decide +kernel
theorem dX12_add_10 : decode cX12_add 10 = .ok (.goto 4, 3) := dk_2167 (dk_g tcX12_add_0 10 rfl) (dk_g tcX12_add_0 11 rfl) (dk_g tcX12_add_1 0 rfl) rfl rfl
theorem dX12_add_13 : decode cX12_add 13 = .ok (.iconst 2, 1) := dk_1005 (dk_g tcX12_add_1 1 rfl)
theorem dX12_add_14 : decode cX12_add 14 = .ok (.invokevirtual 309, 3) := dk_1182 (dk_g tcX12_add_1 2 rfl) (dk_g tcX12_add_1 3 rfl) (dk_g tcX12_add_1 4 rfl) rfl
theorem dX12_add_17 : decode cX12_add 17 = .ok (.ifCond .ne 5, 3) := dk_2154 (dk_g tcX12_add_1 5 rfl) (dk_g tcX12_add_1 6 rfl) (dk_g tcX12_add_1 7 rfl) rfl rfl
theorem dX12_add_20 : decode cX12_add 20 = .ok (.iconst (-1), 1) := dk_1002 (dk_g tcX12_add_1 8 rfl)
theorem dX12_add_21 : decode cX12_add 21 = .ok (.ireturn, 1) := dk_1172 (dk_g tcX12_add_1 9 rfl)
theorem dX12_add_22 : decode cX12_add 22 = .ok (.aload_n 0, 1) := dk_1042 (dk_g tcX12_add_1 10 rfl)
theorem tcX12_add_2 : (cX12_add.data.toList.drop 24).take 12 = [1, 103, 42, 27, 182, 1, 32, 172] := by decide +kernel
theorem dX12_add_23 : decode cX12_add 23 = .ok (.invokevirtual 359, 3) := dk_1182 (dk_g tcX12_add_1 11 rfl) (dk_g tcX12_add_2 0 rfl) (dk_g tcX12_add_2 1 rfl) rfl
theorem dX12_add_26 : decode cX12_add 26 = .ok (.aload_n 0, 1) := dk_1042 (dk_g tcX12_add_2 2 rfl)
theorem dX12_add_27 : decode cX12_add 27 = .ok (.iload_n 1, 1) := dk_1027 (dk_g tcX12_add_2 3 rfl)
theorem dX12_add_28 : decode cX12_add 28 = .ok (.invokevirtual 288, 3) := dk_1182 (dk_g tcX12_add_2 4 rfl) (dk_g tcX12_add_2 5 rfl) (dk_g tcX12_add_2 6 rfl) rfl
theorem dX12_add_31 : decode cX12_add 31 = .ok (.ireturn, 1) := dk_1172 (dk_g tcX12_add_2 7 rfl)
theorem tcX12_fork_0 : (cX12_fork.data.toList.drop 0).take 12 = [42, 28, 156, 0, 7, 4, 167, 0, 16, 42, 27, 182] := by decide +kernel
theorem dX12_fork_0 : decode cX12_fork 0 = .ok (.aload_n 0, 1) := dk_1042 (dk_g tcX12_fork_0 0 rfl)
theorem dX12_fork_1 : decode cX12_fork 1 = .ok (.iload_n 2, 1) := dk_1028 (dk_g tcX12_fork_0 1 rfl)
theorem dX12_fork_2 : decode cX12_fork 2 = .ok (.ifCond .ge 7, 3) := dk_2156 (dk_g tcX12_fork_0 2 rfl) (dk_g tcX12_fork_0 3 rfl) (dk_g tcX12_fork_0 4 rfl) rfl rfl
theorem dX12_fork_5 : decode cX12_fork 5 = .ok (.iconst 1, 1) := dk_1004 (dk_g tcX12_fork_0 5 rfl)
theorem dX12_fork_6 : decode cX12_fork 6 = .ok (.goto 16, 3) := dk_2167 (dk_g tcX12_fork_0 6 rfl) (dk_g tcX12_fork_0 7 rfl) (dk_g tcX12_fork_0 8 rfl) rfl rfl
theorem dX12_fork_9 : decode cX12_fork 9 = .ok (.aload_n 0, 1) := dk_1042 (dk_g tcX12_fork_0 9 rfl)
theorem dX12_fork_10 : decode cX12_fork 10 = .ok (.iload_n 1, 1) := dk_1027 (dk_g tcX12_fork_0 10 rfl)
theorem tcX12_fork_1 : (cX12_fork.data.toList.drop 12).take 12 = [1, 88, 154, 0, 7, 5, 167, 0, 4, 3, 182, 1] := by decide +kernel
theorem dX12_fork_11 : decode cX12_fork 11 = .ok (.invokevirtual 344, 3) := dk_1182 (dk_g tcX12_fork_0 11 rfl) (dk_g tcX12_fork_1 0 rfl) (dk_g tcX12_fork_1 1 rfl) rfl
theorem dX12_fork_14 : decode cX12_fork 14 = .ok (.ifCond .ne 7, 3) := dk_2154 (dk_g tcX12_fork_1 2 rfl) (dk_g tcX12_fork_1 3 rfl) (dk_g tcX12_fork_1 4 rfl) rfl rfl
theorem dX12_fork_17 : decode cX12_fork 17 = .ok (.iconst 2, 1) := dk_1005 (dk_g tcX12_fork_1 5 rfl)
theorem dX12_fork_18 : decode cX12_fork 18 = .ok (.goto 4, 3) := dk_2167 (dk_g tcX12_fork_1 6 rfl) (dk_g tcX12_fork_1 7 rfl) (dk_g tcX12_fork_1 8 rfl) rfl rfl
theorem dX12_fork_21 : decode cX12_fork 21 = .ok (.iconst 0, 1) := dk_1003 (dk_g tcX12_fork_1 9 rfl)
theorem tcX12_fork_2 : (cX12_fork.data.toList.drop 24).take 12 = [53, 153, 0, 12, 42, 27, 28, 182, 1, 35, 167, 0] := by decide +kernel
theorem dX12_fork_22 : decode cX12_fork 22 = .ok (.invokevirtual 309, 3) := dk_1182 (dk_g tcX12_fork_1 10 rfl) (dk_g tcX12_fork_1 11 rfl) (dk_g tcX12_fork_2 0 rfl) rfl
theorem dX12_fork_25 : decode cX12_fork 25 = .ok (.ifCond .eq 12, 3) := dk_2153 (dk_g tcX12_fork_2 1 rfl) (dk_g tcX12_fork_2 2 rfl) (dk_g tcX12_fork_2 3 rfl) rfl rfl
theorem dX12_fork_28 : decode cX12_fork 28 = .ok (.aload_n 0, 1) := dk_1042 (dk_g tcX12_fork_2 4 rfl)
theorem dX12_fork_29 : decode cX12_fork 29 = .ok (.iload_n 1, 1) := dk_1027 (dk_g tcX12_fork_2 5 rfl)
theorem dX12_fork_30 : decode cX12_fork 30 = .ok (.iload_n 2, 1) := dk_1028 (dk_g tcX12_fork_2 6 rfl)
theorem dX12_fork_31 : decode cX12_fork 31 = .ok (.invokevirtual 291, 3) := dk_1182 (dk_g tcX12_fork_2 7 rfl) (dk_g tcX12_fork_2 8 rfl) (dk_g tcX12_fork_2 9 rfl) rfl
theorem tcX12_fork_3 : (cX12_fork.data.toList.drop 36).take 12 = [4, 2, 172] := by decide +kernel
theorem dX12_fork_34 : decode cX12_fork 34 = .ok (.goto 4, 3) := dk_2167 (dk_g tcX12_fork_2 10 rfl) (dk_g tcX12_fork_2 11 rfl) (dk_g tcX12_fork_3 0 rfl) rfl rfl
theorem dX12_fork_37 : decode cX12_fork 37 = .ok (.iconst (-1), 1) := dk_1002 (dk_g tcX12_fork_3 1 rfl)
theorem dX12_fork_38 : decode cX12_fork 38 = .ok (.ireturn, 1) := dk_1172 (dk_g tcX12_fork_3 2 rfl)
theorem tcX12_freeze_0 : (cX12_freeze.data.toList.drop 0).take 12 = [42, 42, 27, 182, 1, 88, 153, 0, 7, 3, 167, 0] := by decide +kernel
theorem dX12_freeze_0 : decode cX12_freeze 0 = .ok (.aload_n 0, 1) := dk_1042 (dk_g tcX12_freeze_0 0 rfl)
theorem dX12_freeze_1 : decode cX12_freeze 1 = .ok (.aload_n 0, 1) := dk_1042 (dk_g tcX12_freeze_0 1 rfl)
theorem dX12_freeze_2 : decode cX12_freeze 2 = .ok (.iload_n 1, 1) := dk_1027 (dk_g tcX12_freeze_0 2 rfl)
theorem dX12_freeze_3 : decode cX12_freeze 3 = .ok (.invokevirtual 344, 3) := dk_1182 (dk_g tcX12_freeze_0 3 rfl) (dk_g tcX12_freeze_0 4 rfl) (dk_g tcX12_freeze_0 5 rfl) rfl
theorem dX12_freeze_6 : decode cX12_freeze 6 = .ok (.ifCond .eq 7, 3) := dk_2153 (dk_g tcX12_freeze_0 6 rfl) (dk_g tcX12_freeze_0 7 rfl) (dk_g tcX12_freeze_0 8 rfl) rfl rfl
theorem dX12_freeze_9 : decode cX12_freeze 9 = .ok (.iconst 0, 1) := dk_1003 (dk_g tcX12_freeze_0 9 rfl)
theorem tcX12_freeze_1 : (cX12_freeze.data.toList.drop 12).take 12 = [4, 5, 182, 1, 53, 153, 0, 11, 42, 27, 182, 1] := by decide +kernel
theorem dX12_freeze_10 : decode cX12_freeze 10 = .ok (.goto 4, 3) := dk_2167 (dk_g tcX12_freeze_0 10 rfl) (dk_g tcX12_freeze_0 11 rfl) (dk_g tcX12_freeze_1 0 rfl) rfl rfl
theorem dX12_freeze_13 : decode cX12_freeze 13 = .ok (.iconst 2, 1) := dk_1005 (dk_g tcX12_freeze_1 1 rfl)
theorem dX12_freeze_14 : decode cX12_freeze 14 = .ok (.invokevirtual 309, 3) := dk_1182 (dk_g tcX12_freeze_1 2 rfl) (dk_g tcX12_freeze_1 3 rfl) (dk_g tcX12_freeze_1 4 rfl) rfl
theorem dX12_freeze_17 : decode cX12_freeze 17 = .ok (.ifCond .eq 11, 3) := dk_2153 (dk_g tcX12_freeze_1 5 rfl) (dk_g tcX12_freeze_1 6 rfl) (dk_g tcX12_freeze_1 7 rfl) rfl rfl
theorem dX12_freeze_20 : decode cX12_freeze 20 = .ok (.aload_n 0, 1) := dk_1042 (dk_g tcX12_freeze_1 8 rfl)
theorem dX12_freeze_21 : decode cX12_freeze 21 = .ok (.iload_n 1, 1) := dk_1027 (dk_g tcX12_freeze_1 9 rfl)
theorem tcX12_freeze_2 : (cX12_freeze.data.toList.drop 24).take 12 = [44, 167, 0, 4, 2, 172] := by decide +kernel
theorem dX12_freeze_22 : decode cX12_freeze 22 = .ok (.invokevirtual 300, 3) := dk_1182 (dk_g tcX12_freeze_1 10 rfl) (dk_g tcX12_freeze_1 11 rfl) (dk_g tcX12_freeze_2 0 rfl) rfl
theorem dX12_freeze_25 : decode cX12_freeze 25 = .ok (.goto 4, 3) := dk_2167 (dk_g tcX12_freeze_2 1 rfl) (dk_g tcX12_freeze_2 2 rfl) (dk_g tcX12_freeze_2 3 rfl) rfl rfl
theorem dX12_freeze_28 : decode cX12_freeze 28 = .ok (.iconst (-1), 1) := dk_1002 (dk_g tcX12_freeze_2 4 rfl)
theorem dX12_freeze_29 : decode cX12_freeze 29 = .ok (.ireturn, 1) := dk_1172 (dk_g tcX12_freeze_2 5 rfl)
theorem tcX12_show_0 : (cX12_show.data.toList.drop 0).take 12 = [42, 29, 156, 0, 7, 4, 167, 0, 36, 27, 184, 1] := by decide +kernel
theorem dX12_show_0 : decode cX12_show 0 = .ok (.aload_n 0, 1) := dk_1042 (dk_g tcX12_show_0 0 rfl)
theorem dX12_show_1 : decode cX12_show 1 = .ok (.iload_n 3, 1) := dk_1029 (dk_g tcX12_show_0 1 rfl)
theorem dX12_show_2 : decode cX12_show 2 = .ok (.ifCond .ge 7, 3) := dk_2156 (dk_g tcX12_show_0 2 rfl) (dk_g tcX12_show_0 3 rfl) (dk_g tcX12_show_0 4 rfl) rfl rfl
theorem dX12_show_5 : decode cX12_show 5 = .ok (.iconst 1, 1) := dk_1004 (dk_g tcX12_show_0 5 rfl)
theorem dX12_show_6 : decode cX12_show 6 = .ok (.goto 36, 3) := dk_2167 (dk_g tcX12_show_0 6 rfl) (dk_g tcX12_show_0 7 rfl) (dk_g tcX12_show_0 8 rfl) rfl rfl
theorem dX12_show_9 : decode cX12_show 9 = .ok (.iload_n 1, 1) := dk_1027 (dk_g tcX12_show_0 9 rfl)
theorem tcX12_show_1 : (cX12_show.data.toList.drop 12).take 12 = [100, 153, 0, 11, 42, 28, 182, 1, 88, 154, 0, 7] := by decide +kernel
theorem dX12_show_10 : decode cX12_show 10 = .ok (.invokestatic 356, 3) := dk_1184 (dk_g tcX12_show_0 10 rfl) (dk_g tcX12_show_0 11 rfl) (dk_g tcX12_show_1 0 rfl) rfl
theorem dX12_show_13 : decode cX12_show 13 = .ok (.ifCond .eq 11, 3) := dk_2153 (dk_g tcX12_show_1 1 rfl) (dk_g tcX12_show_1 2 rfl) (dk_g tcX12_show_1 3 rfl) rfl rfl
theorem dX12_show_16 : decode cX12_show 16 = .ok (.aload_n 0, 1) := dk_1042 (dk_g tcX12_show_1 4 rfl)
theorem dX12_show_17 : decode cX12_show 17 = .ok (.iload_n 2, 1) := dk_1028 (dk_g tcX12_show_1 5 rfl)
theorem dX12_show_18 : decode cX12_show 18 = .ok (.invokevirtual 344, 3) := dk_1182 (dk_g tcX12_show_1 6 rfl) (dk_g tcX12_show_1 7 rfl) (dk_g tcX12_show_1 8 rfl) rfl
theorem dX12_show_21 : decode cX12_show 21 = .ok (.ifCond .ne 7, 3) := dk_2154 (dk_g tcX12_show_1 9 rfl) (dk_g tcX12_show_1 10 rfl) (dk_g tcX12_show_1 11 rfl) rfl rfl
theorem tcX12_show_2 : (cX12_show.data.toList.drop 24).take 12 = [5, 167, 0, 17, 29, 42, 28, 182, 0, 209, 164, 0] := by decide +kernel
theorem dX12_show_24 : decode cX12_show 24 = .ok (.iconst 2, 1) := dk_1005 (dk_g tcX12_show_2 0 rfl)
theorem dX12_show_25 : decode cX12_show 25 = .ok (.goto 17, 3) := dk_2167 (dk_g tcX12_show_2 1 rfl) (dk_g tcX12_show_2 2 rfl) (dk_g tcX12_show_2 3 rfl) rfl rfl
theorem dX12_show_28 : decode cX12_show 28 = .ok (.iload_n 3, 1) := dk_1029 (dk_g tcX12_show_2 4 rfl)
theorem dX12_show_29 : decode cX12_show 29 = .ok (.aload_n 0, 1) := dk_1042 (dk_g tcX12_show_2 5 rfl)
theorem dX12_show_30 : decode cX12_show 30 = .ok (.iload_n 2, 1) := dk_1028 (dk_g tcX12_show_2 6 rfl)
theorem dX12_show_31 : decode cX12_show 31 = .ok (.invokevirtual 209, 3) := dk_1182 (dk_g tcX12_show_2 7 rfl) (dk_g tcX12_show_2 8 rfl) (dk_g tcX12_show_2 9 rfl) rfl
theorem tcX12_show_3 : (cX12_show.data.toList.drop 36).take 12 = [7, 8, 167, 0, 4, 3, 182, 1, 53, 154, 0, 5] := by decide +kernel
theorem dX12_show_34 : decode cX12_show 34 = .ok (.if_icmp .le 7, 3) := dk_2164 (dk_g tcX12_show_2 10 rfl) (dk_g tcX12_show_2 11 rfl) (dk_g tcX12_show_3 0 rfl) rfl rfl
theorem dX12_show_37 : decode cX12_show 37 = .ok (.iconst 5, 1) := dk_1008 (dk_g tcX12_show_3 1 rfl)
theorem dX12_show_38 : decode cX12_show 38 = .ok (.goto 4, 3) := dk_2167 (dk_g tcX12_show_3 2 rfl) (dk_g tcX12_show_3 3 rfl) (dk_g tcX12_show_3 4 rfl) rfl rfl
theorem dX12_show_41 : decode cX12_show 41 = .ok (.iconst 0, 1) := dk_1003 (dk_g tcX12_show_3 5 rfl)
theorem dX12_show_42 : decode cX12_show 42 = .ok (.invokevirtual 309, 3) := dk_1182 (dk_g tcX12_show_3 6 rfl) (dk_g tcX12_show_3 7 rfl) (dk_g tcX12_show_3 8 rfl) rfl
theorem dX12_show_45 : decode cX12_show 45 = .ok (.ifCond .ne 5, 3) := dk_2154 (dk_g tcX12_show_3 9 rfl) (dk_g tcX12_show_3 10 rfl) (dk_g tcX12_show_3 11 rfl) rfl rfl
theorem tcX12_show_4 : (cX12_show.data.toList.drop 48).take 12 = [2, 172, 42, 27, 28, 29, 182, 1, 50, 172] := by decide +kernel
theorem dX12_show_48 : decode cX12_show 48 = .ok (.iconst (-1), 1) := dk_1002 (dk_g tcX12_show_4 0 rfl)
theorem dX12_show_49 : decode cX12_show 49 = .ok (.ireturn, 1) := dk_1172 (dk_g tcX12_show_4 1 rfl)
theorem dX12_show_50 : decode cX12_show 50 = .ok (.aload_n 0, 1) := dk_1042 (dk_g tcX12_show_4 2 rfl)
theorem dX12_show_51 : decode cX12_show 51 = .ok (.iload_n 1, 1) := dk_1027 (dk_g tcX12_show_4 3 rfl)
theorem dX12_show_52 : decode cX12_show 52 = .ok (.iload_n 2, 1) := dk_1028 (dk_g tcX12_show_4 4 rfl)
theorem dX12_show_53 : decode cX12_show 53 = .ok (.iload_n 3, 1) := dk_1029 (dk_g tcX12_show_4 5 rfl)
theorem dX12_show_54 : decode cX12_show 54 = .ok (.invokevirtual 306, 3) := dk_1182 (dk_g tcX12_show_4 6 rfl) (dk_g tcX12_show_4 7 rfl) (dk_g tcX12_show_4 8 rfl) rfl
theorem dX12_show_57 : decode cX12_show 57 = .ok (.ireturn, 1) := dk_1172 (dk_g tcX12_show_4 9 rfl)
theorem tcX12_meet_0 : (cX12_meet.data.toList.drop 0).take 12 = [42, 27, 184, 1, 100, 153, 0, 22, 28, 184, 1, 100] := by decide +kernel
theorem dX12_meet_0 : decode cX12_meet 0 = .ok (.aload_n 0, 1) := dk_1042 (dk_g tcX12_meet_0 0 rfl)
theorem dX12_meet_1 : decode cX12_meet 1 = .ok (.iload_n 1, 1) := dk_1027 (dk_g tcX12_meet_0 1 rfl)
theorem dX12_meet_2 : decode cX12_meet 2 = .ok (.invokestatic 356, 3) := dk_1184 (dk_g tcX12_meet_0 2 rfl) (dk_g tcX12_meet_0 3 rfl) (dk_g tcX12_meet_0 4 rfl) rfl
theorem dX12_meet_5 : decode cX12_meet 5 = .ok (.ifCond .eq 22, 3) := dk_2153 (dk_g tcX12_meet_0 5 rfl) (dk_g tcX12_meet_0 6 rfl) (dk_g tcX12_meet_0 7 rfl) rfl rfl
theorem dX12_meet_8 : decode cX12_meet 8 = .ok (.iload_n 2, 1) := dk_1028 (dk_g tcX12_meet_0 8 rfl)
theorem dX12_meet_9 : decode cX12_meet 9 = .ok (.invokestatic 356, 3) := dk_1184 (dk_g tcX12_meet_0 9 rfl) (dk_g tcX12_meet_0 10 rfl) (dk_g tcX12_meet_0 11 rfl) rfl
theorem tcX12_meet_1 : (cX12_meet.data.toList.drop 12).take 12 = [153, 0, 15, 42, 29, 182, 1, 88, 153, 0, 7, 3] := by decide +kernel
theorem dX12_meet_12 : decode cX12_meet 12 = .ok (.ifCond .eq 15, 3) := dk_2153 (dk_g tcX12_meet_1 0 rfl) (dk_g tcX12_meet_1 1 rfl) (dk_g tcX12_meet_1 2 rfl) rfl rfl
theorem dX12_meet_15 : decode cX12_meet 15 = .ok (.aload_n 0, 1) := dk_1042 (dk_g tcX12_meet_1 3 rfl)
theorem dX12_meet_16 : decode cX12_meet 16 = .ok (.iload_n 3, 1) := dk_1029 (dk_g tcX12_meet_1 4 rfl)
theorem dX12_meet_17 : decode cX12_meet 17 = .ok (.invokevirtual 344, 3) := dk_1182 (dk_g tcX12_meet_1 5 rfl) (dk_g tcX12_meet_1 6 rfl) (dk_g tcX12_meet_1 7 rfl) rfl
theorem dX12_meet_20 : decode cX12_meet 20 = .ok (.ifCond .eq 7, 3) := dk_2153 (dk_g tcX12_meet_1 8 rfl) (dk_g tcX12_meet_1 9 rfl) (dk_g tcX12_meet_1 10 rfl) rfl rfl
theorem dX12_meet_23 : decode cX12_meet 23 = .ok (.iconst 0, 1) := dk_1003 (dk_g tcX12_meet_1 11 rfl)
theorem tcX12_meet_2 : (cX12_meet.data.toList.drop 24).take 12 = [167, 0, 4, 5, 182, 1, 53, 154, 0, 5, 2, 172] := by decide +kernel
theorem dX12_meet_24 : decode cX12_meet 24 = .ok (.goto 4, 3) := dk_2167 (dk_g tcX12_meet_2 0 rfl) (dk_g tcX12_meet_2 1 rfl) (dk_g tcX12_meet_2 2 rfl) rfl rfl
theorem dX12_meet_27 : decode cX12_meet 27 = .ok (.iconst 2, 1) := dk_1005 (dk_g tcX12_meet_2 3 rfl)
theorem dX12_meet_28 : decode cX12_meet 28 = .ok (.invokevirtual 309, 3) := dk_1182 (dk_g tcX12_meet_2 4 rfl) (dk_g tcX12_meet_2 5 rfl) (dk_g tcX12_meet_2 6 rfl) rfl
theorem dX12_meet_31 : decode cX12_meet 31 = .ok (.ifCond .ne 5, 3) := dk_2154 (dk_g tcX12_meet_2 7 rfl) (dk_g tcX12_meet_2 8 rfl) (dk_g tcX12_meet_2 9 rfl) rfl rfl
theorem dX12_meet_34 : decode cX12_meet 34 = .ok (.iconst (-1), 1) := dk_1002 (dk_g tcX12_meet_2 10 rfl)
theorem dX12_meet_35 : decode cX12_meet 35 = .ok (.ireturn, 1) := dk_1172 (dk_g tcX12_meet_2 11 rfl)
theorem tcX12_meet_3 : (cX12_meet.data.toList.drop 36).take 12 = [42, 27, 3, 182, 0, 221, 42, 28, 3, 182, 0, 221] := by decide +kernel
theorem dX12_meet_36 : decode cX12_meet 36 = .ok (.aload_n 0, 1) := dk_1042 (dk_g tcX12_meet_3 0 rfl)
theorem dX12_meet_37 : decode cX12_meet 37 = .ok (.iload_n 1, 1) := dk_1027 (dk_g tcX12_meet_3 1 rfl)
theorem dX12_meet_38 : decode cX12_meet 38 = .ok (.iconst 0, 1) := dk_1003 (dk_g tcX12_meet_3 2 rfl)
theorem dX12_meet_39 : decode cX12_meet 39 = .ok (.invokevirtual 221, 3) := dk_1182 (dk_g tcX12_meet_3 3 rfl) (dk_g tcX12_meet_3 4 rfl) (dk_g tcX12_meet_3 5 rfl) rfl
theorem dX12_meet_42 : decode cX12_meet 42 = .ok (.aload_n 0, 1) := dk_1042 (dk_g tcX12_meet_3 6 rfl)
theorem dX12_meet_43 : decode cX12_meet 43 = .ok (.iload_n 2, 1) := dk_1028 (dk_g tcX12_meet_3 7 rfl)
theorem dX12_meet_44 : decode cX12_meet 44 = .ok (.iconst 0, 1) := dk_1003 (dk_g tcX12_meet_3 8 rfl)
theorem dX12_meet_45 : decode cX12_meet 45 = .ok (.invokevirtual 221, 3) := dk_1182 (dk_g tcX12_meet_3 9 rfl) (dk_g tcX12_meet_3 10 rfl) (dk_g tcX12_meet_3 11 rfl) rfl
theorem tcX12_meet_4 : (cX12_meet.data.toList.drop 48).take 12 = [163, 0, 7, 4, 167, 0, 4, 3, 54, 4, 21, 4] := by decide +kernel
theorem dX12_meet_48 : decode cX12_meet 48 = .ok (.if_icmp .gt 7, 3) := dk_2163 (dk_g tcX12_meet_4 0 rfl) (dk_g tcX12_meet_4 1 rfl) (dk_g tcX12_meet_4 2 rfl) rfl rfl
theorem dX12_meet_51 : decode cX12_meet 51 = .ok (.iconst 1, 1) := dk_1004 (dk_g tcX12_meet_4 3 rfl)
theorem dX12_meet_52 : decode cX12_meet 52 = .ok (.goto 4, 3) := dk_2167 (dk_g tcX12_meet_4 4 rfl) (dk_g tcX12_meet_4 5 rfl) (dk_g tcX12_meet_4 6 rfl) rfl rfl
theorem dX12_meet_55 : decode cX12_meet 55 = .ok (.iconst 0, 1) := dk_1003 (dk_g tcX12_meet_4 7 rfl)
theorem dX12_meet_56 : decode cX12_meet 56 = .ok (.istore 4, 2) := dk_1054 (dk_g tcX12_meet_4 8 rfl) (dk_g tcX12_meet_4 9 rfl) rfl
theorem dX12_meet_58 : decode cX12_meet 58 = .ok (.iload 4, 2) := dk_1021 (dk_g tcX12_meet_4 10 rfl) (dk_g tcX12_meet_4 11 rfl) rfl
theorem tcX12_meet_5 : (cX12_meet.data.toList.drop 60).take 12 = [153, 0, 7, 27, 167, 0, 4, 28, 54, 5, 21, 4] := by decide +kernel
theorem dX12_meet_60 : decode cX12_meet 60 = .ok (.ifCond .eq 7, 3) := dk_2153 (dk_g tcX12_meet_5 0 rfl) (dk_g tcX12_meet_5 1 rfl) (dk_g tcX12_meet_5 2 rfl) rfl rfl
theorem dX12_meet_63 : decode cX12_meet 63 = .ok (.iload_n 1, 1) := dk_1027 (dk_g tcX12_meet_5 3 rfl)
theorem dX12_meet_64 : decode cX12_meet 64 = .ok (.goto 4, 3) := dk_2167 (dk_g tcX12_meet_5 4 rfl) (dk_g tcX12_meet_5 5 rfl) (dk_g tcX12_meet_5 6 rfl) rfl rfl
theorem dX12_meet_67 : decode cX12_meet 67 = .ok (.iload_n 2, 1) := dk_1028 (dk_g tcX12_meet_5 7 rfl)
theorem dX12_meet_68 : decode cX12_meet 68 = .ok (.istore 5, 2) := dk_1054 (dk_g tcX12_meet_5 8 rfl) (dk_g tcX12_meet_5 9 rfl) rfl
theorem dX12_meet_70 : decode cX12_meet 70 = .ok (.iload 4, 2) := dk_1021 (dk_g tcX12_meet_5 10 rfl) (dk_g tcX12_meet_5 11 rfl) rfl
theorem tcX12_meet_6 : (cX12_meet.data.toList.drop 72).take 12 = [153, 0, 7, 28, 167, 0, 4, 27, 54, 6, 42, 21] := by decide +kernel
theorem dX12_meet_72 : decode cX12_meet 72 = .ok (.ifCond .eq 7, 3) := dk_2153 (dk_g tcX12_meet_6 0 rfl) (dk_g tcX12_meet_6 1 rfl) (dk_g tcX12_meet_6 2 rfl) rfl rfl
theorem dX12_meet_75 : decode cX12_meet 75 = .ok (.iload_n 2, 1) := dk_1028 (dk_g tcX12_meet_6 3 rfl)
theorem dX12_meet_76 : decode cX12_meet 76 = .ok (.goto 4, 3) := dk_2167 (dk_g tcX12_meet_6 4 rfl) (dk_g tcX12_meet_6 5 rfl) (dk_g tcX12_meet_6 6 rfl) rfl rfl
theorem dX12_meet_79 : decode cX12_meet 79 = .ok (.iload_n 1, 1) := dk_1027 (dk_g tcX12_meet_6 7 rfl)
theorem dX12_meet_80 : decode cX12_meet 80 = .ok (.istore 6, 2) := dk_1054 (dk_g tcX12_meet_6 8 rfl) (dk_g tcX12_meet_6 9 rfl) rfl
theorem dX12_meet_82 : decode cX12_meet 82 = .ok (.aload_n 0, 1) := dk_1042 (dk_g tcX12_meet_6 10 rfl)
theorem tcX12_meet_7 : (cX12_meet.data.toList.drop 84).take 12 = [6, 3, 182, 0, 221, 54, 7, 21, 7, 42, 29, 182] := by decide +kernel
theorem dX12_meet_83 : decode cX12_meet 83 = .ok (.iload 6, 2) := dk_1021 (dk_g tcX12_meet_6 11 rfl) (dk_g tcX12_meet_7 0 rfl) rfl
theorem dX12_meet_85 : decode cX12_meet 85 = .ok (.iconst 0, 1) := dk_1003 (dk_g tcX12_meet_7 1 rfl)
theorem dX12_meet_86 : decode cX12_meet 86 = .ok (.invokevirtual 221, 3) := dk_1182 (dk_g tcX12_meet_7 2 rfl) (dk_g tcX12_meet_7 3 rfl) (dk_g tcX12_meet_7 4 rfl) rfl
theorem dX12_meet_89 : decode cX12_meet 89 = .ok (.istore 7, 2) := dk_1054 (dk_g tcX12_meet_7 5 rfl) (dk_g tcX12_meet_7 6 rfl) rfl
theorem dX12_meet_91 : decode cX12_meet 91 = .ok (.iload 7, 2) := dk_1021 (dk_g tcX12_meet_7 7 rfl) (dk_g tcX12_meet_7 8 rfl) rfl
theorem dX12_meet_93 : decode cX12_meet 93 = .ok (.aload_n 0, 1) := dk_1042 (dk_g tcX12_meet_7 9 rfl)
theorem dX12_meet_94 : decode cX12_meet 94 = .ok (.iload_n 3, 1) := dk_1029 (dk_g tcX12_meet_7 10 rfl)
theorem tcX12_meet_8 : (cX12_meet.data.toList.drop 96).take 12 = [0, 209, 164, 0, 7, 8, 167, 0, 31, 42, 29, 42] := by decide +kernel
theorem dX12_meet_95 : decode cX12_meet 95 = .ok (.invokevirtual 209, 3) := dk_1182 (dk_g tcX12_meet_7 11 rfl) (dk_g tcX12_meet_8 0 rfl) (dk_g tcX12_meet_8 1 rfl) rfl
theorem dX12_meet_98 : decode cX12_meet 98 = .ok (.if_icmp .le 7, 3) := dk_2164 (dk_g tcX12_meet_8 2 rfl) (dk_g tcX12_meet_8 3 rfl) (dk_g tcX12_meet_8 4 rfl) rfl rfl
theorem dX12_meet_101 : decode cX12_meet 101 = .ok (.iconst 5, 1) := dk_1008 (dk_g tcX12_meet_8 5 rfl)
theorem dX12_meet_102 : decode cX12_meet 102 = .ok (.goto 31, 3) := dk_2167 (dk_g tcX12_meet_8 6 rfl) (dk_g tcX12_meet_8 7 rfl) (dk_g tcX12_meet_8 8 rfl) rfl rfl
theorem dX12_meet_105 : decode cX12_meet 105 = .ok (.aload_n 0, 1) := dk_1042 (dk_g tcX12_meet_8 9 rfl)
theorem dX12_meet_106 : decode cX12_meet 106 = .ok (.iload_n 3, 1) := dk_1029 (dk_g tcX12_meet_8 10 rfl)
theorem dX12_meet_107 : decode cX12_meet 107 = .ok (.aload_n 0, 1) := dk_1042 (dk_g tcX12_meet_8 11 rfl)
theorem tcX12_meet_9 : (cX12_meet.data.toList.drop 108).take 12 = [21, 5, 3, 182, 0, 221, 42, 21, 5, 4, 182, 0] := by decide +kernel
theorem dX12_meet_108 : decode cX12_meet 108 = .ok (.iload 5, 2) := dk_1021 (dk_g tcX12_meet_9 0 rfl) (dk_g tcX12_meet_9 1 rfl) rfl
theorem dX12_meet_110 : decode cX12_meet 110 = .ok (.iconst 0, 1) := dk_1003 (dk_g tcX12_meet_9 2 rfl)
theorem dX12_meet_111 : decode cX12_meet 111 = .ok (.invokevirtual 221, 3) := dk_1182 (dk_g tcX12_meet_9 3 rfl) (dk_g tcX12_meet_9 4 rfl) (dk_g tcX12_meet_9 5 rfl) rfl
theorem dX12_meet_114 : decode cX12_meet 114 = .ok (.aload_n 0, 1) := dk_1042 (dk_g tcX12_meet_9 6 rfl)
theorem dX12_meet_115 : decode cX12_meet 115 = .ok (.iload 5, 2) := dk_1021 (dk_g tcX12_meet_9 7 rfl) (dk_g tcX12_meet_9 8 rfl) rfl
theorem dX12_meet_117 : decode cX12_meet 117 = .ok (.iconst 1, 1) := dk_1004 (dk_g tcX12_meet_9 9 rfl)
theorem tcX12_meet_10 : (cX12_meet.data.toList.drop 120).take 12 = [221, 21, 7, 42, 21, 6, 4, 182, 0, 221, 182, 0] := by decide +kernel
theorem dX12_meet_118 : decode cX12_meet 118 = .ok (.invokevirtual 221, 3) := dk_1182 (dk_g tcX12_meet_9 10 rfl) (dk_g tcX12_meet_9 11 rfl) (dk_g tcX12_meet_10 0 rfl) rfl
theorem dX12_meet_121 : decode cX12_meet 121 = .ok (.iload 7, 2) := dk_1021 (dk_g tcX12_meet_10 1 rfl) (dk_g tcX12_meet_10 2 rfl) rfl
theorem dX12_meet_123 : decode cX12_meet 123 = .ok (.aload_n 0, 1) := dk_1042 (dk_g tcX12_meet_10 3 rfl)
theorem dX12_meet_124 : decode cX12_meet 124 = .ok (.iload 6, 2) := dk_1021 (dk_g tcX12_meet_10 4 rfl) (dk_g tcX12_meet_10 5 rfl) rfl
theorem dX12_meet_126 : decode cX12_meet 126 = .ok (.iconst 1, 1) := dk_1004 (dk_g tcX12_meet_10 6 rfl)
theorem dX12_meet_127 : decode cX12_meet 127 = .ok (.invokevirtual 221, 3) := dk_1182 (dk_g tcX12_meet_10 7 rfl) (dk_g tcX12_meet_10 8 rfl) (dk_g tcX12_meet_10 9 rfl) rfl
theorem tcX12_meet_11 : (cX12_meet.data.toList.drop 132).take 12 = [224, 54, 8, 21, 8, 154, 0, 18, 42, 21, 5, 21] := by decide +kernel
theorem dX12_meet_130 : decode cX12_meet 130 = .ok (.invokevirtual 224, 3) := dk_1182 (dk_g tcX12_meet_10 10 rfl) (dk_g tcX12_meet_10 11 rfl) (dk_g tcX12_meet_11 0 rfl) rfl
theorem dX12_meet_133 : decode cX12_meet 133 = .ok (.istore 8, 2) := dk_1054 (dk_g tcX12_meet_11 1 rfl) (dk_g tcX12_meet_11 2 rfl) rfl
theorem dX12_meet_135 : decode cX12_meet 135 = .ok (.iload 8, 2) := dk_1021 (dk_g tcX12_meet_11 3 rfl) (dk_g tcX12_meet_11 4 rfl) rfl
theorem dX12_meet_137 : decode cX12_meet 137 = .ok (.ifCond .ne 18, 3) := dk_2154 (dk_g tcX12_meet_11 5 rfl) (dk_g tcX12_meet_11 6 rfl) (dk_g tcX12_meet_11 7 rfl) rfl rfl
theorem dX12_meet_140 : decode cX12_meet 140 = .ok (.aload_n 0, 1) := dk_1042 (dk_g tcX12_meet_11 8 rfl)
theorem dX12_meet_141 : decode cX12_meet 141 = .ok (.iload 5, 2) := dk_1021 (dk_g tcX12_meet_11 9 rfl) (dk_g tcX12_meet_11 10 rfl) rfl
theorem tcX12_meet_12 : (cX12_meet.data.toList.drop 144).take 12 = [7, 42, 21, 6, 4, 182, 0, 221, 182, 0, 227, 21] := by decide +kernel
theorem dX12_meet_143 : decode cX12_meet 143 = .ok (.iload 7, 2) := dk_1021 (dk_g tcX12_meet_11 11 rfl) (dk_g tcX12_meet_12 0 rfl) rfl
theorem dX12_meet_145 : decode cX12_meet 145 = .ok (.aload_n 0, 1) := dk_1042 (dk_g tcX12_meet_12 1 rfl)
theorem dX12_meet_146 : decode cX12_meet 146 = .ok (.iload 6, 2) := dk_1021 (dk_g tcX12_meet_12 2 rfl) (dk_g tcX12_meet_12 3 rfl) rfl
theorem dX12_meet_148 : decode cX12_meet 148 = .ok (.iconst 1, 1) := dk_1004 (dk_g tcX12_meet_12 4 rfl)
theorem dX12_meet_149 : decode cX12_meet 149 = .ok (.invokevirtual 221, 3) := dk_1182 (dk_g tcX12_meet_12 5 rfl) (dk_g tcX12_meet_12 6 rfl) (dk_g tcX12_meet_12 7 rfl) rfl
theorem dX12_meet_152 : decode cX12_meet 152 = .ok (.invokevirtual 227, 3) := dk_1182 (dk_g tcX12_meet_12 8 rfl) (dk_g tcX12_meet_12 9 rfl) (dk_g tcX12_meet_12 10 rfl) rfl
theorem tcX12_meet_13 : (cX12_meet.data.toList.drop 156).take 12 = [8, 158, 0, 39, 21, 8, 8, 162, 0, 33, 42, 180] := by decide +kernel
theorem dX12_meet_155 : decode cX12_meet 155 = .ok (.iload 8, 2) := dk_1021 (dk_g tcX12_meet_12 11 rfl) (dk_g tcX12_meet_13 0 rfl) rfl
theorem dX12_meet_157 : decode cX12_meet 157 = .ok (.ifCond .le 39, 3) := dk_2158 (dk_g tcX12_meet_13 1 rfl) (dk_g tcX12_meet_13 2 rfl) (dk_g tcX12_meet_13 3 rfl) rfl rfl
theorem dX12_meet_160 : decode cX12_meet 160 = .ok (.iload 8, 2) := dk_1021 (dk_g tcX12_meet_13 4 rfl) (dk_g tcX12_meet_13 5 rfl) rfl
theorem dX12_meet_162 : decode cX12_meet 162 = .ok (.iconst 5, 1) := dk_1008 (dk_g tcX12_meet_13 6 rfl)
theorem dX12_meet_163 : decode cX12_meet 163 = .ok (.if_icmp .ge 33, 3) := dk_2162 (dk_g tcX12_meet_13 7 rfl) (dk_g tcX12_meet_13 8 rfl) (dk_g tcX12_meet_13 9 rfl) rfl rfl
theorem dX12_meet_166 : decode cX12_meet 166 = .ok (.aload_n 0, 1) := dk_1042 (dk_g tcX12_meet_13 10 rfl)
theorem tcX12_meet_14 : (cX12_meet.data.toList.drop 168).take 12 = [0, 7, 16, 76, 7, 21, 5, 104, 96, 5, 96, 4] := by decide +kernel
theorem dX12_meet_167 : decode cX12_meet 167 = .ok (.getfield 7, 3) := dk_1180 (dk_g tcX12_meet_13 11 rfl) (dk_g tcX12_meet_14 0 rfl) (dk_g tcX12_meet_14 1 rfl) rfl
theorem dX12_meet_170 : decode cX12_meet 170 = .ok (.bipush 76, 2) := dk_1016 (dk_g tcX12_meet_14 2 rfl) (dk_g tcX12_meet_14 3 rfl) (by decide +kernel)
theorem dX12_meet_172 : decode cX12_meet 172 = .ok (.iconst 4, 1) := dk_1007 (dk_g tcX12_meet_14 4 rfl)
theorem dX12_meet_173 : decode cX12_meet 173 = .ok (.iload 5, 2) := dk_1021 (dk_g tcX12_meet_14 5 rfl) (dk_g tcX12_meet_14 6 rfl) rfl
theorem dX12_meet_175 : decode cX12_meet 175 = .ok (.imul, 1) := dk_1104 (dk_g tcX12_meet_14 7 rfl)
theorem dX12_meet_176 : decode cX12_meet 176 = .ok (.iadd, 1) := dk_1096 (dk_g tcX12_meet_14 8 rfl)
theorem dX12_meet_177 : decode cX12_meet 177 = .ok (.iconst 2, 1) := dk_1005 (dk_g tcX12_meet_14 9 rfl)
theorem dX12_meet_178 : decode cX12_meet 178 = .ok (.iadd, 1) := dk_1096 (dk_g tcX12_meet_14 10 rfl)
theorem dX12_meet_179 : decode cX12_meet 179 = .ok (.iconst 1, 1) := dk_1004 (dk_g tcX12_meet_14 11 rfl)
theorem tcX12_meet_15 : (cX12_meet.data.toList.drop 180).take 12 = [79, 42, 180, 0, 7, 16, 76, 7, 21, 6, 104, 96] := by decide +kernel
theorem dX12_meet_180 : decode cX12_meet 180 = .ok (.iastore, 1) := dk_1079 (dk_g tcX12_meet_15 0 rfl)
theorem dX12_meet_181 : decode cX12_meet 181 = .ok (.aload_n 0, 1) := dk_1042 (dk_g tcX12_meet_15 1 rfl)
theorem dX12_meet_182 : decode cX12_meet 182 = .ok (.getfield 7, 3) := dk_1180 (dk_g tcX12_meet_15 2 rfl) (dk_g tcX12_meet_15 3 rfl) (dk_g tcX12_meet_15 4 rfl) rfl
theorem dX12_meet_185 : decode cX12_meet 185 = .ok (.bipush 76, 2) := dk_1016 (dk_g tcX12_meet_15 5 rfl) (dk_g tcX12_meet_15 6 rfl) (by decide +kernel)
theorem dX12_meet_187 : decode cX12_meet 187 = .ok (.iconst 4, 1) := dk_1007 (dk_g tcX12_meet_15 7 rfl)
theorem dX12_meet_188 : decode cX12_meet 188 = .ok (.iload 6, 2) := dk_1021 (dk_g tcX12_meet_15 8 rfl) (dk_g tcX12_meet_15 9 rfl) rfl
theorem dX12_meet_190 : decode cX12_meet 190 = .ok (.imul, 1) := dk_1104 (dk_g tcX12_meet_15 10 rfl)
theorem dX12_meet_191 : decode cX12_meet 191 = .ok (.iadd, 1) := dk_1096 (dk_g tcX12_meet_15 11 rfl)
theorem tcX12_meet_16 : (cX12_meet.data.toList.drop 192).take 12 = [5, 96, 4, 79, 42, 180, 0, 7, 7, 92, 46, 4] := by decide +kernel
theorem dX12_meet_192 : decode cX12_meet 192 = .ok (.iconst 2, 1) := dk_1005 (dk_g tcX12_meet_16 0 rfl)
theorem dX12_meet_193 : decode cX12_meet 193 = .ok (.iadd, 1) := dk_1096 (dk_g tcX12_meet_16 1 rfl)
theorem dX12_meet_194 : decode cX12_meet 194 = .ok (.iconst 1, 1) := dk_1004 (dk_g tcX12_meet_16 2 rfl)
theorem dX12_meet_195 : decode cX12_meet 195 = .ok (.iastore, 1) := dk_1079 (dk_g tcX12_meet_16 3 rfl)
theorem dX12_meet_196 : decode cX12_meet 196 = .ok (.aload_n 0, 1) := dk_1042 (dk_g tcX12_meet_16 4 rfl)
theorem dX12_meet_197 : decode cX12_meet 197 = .ok (.getfield 7, 3) := dk_1180 (dk_g tcX12_meet_16 5 rfl) (dk_g tcX12_meet_16 6 rfl) (dk_g tcX12_meet_16 7 rfl) rfl
theorem dX12_meet_200 : decode cX12_meet 200 = .ok (.iconst 4, 1) := dk_1007 (dk_g tcX12_meet_16 8 rfl)
theorem dX12_meet_201 : decode cX12_meet 201 = .ok (.dup2, 1) := dk_1092 (dk_g tcX12_meet_16 9 rfl)
theorem dX12_meet_202 : decode cX12_meet 202 = .ok (.iaload, 1) := dk_1046 (dk_g tcX12_meet_16 10 rfl)
theorem dX12_meet_203 : decode cX12_meet 203 = .ok (.iconst 1, 1) := dk_1004 (dk_g tcX12_meet_16 11 rfl)
theorem tcX12_meet_17 : (cX12_meet.data.toList.drop 204).take 12 = [96, 79, 21, 8, 172] := by decide +kernel
theorem dX12_meet_204 : decode cX12_meet 204 = .ok (.iadd, 1) := dk_1096 (dk_g tcX12_meet_17 0 rfl)
theorem dX12_meet_205 : decode cX12_meet 205 = .ok (.iastore, 1) := dk_1079 (dk_g tcX12_meet_17 1 rfl)
theorem dX12_meet_206 : decode cX12_meet 206 = .ok (.iload 8, 2) := dk_1021 (dk_g tcX12_meet_17 2 rfl) (dk_g tcX12_meet_17 3 rfl) rfl
theorem dX12_meet_208 : decode cX12_meet 208 = .ok (.ireturn, 1) := dk_1172 (dk_g tcX12_meet_17 4 rfl)
theorem tcX12_spoil_0 : (cX12_spoil.data.toList.drop 0).take 12 = [42, 28, 155, 0, 18, 29, 155, 0, 14, 21, 4, 4] := by decide +kernel
theorem dX12_spoil_0 : decode cX12_spoil 0 = .ok (.aload_n 0, 1) := dk_1042 (dk_g tcX12_spoil_0 0 rfl)
theorem dX12_spoil_1 : decode cX12_spoil 1 = .ok (.iload_n 2, 1) := dk_1028 (dk_g tcX12_spoil_0 1 rfl)
theorem dX12_spoil_2 : decode cX12_spoil 2 = .ok (.ifCond .lt 18, 3) := dk_2155 (dk_g tcX12_spoil_0 2 rfl) (dk_g tcX12_spoil_0 3 rfl) (dk_g tcX12_spoil_0 4 rfl) rfl rfl
theorem dX12_spoil_5 : decode cX12_spoil 5 = .ok (.iload_n 3, 1) := dk_1029 (dk_g tcX12_spoil_0 5 rfl)
theorem dX12_spoil_6 : decode cX12_spoil 6 = .ok (.ifCond .lt 14, 3) := dk_2155 (dk_g tcX12_spoil_0 6 rfl) (dk_g tcX12_spoil_0 7 rfl) (dk_g tcX12_spoil_0 8 rfl) rfl rfl
theorem dX12_spoil_9 : decode cX12_spoil 9 = .ok (.iload 4, 2) := dk_1021 (dk_g tcX12_spoil_0 9 rfl) (dk_g tcX12_spoil_0 10 rfl) rfl
theorem dX12_spoil_11 : decode cX12_spoil 11 = .ok (.iconst 1, 1) := dk_1004 (dk_g tcX12_spoil_0 11 rfl)
theorem tcX12_spoil_1 : (cX12_spoil.data.toList.drop 12).take 12 = [16, 26, 184, 0, 113, 154, 0, 7, 4, 167, 0, 48] := by decide +kernel
theorem dX12_spoil_12 : decode cX12_spoil 12 = .ok (.bipush 26, 2) := dk_1016 (dk_g tcX12_spoil_1 0 rfl) (dk_g tcX12_spoil_1 1 rfl) (by decide +kernel)
theorem dX12_spoil_14 : decode cX12_spoil 14 = .ok (.invokestatic 113, 3) := dk_1184 (dk_g tcX12_spoil_1 2 rfl) (dk_g tcX12_spoil_1 3 rfl) (dk_g tcX12_spoil_1 4 rfl) rfl
theorem dX12_spoil_17 : decode cX12_spoil 17 = .ok (.ifCond .ne 7, 3) := dk_2154 (dk_g tcX12_spoil_1 5 rfl) (dk_g tcX12_spoil_1 6 rfl) (dk_g tcX12_spoil_1 7 rfl) rfl rfl
theorem dX12_spoil_20 : decode cX12_spoil 20 = .ok (.iconst 1, 1) := dk_1004 (dk_g tcX12_spoil_1 8 rfl)
theorem dX12_spoil_21 : decode cX12_spoil 21 = .ok (.goto 48, 3) := dk_2167 (dk_g tcX12_spoil_1 9 rfl) (dk_g tcX12_spoil_1 10 rfl) (dk_g tcX12_spoil_1 11 rfl) rfl rfl
theorem tcX12_spoil_2 : (cX12_spoil.data.toList.drop 24).take 12 = [42, 27, 182, 1, 88, 154, 0, 7, 5, 167, 0, 36] := by decide +kernel
theorem dX12_spoil_24 : decode cX12_spoil 24 = .ok (.aload_n 0, 1) := dk_1042 (dk_g tcX12_spoil_2 0 rfl)
theorem dX12_spoil_25 : decode cX12_spoil 25 = .ok (.iload_n 1, 1) := dk_1027 (dk_g tcX12_spoil_2 1 rfl)
theorem dX12_spoil_26 : decode cX12_spoil 26 = .ok (.invokevirtual 344, 3) := dk_1182 (dk_g tcX12_spoil_2 2 rfl) (dk_g tcX12_spoil_2 3 rfl) (dk_g tcX12_spoil_2 4 rfl) rfl
theorem dX12_spoil_29 : decode cX12_spoil 29 = .ok (.ifCond .ne 7, 3) := dk_2154 (dk_g tcX12_spoil_2 5 rfl) (dk_g tcX12_spoil_2 6 rfl) (dk_g tcX12_spoil_2 7 rfl) rfl rfl
theorem dX12_spoil_32 : decode cX12_spoil 32 = .ok (.iconst 2, 1) := dk_1005 (dk_g tcX12_spoil_2 8 rfl)
theorem dX12_spoil_33 : decode cX12_spoil 33 = .ok (.goto 36, 3) := dk_2167 (dk_g tcX12_spoil_2 9 rfl) (dk_g tcX12_spoil_2 10 rfl) (dk_g tcX12_spoil_2 11 rfl) rfl rfl
theorem tcX12_spoil_3 : (cX12_spoil.data.toList.drop 36).take 12 = [28, 42, 27, 182, 0, 209, 162, 0, 22, 29, 42, 180] := by decide +kernel
theorem dX12_spoil_36 : decode cX12_spoil 36 = .ok (.iload_n 2, 1) := dk_1028 (dk_g tcX12_spoil_3 0 rfl)
theorem dX12_spoil_37 : decode cX12_spoil 37 = .ok (.aload_n 0, 1) := dk_1042 (dk_g tcX12_spoil_3 1 rfl)
theorem dX12_spoil_38 : decode cX12_spoil 38 = .ok (.iload_n 1, 1) := dk_1027 (dk_g tcX12_spoil_3 2 rfl)
theorem dX12_spoil_39 : decode cX12_spoil 39 = .ok (.invokevirtual 209, 3) := dk_1182 (dk_g tcX12_spoil_3 3 rfl) (dk_g tcX12_spoil_3 4 rfl) (dk_g tcX12_spoil_3 5 rfl) rfl
theorem dX12_spoil_42 : decode cX12_spoil 42 = .ok (.if_icmp .ge 22, 3) := dk_2162 (dk_g tcX12_spoil_3 6 rfl) (dk_g tcX12_spoil_3 7 rfl) (dk_g tcX12_spoil_3 8 rfl) rfl rfl
theorem dX12_spoil_45 : decode cX12_spoil 45 = .ok (.iload_n 3, 1) := dk_1029 (dk_g tcX12_spoil_3 9 rfl)
theorem dX12_spoil_46 : decode cX12_spoil 46 = .ok (.aload_n 0, 1) := dk_1042 (dk_g tcX12_spoil_3 10 rfl)
theorem tcX12_spoil_4 : (cX12_spoil.data.toList.drop 48).take 12 = [0, 7, 17, 0, 252, 16, 48, 27, 104, 96, 28, 96] := by decide +kernel
theorem dX12_spoil_47 : decode cX12_spoil 47 = .ok (.getfield 7, 3) := dk_1180 (dk_g tcX12_spoil_3 11 rfl) (dk_g tcX12_spoil_4 0 rfl) (dk_g tcX12_spoil_4 1 rfl) rfl
theorem dX12_spoil_50 : decode cX12_spoil 50 = .ok (.sipush 252, 3) := dk_2017 (dk_g tcX12_spoil_4 2 rfl) (dk_g tcX12_spoil_4 3 rfl) (dk_g tcX12_spoil_4 4 rfl) rfl rfl
theorem dX12_spoil_53 : decode cX12_spoil 53 = .ok (.bipush 48, 2) := dk_1016 (dk_g tcX12_spoil_4 5 rfl) (dk_g tcX12_spoil_4 6 rfl) (by decide +kernel)
theorem dX12_spoil_55 : decode cX12_spoil 55 = .ok (.iload_n 1, 1) := dk_1027 (dk_g tcX12_spoil_4 7 rfl)
theorem dX12_spoil_56 : decode cX12_spoil 56 = .ok (.imul, 1) := dk_1104 (dk_g tcX12_spoil_4 8 rfl)
theorem dX12_spoil_57 : decode cX12_spoil 57 = .ok (.iadd, 1) := dk_1096 (dk_g tcX12_spoil_4 9 rfl)
theorem dX12_spoil_58 : decode cX12_spoil 58 = .ok (.iload_n 2, 1) := dk_1028 (dk_g tcX12_spoil_4 10 rfl)
theorem dX12_spoil_59 : decode cX12_spoil 59 = .ok (.iadd, 1) := dk_1096 (dk_g tcX12_spoil_4 11 rfl)
theorem tcX12_spoil_5 : (cX12_spoil.data.toList.drop 60).take 12 = [46, 161, 0, 7, 8, 167, 0, 4, 3, 182, 1, 53] := by decide +kernel
theorem dX12_spoil_60 : decode cX12_spoil 60 = .ok (.iaload, 1) := dk_1046 (dk_g tcX12_spoil_5 0 rfl)
theorem dX12_spoil_61 : decode cX12_spoil 61 = .ok (.if_icmp .lt 7, 3) := dk_2161 (dk_g tcX12_spoil_5 1 rfl) (dk_g tcX12_spoil_5 2 rfl) (dk_g tcX12_spoil_5 3 rfl) rfl rfl
theorem dX12_spoil_64 : decode cX12_spoil 64 = .ok (.iconst 5, 1) := dk_1008 (dk_g tcX12_spoil_5 4 rfl)
theorem dX12_spoil_65 : decode cX12_spoil 65 = .ok (.goto 4, 3) := dk_2167 (dk_g tcX12_spoil_5 5 rfl) (dk_g tcX12_spoil_5 6 rfl) (dk_g tcX12_spoil_5 7 rfl) rfl rfl
theorem dX12_spoil_68 : decode cX12_spoil 68 = .ok (.iconst 0, 1) := dk_1003 (dk_g tcX12_spoil_5 8 rfl)
theorem dX12_spoil_69 : decode cX12_spoil 69 = .ok (.invokevirtual 309, 3) := dk_1182 (dk_g tcX12_spoil_5 9 rfl) (dk_g tcX12_spoil_5 10 rfl) (dk_g tcX12_spoil_5 11 rfl) rfl
theorem tcX12_spoil_6 : (cX12_spoil.data.toList.drop 72).take 12 = [154, 0, 5, 2, 172, 17, 1, 188, 16, 8, 16, 48] := by decide +kernel
theorem dX12_spoil_72 : decode cX12_spoil 72 = .ok (.ifCond .ne 5, 3) := dk_2154 (dk_g tcX12_spoil_6 0 rfl) (dk_g tcX12_spoil_6 1 rfl) (dk_g tcX12_spoil_6 2 rfl) rfl rfl
theorem dX12_spoil_75 : decode cX12_spoil 75 = .ok (.iconst (-1), 1) := dk_1002 (dk_g tcX12_spoil_6 3 rfl)
theorem dX12_spoil_76 : decode cX12_spoil 76 = .ok (.ireturn, 1) := dk_1172 (dk_g tcX12_spoil_6 4 rfl)
theorem dX12_spoil_77 : decode cX12_spoil 77 = .ok (.sipush 444, 3) := dk_2017 (dk_g tcX12_spoil_6 5 rfl) (dk_g tcX12_spoil_6 6 rfl) (dk_g tcX12_spoil_6 7 rfl) rfl rfl
theorem dX12_spoil_80 : decode cX12_spoil 80 = .ok (.bipush 8, 2) := dk_1016 (dk_g tcX12_spoil_6 8 rfl) (dk_g tcX12_spoil_6 9 rfl) (by decide +kernel)
theorem dX12_spoil_82 : decode cX12_spoil 82 = .ok (.bipush 48, 2) := dk_1016 (dk_g tcX12_spoil_6 10 rfl) (dk_g tcX12_spoil_6 11 rfl) (by decide +kernel)
theorem tcX12_spoil_7 : (cX12_spoil.data.toList.drop 84).take 12 = [27, 104, 28, 96, 104, 96, 29, 96, 54, 5, 42, 180] := by decide +kernel
theorem dX12_spoil_84 : decode cX12_spoil 84 = .ok (.iload_n 1, 1) := dk_1027 (dk_g tcX12_spoil_7 0 rfl)
theorem dX12_spoil_85 : decode cX12_spoil 85 = .ok (.imul, 1) := dk_1104 (dk_g tcX12_spoil_7 1 rfl)
theorem dX12_spoil_86 : decode cX12_spoil 86 = .ok (.iload_n 2, 1) := dk_1028 (dk_g tcX12_spoil_7 2 rfl)
theorem dX12_spoil_87 : decode cX12_spoil 87 = .ok (.iadd, 1) := dk_1096 (dk_g tcX12_spoil_7 3 rfl)
theorem dX12_spoil_88 : decode cX12_spoil 88 = .ok (.imul, 1) := dk_1104 (dk_g tcX12_spoil_7 4 rfl)
theorem dX12_spoil_89 : decode cX12_spoil 89 = .ok (.iadd, 1) := dk_1096 (dk_g tcX12_spoil_7 5 rfl)
theorem dX12_spoil_90 : decode cX12_spoil 90 = .ok (.iload_n 3, 1) := dk_1029 (dk_g tcX12_spoil_7 6 rfl)
theorem dX12_spoil_91 : decode cX12_spoil 91 = .ok (.iadd, 1) := dk_1096 (dk_g tcX12_spoil_7 7 rfl)
theorem dX12_spoil_92 : decode cX12_spoil 92 = .ok (.istore 5, 2) := dk_1054 (dk_g tcX12_spoil_7 8 rfl) (dk_g tcX12_spoil_7 9 rfl) rfl
theorem dX12_spoil_94 : decode cX12_spoil 94 = .ok (.aload_n 0, 1) := dk_1042 (dk_g tcX12_spoil_7 10 rfl)
theorem tcX12_spoil_8 : (cX12_spoil.data.toList.drop 96).take 12 = [0, 7, 21, 5, 46, 54, 6, 21, 6, 21, 4, 160] := by decide +kernel
theorem dX12_spoil_95 : decode cX12_spoil 95 = .ok (.getfield 7, 3) := dk_1180 (dk_g tcX12_spoil_7 11 rfl) (dk_g tcX12_spoil_8 0 rfl) (dk_g tcX12_spoil_8 1 rfl) rfl
theorem dX12_spoil_98 : decode cX12_spoil 98 = .ok (.iload 5, 2) := dk_1021 (dk_g tcX12_spoil_8 2 rfl) (dk_g tcX12_spoil_8 3 rfl) rfl
theorem dX12_spoil_100 : decode cX12_spoil 100 = .ok (.iaload, 1) := dk_1046 (dk_g tcX12_spoil_8 4 rfl)
theorem dX12_spoil_101 : decode cX12_spoil 101 = .ok (.istore 6, 2) := dk_1054 (dk_g tcX12_spoil_8 5 rfl) (dk_g tcX12_spoil_8 6 rfl) rfl
theorem dX12_spoil_103 : decode cX12_spoil 103 = .ok (.iload 6, 2) := dk_1021 (dk_g tcX12_spoil_8 7 rfl) (dk_g tcX12_spoil_8 8 rfl) rfl
theorem dX12_spoil_105 : decode cX12_spoil 105 = .ok (.iload 4, 2) := dk_1021 (dk_g tcX12_spoil_8 9 rfl) (dk_g tcX12_spoil_8 10 rfl) rfl
theorem tcX12_spoil_9 : (cX12_spoil.data.toList.drop 108).take 12 = [0, 9, 42, 8, 182, 0, 212, 172, 42, 180, 0, 7] := by decide +kernel
theorem dX12_spoil_107 : decode cX12_spoil 107 = .ok (.if_icmp .ne 9, 3) := dk_2160 (dk_g tcX12_spoil_8 11 rfl) (dk_g tcX12_spoil_9 0 rfl) (dk_g tcX12_spoil_9 1 rfl) rfl rfl
theorem dX12_spoil_110 : decode cX12_spoil 110 = .ok (.aload_n 0, 1) := dk_1042 (dk_g tcX12_spoil_9 2 rfl)
theorem dX12_spoil_111 : decode cX12_spoil 111 = .ok (.iconst 5, 1) := dk_1008 (dk_g tcX12_spoil_9 3 rfl)
theorem dX12_spoil_112 : decode cX12_spoil 112 = .ok (.invokevirtual 212, 3) := dk_1182 (dk_g tcX12_spoil_9 4 rfl) (dk_g tcX12_spoil_9 5 rfl) (dk_g tcX12_spoil_9 6 rfl) rfl
theorem dX12_spoil_115 : decode cX12_spoil 115 = .ok (.ireturn, 1) := dk_1172 (dk_g tcX12_spoil_9 7 rfl)
theorem dX12_spoil_116 : decode cX12_spoil 116 = .ok (.aload_n 0, 1) := dk_1042 (dk_g tcX12_spoil_9 8 rfl)
theorem dX12_spoil_117 : decode cX12_spoil 117 = .ok (.getfield 7, 3) := dk_1180 (dk_g tcX12_spoil_9 9 rfl) (dk_g tcX12_spoil_9 10 rfl) (dk_g tcX12_spoil_9 11 rfl) rfl
theorem tcX12_spoil_10 : (cX12_spoil.data.toList.drop 120).take 12 = [21, 5, 21, 4, 79, 42, 180, 0, 7, 7, 92, 46] := by decide +kernel
theorem dX12_spoil_120 : decode cX12_spoil 120 = .ok (.iload 5, 2) := dk_1021 (dk_g tcX12_spoil_10 0 rfl) (dk_g tcX12_spoil_10 1 rfl) rfl
theorem dX12_spoil_122 : decode cX12_spoil 122 = .ok (.iload 4, 2) := dk_1021 (dk_g tcX12_spoil_10 2 rfl) (dk_g tcX12_spoil_10 3 rfl) rfl
theorem dX12_spoil_124 : decode cX12_spoil 124 = .ok (.iastore, 1) := dk_1079 (dk_g tcX12_spoil_10 4 rfl)
theorem dX12_spoil_125 : decode cX12_spoil 125 = .ok (.aload_n 0, 1) := dk_1042 (dk_g tcX12_spoil_10 5 rfl)
theorem dX12_spoil_126 : decode cX12_spoil 126 = .ok (.getfield 7, 3) := dk_1180 (dk_g tcX12_spoil_10 6 rfl) (dk_g tcX12_spoil_10 7 rfl) (dk_g tcX12_spoil_10 8 rfl) rfl
theorem dX12_spoil_129 : decode cX12_spoil 129 = .ok (.iconst 4, 1) := dk_1007 (dk_g tcX12_spoil_10 9 rfl)
theorem dX12_spoil_130 : decode cX12_spoil 130 = .ok (.dup2, 1) := dk_1092 (dk_g tcX12_spoil_10 10 rfl)
theorem dX12_spoil_131 : decode cX12_spoil 131 = .ok (.iaload, 1) := dk_1046 (dk_g tcX12_spoil_10 11 rfl)
theorem tcX12_spoil_11 : (cX12_spoil.data.toList.drop 132).take 12 = [4, 96, 79, 21, 6, 172] := by decide +kernel
theorem dX12_spoil_132 : decode cX12_spoil 132 = .ok (.iconst 1, 1) := dk_1004 (dk_g tcX12_spoil_11 0 rfl)
theorem dX12_spoil_133 : decode cX12_spoil 133 = .ok (.iadd, 1) := dk_1096 (dk_g tcX12_spoil_11 1 rfl)
theorem dX12_spoil_134 : decode cX12_spoil 134 = .ok (.iastore, 1) := dk_1079 (dk_g tcX12_spoil_11 2 rfl)
theorem dX12_spoil_135 : decode cX12_spoil 135 = .ok (.iload 6, 2) := dk_1021 (dk_g tcX12_spoil_11 3 rfl) (dk_g tcX12_spoil_11 4 rfl) rfl
theorem dX12_spoil_137 : decode cX12_spoil 137 = .ok (.ireturn, 1) := dk_1172 (dk_g tcX12_spoil_11 5 rfl)
theorem tcX12_push_0 : (cX12_push.data.toList.drop 0).take 12 = [42, 42, 27, 182, 1, 65, 154, 0, 7, 4, 167, 0] := by decide +kernel
theorem dX12_push_0 : decode cX12_push 0 = .ok (.aload_n 0, 1) := dk_1042 (dk_g tcX12_push_0 0 rfl)
theorem dX12_push_1 : decode cX12_push 1 = .ok (.aload_n 0, 1) := dk_1042 (dk_g tcX12_push_0 1 rfl)
theorem dX12_push_2 : decode cX12_push 2 = .ok (.iload_n 1, 1) := dk_1027 (dk_g tcX12_push_0 2 rfl)
theorem dX12_push_3 : decode cX12_push 3 = .ok (.invokevirtual 321, 3) := dk_1182 (dk_g tcX12_push_0 3 rfl) (dk_g tcX12_push_0 4 rfl) (dk_g tcX12_push_0 5 rfl) rfl
theorem dX12_push_6 : decode cX12_push 6 = .ok (.ifCond .ne 7, 3) := dk_2154 (dk_g tcX12_push_0 6 rfl) (dk_g tcX12_push_0 7 rfl) (dk_g tcX12_push_0 8 rfl) rfl rfl
theorem dX12_push_9 : decode cX12_push 9 = .ok (.iconst 1, 1) := dk_1004 (dk_g tcX12_push_0 9 rfl)
theorem tcX12_push_1 : (cX12_push.data.toList.drop 12).take 12 = [19, 42, 180, 0, 7, 5, 46, 16, 64, 160, 0, 7] := by decide +kernel
theorem dX12_push_10 : decode cX12_push 10 = .ok (.goto 19, 3) := dk_2167 (dk_g tcX12_push_0 10 rfl) (dk_g tcX12_push_0 11 rfl) (dk_g tcX12_push_1 0 rfl) rfl rfl
theorem dX12_push_13 : decode cX12_push 13 = .ok (.aload_n 0, 1) := dk_1042 (dk_g tcX12_push_1 1 rfl)
theorem dX12_push_14 : decode cX12_push 14 = .ok (.getfield 7, 3) := dk_1180 (dk_g tcX12_push_1 2 rfl) (dk_g tcX12_push_1 3 rfl) (dk_g tcX12_push_1 4 rfl) rfl
theorem dX12_push_17 : decode cX12_push 17 = .ok (.iconst 2, 1) := dk_1005 (dk_g tcX12_push_1 5 rfl)
theorem dX12_push_18 : decode cX12_push 18 = .ok (.iaload, 1) := dk_1046 (dk_g tcX12_push_1 6 rfl)
theorem dX12_push_19 : decode cX12_push 19 = .ok (.bipush 64, 2) := dk_1016 (dk_g tcX12_push_1 7 rfl) (dk_g tcX12_push_1 8 rfl) (by decide +kernel)
theorem dX12_push_21 : decode cX12_push 21 = .ok (.if_icmp .ne 7, 3) := dk_2160 (dk_g tcX12_push_1 9 rfl) (dk_g tcX12_push_1 10 rfl) (dk_g tcX12_push_1 11 rfl) rfl rfl
theorem tcX12_push_2 : (cX12_push.data.toList.drop 24).take 12 = [6, 167, 0, 4, 3, 182, 1, 53, 154, 0, 5, 2] := by decide +kernel
theorem dX12_push_24 : decode cX12_push 24 = .ok (.iconst 3, 1) := dk_1006 (dk_g tcX12_push_2 0 rfl)
theorem dX12_push_25 : decode cX12_push 25 = .ok (.goto 4, 3) := dk_2167 (dk_g tcX12_push_2 1 rfl) (dk_g tcX12_push_2 2 rfl) (dk_g tcX12_push_2 3 rfl) rfl rfl
theorem dX12_push_28 : decode cX12_push 28 = .ok (.iconst 0, 1) := dk_1003 (dk_g tcX12_push_2 4 rfl)
theorem dX12_push_29 : decode cX12_push 29 = .ok (.invokevirtual 309, 3) := dk_1182 (dk_g tcX12_push_2 5 rfl) (dk_g tcX12_push_2 6 rfl) (dk_g tcX12_push_2 7 rfl) rfl
theorem dX12_push_32 : decode cX12_push 32 = .ok (.ifCond .ne 5, 3) := dk_2154 (dk_g tcX12_push_2 8 rfl) (dk_g tcX12_push_2 9 rfl) (dk_g tcX12_push_2 10 rfl) rfl rfl
theorem dX12_push_35 : decode cX12_push 35 = .ok (.iconst (-1), 1) := dk_1002 (dk_g tcX12_push_2 11 rfl)
theorem tcX12_push_3 : (cX12_push.data.toList.drop 36).take 12 = [172, 42, 180, 0, 7, 16, 8, 42, 180, 0, 7, 5] := by decide +kernel
theorem dX12_push_36 : decode cX12_push 36 = .ok (.ireturn, 1) := dk_1172 (dk_g tcX12_push_3 0 rfl)
theorem dX12_push_37 : decode cX12_push 37 = .ok (.aload_n 0, 1) := dk_1042 (dk_g tcX12_push_3 1 rfl)
theorem dX12_push_38 : decode cX12_push 38 = .ok (.getfield 7, 3) := dk_1180 (dk_g tcX12_push_3 2 rfl) (dk_g tcX12_push_3 3 rfl) (dk_g tcX12_push_3 4 rfl) rfl
theorem dX12_push_41 : decode cX12_push 41 = .ok (.bipush 8, 2) := dk_1016 (dk_g tcX12_push_3 5 rfl) (dk_g tcX12_push_3 6 rfl) (by decide +kernel)
theorem dX12_push_43 : decode cX12_push 43 = .ok (.aload_n 0, 1) := dk_1042 (dk_g tcX12_push_3 7 rfl)
theorem dX12_push_44 : decode cX12_push 44 = .ok (.getfield 7, 3) := dk_1180 (dk_g tcX12_push_3 8 rfl) (dk_g tcX12_push_3 9 rfl) (dk_g tcX12_push_3 10 rfl) rfl
theorem dX12_push_47 : decode cX12_push 47 = .ok (.iconst 2, 1) := dk_1005 (dk_g tcX12_push_3 11 rfl)
theorem tcX12_push_4 : (cX12_push.data.toList.drop 48).take 12 = [46, 96, 27, 79, 42, 180, 0, 7, 5, 92, 46, 4] := by decide +kernel
theorem dX12_push_48 : decode cX12_push 48 = .ok (.iaload, 1) := dk_1046 (dk_g tcX12_push_4 0 rfl)
theorem dX12_push_49 : decode cX12_push 49 = .ok (.iadd, 1) := dk_1096 (dk_g tcX12_push_4 1 rfl)
theorem dX12_push_50 : decode cX12_push 50 = .ok (.iload_n 1, 1) := dk_1027 (dk_g tcX12_push_4 2 rfl)
theorem dX12_push_51 : decode cX12_push 51 = .ok (.iastore, 1) := dk_1079 (dk_g tcX12_push_4 3 rfl)
theorem dX12_push_52 : decode cX12_push 52 = .ok (.aload_n 0, 1) := dk_1042 (dk_g tcX12_push_4 4 rfl)
theorem dX12_push_53 : decode cX12_push 53 = .ok (.getfield 7, 3) := dk_1180 (dk_g tcX12_push_4 5 rfl) (dk_g tcX12_push_4 6 rfl) (dk_g tcX12_push_4 7 rfl) rfl
theorem dX12_push_56 : decode cX12_push 56 = .ok (.iconst 2, 1) := dk_1005 (dk_g tcX12_push_4 8 rfl)
theorem dX12_push_57 : decode cX12_push 57 = .ok (.dup2, 1) := dk_1092 (dk_g tcX12_push_4 9 rfl)
theorem dX12_push_58 : decode cX12_push 58 = .ok (.iaload, 1) := dk_1046 (dk_g tcX12_push_4 10 rfl)
theorem dX12_push_59 : decode cX12_push 59 = .ok (.iconst 1, 1) := dk_1004 (dk_g tcX12_push_4 11 rfl)
theorem tcX12_push_5 : (cX12_push.data.toList.drop 60).take 12 = [96, 79, 42, 180, 0, 7, 5, 46, 172] := by decide +kernel
theorem dX12_push_60 : decode cX12_push 60 = .ok (.iadd, 1) := dk_1096 (dk_g tcX12_push_5 0 rfl)
theorem dX12_push_61 : decode cX12_push 61 = .ok (.iastore, 1) := dk_1079 (dk_g tcX12_push_5 1 rfl)
theorem dX12_push_62 : decode cX12_push 62 = .ok (.aload_n 0, 1) := dk_1042 (dk_g tcX12_push_5 2 rfl)
theorem dX12_push_63 : decode cX12_push 63 = .ok (.getfield 7, 3) := dk_1180 (dk_g tcX12_push_5 3 rfl) (dk_g tcX12_push_5 4 rfl) (dk_g tcX12_push_5 5 rfl) rfl
theorem dX12_push_66 : decode cX12_push 66 = .ok (.iconst 2, 1) := dk_1005 (dk_g tcX12_push_5 6 rfl)
theorem dX12_push_67 : decode cX12_push 67 = .ok (.iaload, 1) := dk_1046 (dk_g tcX12_push_5 7 rfl)
theorem dX12_push_68 : decode cX12_push 68 = .ok (.ireturn, 1) := dk_1172 (dk_g tcX12_push_5 8 rfl)
theorem tcX12_poke_0 : (cX12_poke.data.toList.drop 0).take 12 = [42, 27, 155, 0, 11, 42, 28, 182, 1, 65, 154, 0] := by decide +kernel
theorem dX12_poke_0 : decode cX12_poke 0 = .ok (.aload_n 0, 1) := dk_1042 (dk_g tcX12_poke_0 0 rfl)
theorem dX12_poke_1 : decode cX12_poke 1 = .ok (.iload_n 1, 1) := dk_1027 (dk_g tcX12_poke_0 1 rfl)
theorem dX12_poke_2 : decode cX12_poke 2 = .ok (.ifCond .lt 11, 3) := dk_2155 (dk_g tcX12_poke_0 2 rfl) (dk_g tcX12_poke_0 3 rfl) (dk_g tcX12_poke_0 4 rfl) rfl rfl
theorem dX12_poke_5 : decode cX12_poke 5 = .ok (.aload_n 0, 1) := dk_1042 (dk_g tcX12_poke_0 5 rfl)
theorem dX12_poke_6 : decode cX12_poke 6 = .ok (.iload_n 2, 1) := dk_1028 (dk_g tcX12_poke_0 6 rfl)
theorem dX12_poke_7 : decode cX12_poke 7 = .ok (.invokevirtual 321, 3) := dk_1182 (dk_g tcX12_poke_0 7 rfl) (dk_g tcX12_poke_0 8 rfl) (dk_g tcX12_poke_0 9 rfl) rfl
theorem tcX12_poke_1 : (cX12_poke.data.toList.drop 12).take 12 = [7, 4, 167, 0, 18, 27, 42, 180, 0, 7, 5, 46] := by decide +kernel
theorem dX12_poke_10 : decode cX12_poke 10 = .ok (.ifCond .ne 7, 3) := dk_2154 (dk_g tcX12_poke_0 10 rfl) (dk_g tcX12_poke_0 11 rfl) (dk_g tcX12_poke_1 0 rfl) rfl rfl
theorem dX12_poke_13 : decode cX12_poke 13 = .ok (.iconst 1, 1) := dk_1004 (dk_g tcX12_poke_1 1 rfl)
theorem dX12_poke_14 : decode cX12_poke 14 = .ok (.goto 18, 3) := dk_2167 (dk_g tcX12_poke_1 2 rfl) (dk_g tcX12_poke_1 3 rfl) (dk_g tcX12_poke_1 4 rfl) rfl rfl
theorem dX12_poke_17 : decode cX12_poke 17 = .ok (.iload_n 1, 1) := dk_1027 (dk_g tcX12_poke_1 5 rfl)
theorem dX12_poke_18 : decode cX12_poke 18 = .ok (.aload_n 0, 1) := dk_1042 (dk_g tcX12_poke_1 6 rfl)
theorem dX12_poke_19 : decode cX12_poke 19 = .ok (.getfield 7, 3) := dk_1180 (dk_g tcX12_poke_1 7 rfl) (dk_g tcX12_poke_1 8 rfl) (dk_g tcX12_poke_1 9 rfl) rfl
theorem dX12_poke_22 : decode cX12_poke 22 = .ok (.iconst 2, 1) := dk_1005 (dk_g tcX12_poke_1 10 rfl)
theorem dX12_poke_23 : decode cX12_poke 23 = .ok (.iaload, 1) := dk_1046 (dk_g tcX12_poke_1 11 rfl)
theorem tcX12_poke_2 : (cX12_poke.data.toList.drop 24).take 12 = [161, 0, 7, 8, 167, 0, 4, 3, 182, 1, 53, 154] := by decide +kernel
theorem dX12_poke_24 : decode cX12_poke 24 = .ok (.if_icmp .lt 7, 3) := dk_2161 (dk_g tcX12_poke_2 0 rfl) (dk_g tcX12_poke_2 1 rfl) (dk_g tcX12_poke_2 2 rfl) rfl rfl
theorem dX12_poke_27 : decode cX12_poke 27 = .ok (.iconst 5, 1) := dk_1008 (dk_g tcX12_poke_2 3 rfl)
theorem dX12_poke_28 : decode cX12_poke 28 = .ok (.goto 4, 3) := dk_2167 (dk_g tcX12_poke_2 4 rfl) (dk_g tcX12_poke_2 5 rfl) (dk_g tcX12_poke_2 6 rfl) rfl rfl
theorem dX12_poke_31 : decode cX12_poke 31 = .ok (.iconst 0, 1) := dk_1003 (dk_g tcX12_poke_2 7 rfl)
theorem dX12_poke_32 : decode cX12_poke 32 = .ok (.invokevirtual 309, 3) := dk_1182 (dk_g tcX12_poke_2 8 rfl) (dk_g tcX12_poke_2 9 rfl) (dk_g tcX12_poke_2 10 rfl) rfl
theorem tcX12_poke_3 : (cX12_poke.data.toList.drop 36).take 12 = [0, 5, 2, 172, 42, 180, 0, 7, 16, 8, 27, 96] := by decide +kernel
theorem dX12_poke_35 : decode cX12_poke 35 = .ok (.ifCond .ne 5, 3) := dk_2154 (dk_g tcX12_poke_2 11 rfl) (dk_g tcX12_poke_3 0 rfl) (dk_g tcX12_poke_3 1 rfl) rfl rfl
theorem dX12_poke_38 : decode cX12_poke 38 = .ok (.iconst (-1), 1) := dk_1002 (dk_g tcX12_poke_3 2 rfl)
theorem dX12_poke_39 : decode cX12_poke 39 = .ok (.ireturn, 1) := dk_1172 (dk_g tcX12_poke_3 3 rfl)
theorem dX12_poke_40 : decode cX12_poke 40 = .ok (.aload_n 0, 1) := dk_1042 (dk_g tcX12_poke_3 4 rfl)
theorem dX12_poke_41 : decode cX12_poke 41 = .ok (.getfield 7, 3) := dk_1180 (dk_g tcX12_poke_3 5 rfl) (dk_g tcX12_poke_3 6 rfl) (dk_g tcX12_poke_3 7 rfl) rfl
theorem dX12_poke_44 : decode cX12_poke 44 = .ok (.bipush 8, 2) := dk_1016 (dk_g tcX12_poke_3 8 rfl) (dk_g tcX12_poke_3 9 rfl) (by decide +kernel)
theorem dX12_poke_46 : decode cX12_poke 46 = .ok (.iload_n 1, 1) := dk_1027 (dk_g tcX12_poke_3 10 rfl)
theorem dX12_poke_47 : decode cX12_poke 47 = .ok (.iadd, 1) := dk_1096 (dk_g tcX12_poke_3 11 rfl)
theorem tcX12_poke_4 : (cX12_poke.data.toList.drop 48).take 12 = [46, 62, 42, 180, 0, 7, 16, 8, 27, 96, 28, 79] := by decide +kernel
theorem dX12_poke_48 : decode cX12_poke 48 = .ok (.iaload, 1) := dk_1046 (dk_g tcX12_poke_4 0 rfl)
theorem dX12_poke_49 : decode cX12_poke 49 = .ok (.istore_n 3, 1) := dk_1062 (dk_g tcX12_poke_4 1 rfl)
theorem dX12_poke_50 : decode cX12_poke 50 = .ok (.aload_n 0, 1) := dk_1042 (dk_g tcX12_poke_4 2 rfl)
theorem dX12_poke_51 : decode cX12_poke 51 = .ok (.getfield 7, 3) := dk_1180 (dk_g tcX12_poke_4 3 rfl) (dk_g tcX12_poke_4 4 rfl) (dk_g tcX12_poke_4 5 rfl) rfl
theorem dX12_poke_54 : decode cX12_poke 54 = .ok (.bipush 8, 2) := dk_1016 (dk_g tcX12_poke_4 6 rfl) (dk_g tcX12_poke_4 7 rfl) (by decide +kernel)
theorem dX12_poke_56 : decode cX12_poke 56 = .ok (.iload_n 1, 1) := dk_1027 (dk_g tcX12_poke_4 8 rfl)
theorem dX12_poke_57 : decode cX12_poke 57 = .ok (.iadd, 1) := dk_1096 (dk_g tcX12_poke_4 9 rfl)
theorem dX12_poke_58 : decode cX12_poke 58 = .ok (.iload_n 2, 1) := dk_1028 (dk_g tcX12_poke_4 10 rfl)
theorem dX12_poke_59 : decode cX12_poke 59 = .ok (.iastore, 1) := dk_1079 (dk_g tcX12_poke_4 11 rfl)
theorem tcX12_poke_5 : (cX12_poke.data.toList.drop 60).take 12 = [29, 172] := by decide +kernel
theorem dX12_poke_60 : decode cX12_poke 60 = .ok (.iload_n 3, 1) := dk_1029 (dk_g tcX12_poke_5 0 rfl)
theorem dX12_poke_61 : decode cX12_poke 61 = .ok (.ireturn, 1) := dk_1172 (dk_g tcX12_poke_5 1 rfl)
theorem tcX12_pad_0 : (cX12_pad.data.toList.drop 0).take 12 = [42, 27, 156, 0, 7, 4, 167, 0, 18, 27, 42, 180] := by decide +kernel
theorem dX12_pad_0 : decode cX12_pad 0 = .ok (.aload_n 0, 1) := dk_1042 (dk_g tcX12_pad_0 0 rfl)
theorem dX12_pad_1 : decode cX12_pad 1 = .ok (.iload_n 1, 1) := dk_1027 (dk_g tcX12_pad_0 1 rfl)
theorem dX12_pad_2 : decode cX12_pad 2 = .ok (.ifCond .ge 7, 3) := dk_2156 (dk_g tcX12_pad_0 2 rfl) (dk_g tcX12_pad_0 3 rfl) (dk_g tcX12_pad_0 4 rfl) rfl rfl
theorem dX12_pad_5 : decode cX12_pad 5 = .ok (.iconst 1, 1) := dk_1004 (dk_g tcX12_pad_0 5 rfl)
theorem dX12_pad_6 : decode cX12_pad 6 = .ok (.goto 18, 3) := dk_2167 (dk_g tcX12_pad_0 6 rfl) (dk_g tcX12_pad_0 7 rfl) (dk_g tcX12_pad_0 8 rfl) rfl rfl
theorem dX12_pad_9 : decode cX12_pad 9 = .ok (.iload_n 1, 1) := dk_1027 (dk_g tcX12_pad_0 9 rfl)
theorem dX12_pad_10 : decode cX12_pad 10 = .ok (.aload_n 0, 1) := dk_1042 (dk_g tcX12_pad_0 10 rfl)
theorem tcX12_pad_1 : (cX12_pad.data.toList.drop 12).take 12 = [0, 7, 5, 46, 161, 0, 7, 8, 167, 0, 4, 3] := by decide +kernel
theorem dX12_pad_11 : decode cX12_pad 11 = .ok (.getfield 7, 3) := dk_1180 (dk_g tcX12_pad_0 11 rfl) (dk_g tcX12_pad_1 0 rfl) (dk_g tcX12_pad_1 1 rfl) rfl
theorem dX12_pad_14 : decode cX12_pad 14 = .ok (.iconst 2, 1) := dk_1005 (dk_g tcX12_pad_1 2 rfl)
theorem dX12_pad_15 : decode cX12_pad 15 = .ok (.iaload, 1) := dk_1046 (dk_g tcX12_pad_1 3 rfl)
theorem dX12_pad_16 : decode cX12_pad 16 = .ok (.if_icmp .lt 7, 3) := dk_2161 (dk_g tcX12_pad_1 4 rfl) (dk_g tcX12_pad_1 5 rfl) (dk_g tcX12_pad_1 6 rfl) rfl rfl
theorem dX12_pad_19 : decode cX12_pad 19 = .ok (.iconst 5, 1) := dk_1008 (dk_g tcX12_pad_1 7 rfl)
theorem dX12_pad_20 : decode cX12_pad 20 = .ok (.goto 4, 3) := dk_2167 (dk_g tcX12_pad_1 8 rfl) (dk_g tcX12_pad_1 9 rfl) (dk_g tcX12_pad_1 10 rfl) rfl rfl
theorem dX12_pad_23 : decode cX12_pad 23 = .ok (.iconst 0, 1) := dk_1003 (dk_g tcX12_pad_1 11 rfl)
theorem tcX12_pad_2 : (cX12_pad.data.toList.drop 24).take 12 = [182, 1, 53, 153, 0, 15, 42, 180, 0, 7, 16, 8] := by decide +kernel
theorem dX12_pad_24 : decode cX12_pad 24 = .ok (.invokevirtual 309, 3) := dk_1182 (dk_g tcX12_pad_2 0 rfl) (dk_g tcX12_pad_2 1 rfl) (dk_g tcX12_pad_2 2 rfl) rfl
theorem dX12_pad_27 : decode cX12_pad 27 = .ok (.ifCond .eq 15, 3) := dk_2153 (dk_g tcX12_pad_2 3 rfl) (dk_g tcX12_pad_2 4 rfl) (dk_g tcX12_pad_2 5 rfl) rfl rfl
theorem dX12_pad_30 : decode cX12_pad 30 = .ok (.aload_n 0, 1) := dk_1042 (dk_g tcX12_pad_2 6 rfl)
theorem dX12_pad_31 : decode cX12_pad 31 = .ok (.getfield 7, 3) := dk_1180 (dk_g tcX12_pad_2 7 rfl) (dk_g tcX12_pad_2 8 rfl) (dk_g tcX12_pad_2 9 rfl) rfl
theorem dX12_pad_34 : decode cX12_pad 34 = .ok (.bipush 8, 2) := dk_1016 (dk_g tcX12_pad_2 10 rfl) (dk_g tcX12_pad_2 11 rfl) (by decide +kernel)
theorem tcX12_pad_3 : (cX12_pad.data.toList.drop 36).take 12 = [27, 96, 46, 167, 0, 4, 2, 172] := by decide +kernel
theorem dX12_pad_36 : decode cX12_pad 36 = .ok (.iload_n 1, 1) := dk_1027 (dk_g tcX12_pad_3 0 rfl)
theorem dX12_pad_37 : decode cX12_pad 37 = .ok (.iadd, 1) := dk_1096 (dk_g tcX12_pad_3 1 rfl)
theorem dX12_pad_38 : decode cX12_pad 38 = .ok (.iaload, 1) := dk_1046 (dk_g tcX12_pad_3 2 rfl)
theorem dX12_pad_39 : decode cX12_pad 39 = .ok (.goto 4, 3) := dk_2167 (dk_g tcX12_pad_3 3 rfl) (dk_g tcX12_pad_3 4 rfl) (dk_g tcX12_pad_3 5 rfl) rfl rfl
theorem dX12_pad_42 : decode cX12_pad 42 = .ok (.iconst (-1), 1) := dk_1002 (dk_g tcX12_pad_3 6 rfl)
theorem dX12_pad_43 : decode cX12_pad 43 = .ok (.ireturn, 1) := dk_1172 (dk_g tcX12_pad_3 7 rfl)
theorem tcX12_cut_0 : (cX12_cut.data.toList.drop 0).take 12 = [42, 27, 156, 0, 7, 4, 167, 0, 18, 27, 42, 180] := by decide +kernel
theorem dX12_cut_0 : decode cX12_cut 0 = .ok (.aload_n 0, 1) := dk_1042 (dk_g tcX12_cut_0 0 rfl)
theorem dX12_cut_1 : decode cX12_cut 1 = .ok (.iload_n 1, 1) := dk_1027 (dk_g tcX12_cut_0 1 rfl)
theorem dX12_cut_2 : decode cX12_cut 2 = .ok (.ifCond .ge 7, 3) := dk_2156 (dk_g tcX12_cut_0 2 rfl) (dk_g tcX12_cut_0 3 rfl) (dk_g tcX12_cut_0 4 rfl) rfl rfl
theorem dX12_cut_5 : decode cX12_cut 5 = .ok (.iconst 1, 1) := dk_1004 (dk_g tcX12_cut_0 5 rfl)
theorem dX12_cut_6 : decode cX12_cut 6 = .ok (.goto 18, 3) := dk_2167 (dk_g tcX12_cut_0 6 rfl) (dk_g tcX12_cut_0 7 rfl) (dk_g tcX12_cut_0 8 rfl) rfl rfl
theorem dX12_cut_9 : decode cX12_cut 9 = .ok (.iload_n 1, 1) := dk_1027 (dk_g tcX12_cut_0 9 rfl)
theorem dX12_cut_10 : decode cX12_cut 10 = .ok (.aload_n 0, 1) := dk_1042 (dk_g tcX12_cut_0 10 rfl)
theorem tcX12_cut_1 : (cX12_cut.data.toList.drop 12).take 12 = [0, 7, 5, 46, 164, 0, 7, 8, 167, 0, 4, 3] := by decide +kernel
theorem dX12_cut_11 : decode cX12_cut 11 = .ok (.getfield 7, 3) := dk_1180 (dk_g tcX12_cut_0 11 rfl) (dk_g tcX12_cut_1 0 rfl) (dk_g tcX12_cut_1 1 rfl) rfl
theorem dX12_cut_14 : decode cX12_cut 14 = .ok (.iconst 2, 1) := dk_1005 (dk_g tcX12_cut_1 2 rfl)
theorem dX12_cut_15 : decode cX12_cut 15 = .ok (.iaload, 1) := dk_1046 (dk_g tcX12_cut_1 3 rfl)
theorem dX12_cut_16 : decode cX12_cut 16 = .ok (.if_icmp .le 7, 3) := dk_2164 (dk_g tcX12_cut_1 4 rfl) (dk_g tcX12_cut_1 5 rfl) (dk_g tcX12_cut_1 6 rfl) rfl rfl
theorem dX12_cut_19 : decode cX12_cut 19 = .ok (.iconst 5, 1) := dk_1008 (dk_g tcX12_cut_1 7 rfl)
theorem dX12_cut_20 : decode cX12_cut 20 = .ok (.goto 4, 3) := dk_2167 (dk_g tcX12_cut_1 8 rfl) (dk_g tcX12_cut_1 9 rfl) (dk_g tcX12_cut_1 10 rfl) rfl rfl
theorem dX12_cut_23 : decode cX12_cut 23 = .ok (.iconst 0, 1) := dk_1003 (dk_g tcX12_cut_1 11 rfl)
theorem tcX12_cut_2 : (cX12_cut.data.toList.drop 24).take 12 = [182, 1, 53, 154, 0, 5, 2, 172, 42, 180, 0, 7] := by decide +kernel
theorem dX12_cut_24 : decode cX12_cut 24 = .ok (.invokevirtual 309, 3) := dk_1182 (dk_g tcX12_cut_2 0 rfl) (dk_g tcX12_cut_2 1 rfl) (dk_g tcX12_cut_2 2 rfl) rfl
theorem dX12_cut_27 : decode cX12_cut 27 = .ok (.ifCond .ne 5, 3) := dk_2154 (dk_g tcX12_cut_2 3 rfl) (dk_g tcX12_cut_2 4 rfl) (dk_g tcX12_cut_2 5 rfl) rfl rfl
theorem dX12_cut_30 : decode cX12_cut 30 = .ok (.iconst (-1), 1) := dk_1002 (dk_g tcX12_cut_2 6 rfl)
theorem dX12_cut_31 : decode cX12_cut 31 = .ok (.ireturn, 1) := dk_1172 (dk_g tcX12_cut_2 7 rfl)
theorem dX12_cut_32 : decode cX12_cut 32 = .ok (.aload_n 0, 1) := dk_1042 (dk_g tcX12_cut_2 8 rfl)
theorem dX12_cut_33 : decode cX12_cut 33 = .ok (.getfield 7, 3) := dk_1180 (dk_g tcX12_cut_2 9 rfl) (dk_g tcX12_cut_2 10 rfl) (dk_g tcX12_cut_2 11 rfl) rfl
theorem tcX12_cut_3 : (cX12_cut.data.toList.drop 36).take 12 = [5, 27, 79, 27, 172] := by decide +kernel
theorem dX12_cut_36 : decode cX12_cut 36 = .ok (.iconst 2, 1) := dk_1005 (dk_g tcX12_cut_3 0 rfl)
theorem dX12_cut_37 : decode cX12_cut 37 = .ok (.iload_n 1, 1) := dk_1027 (dk_g tcX12_cut_3 1 rfl)
theorem dX12_cut_38 : decode cX12_cut 38 = .ok (.iastore, 1) := dk_1079 (dk_g tcX12_cut_3 2 rfl)
theorem dX12_cut_39 : decode cX12_cut 39 = .ok (.iload_n 1, 1) := dk_1027 (dk_g tcX12_cut_3 3 rfl)
theorem dX12_cut_40 : decode cX12_cut 40 = .ok (.ireturn, 1) := dk_1172 (dk_g tcX12_cut_3 4 rfl)
theorem tcX12_noEntry_0 : (cX12_noEntry.data.toList.drop 0).take 12 = [28, 155, 0, 7, 29, 156, 0, 7, 4, 167, 0, 34] := by decide +kernel
theorem dX12_noEntry_0 : decode cX12_noEntry 0 = .ok (.iload_n 2, 1) := dk_1028 (dk_g tcX12_noEntry_0 0 rfl)
theorem dX12_noEntry_1 : decode cX12_noEntry 1 = .ok (.ifCond .lt 7, 3) := dk_2155 (dk_g tcX12_noEntry_0 1 rfl) (dk_g tcX12_noEntry_0 2 rfl) (dk_g tcX12_noEntry_0 3 rfl) rfl rfl
theorem dX12_noEntry_4 : decode cX12_noEntry 4 = .ok (.iload_n 3, 1) := dk_1029 (dk_g tcX12_noEntry_0 4 rfl)
theorem dX12_noEntry_5 : decode cX12_noEntry 5 = .ok (.ifCond .ge 7, 3) := dk_2156 (dk_g tcX12_noEntry_0 5 rfl) (dk_g tcX12_noEntry_0 6 rfl) (dk_g tcX12_noEntry_0 7 rfl) rfl rfl
theorem dX12_noEntry_8 : decode cX12_noEntry 8 = .ok (.iconst 1, 1) := dk_1004 (dk_g tcX12_noEntry_0 8 rfl)
theorem dX12_noEntry_9 : decode cX12_noEntry 9 = .ok (.goto 34, 3) := dk_2167 (dk_g tcX12_noEntry_0 9 rfl) (dk_g tcX12_noEntry_0 10 rfl) (dk_g tcX12_noEntry_0 11 rfl) rfl rfl
theorem tcX12_noEntry_1 : (cX12_noEntry.data.toList.drop 12).take 12 = [42, 27, 182, 1, 88, 154, 0, 7, 5, 167, 0, 22] := by decide +kernel
theorem dX12_noEntry_12 : decode cX12_noEntry 12 = .ok (.aload_n 0, 1) := dk_1042 (dk_g tcX12_noEntry_1 0 rfl)
theorem dX12_noEntry_13 : decode cX12_noEntry 13 = .ok (.iload_n 1, 1) := dk_1027 (dk_g tcX12_noEntry_1 1 rfl)
theorem dX12_noEntry_14 : decode cX12_noEntry 14 = .ok (.invokevirtual 344, 3) := dk_1182 (dk_g tcX12_noEntry_1 2 rfl) (dk_g tcX12_noEntry_1 3 rfl) (dk_g tcX12_noEntry_1 4 rfl) rfl
theorem dX12_noEntry_17 : decode cX12_noEntry 17 = .ok (.ifCond .ne 7, 3) := dk_2154 (dk_g tcX12_noEntry_1 5 rfl) (dk_g tcX12_noEntry_1 6 rfl) (dk_g tcX12_noEntry_1 7 rfl) rfl rfl
theorem dX12_noEntry_20 : decode cX12_noEntry 20 = .ok (.iconst 2, 1) := dk_1005 (dk_g tcX12_noEntry_1 8 rfl)
theorem dX12_noEntry_21 : decode cX12_noEntry 21 = .ok (.goto 22, 3) := dk_2167 (dk_g tcX12_noEntry_1 9 rfl) (dk_g tcX12_noEntry_1 10 rfl) (dk_g tcX12_noEntry_1 11 rfl) rfl rfl
theorem tcX12_noEntry_2 : (cX12_noEntry.data.toList.drop 24).take 12 = [29, 42, 27, 182, 0, 209, 163, 0, 8, 28, 29, 161] := by decide +kernel
theorem dX12_noEntry_24 : decode cX12_noEntry 24 = .ok (.iload_n 3, 1) := dk_1029 (dk_g tcX12_noEntry_2 0 rfl)
theorem dX12_noEntry_25 : decode cX12_noEntry 25 = .ok (.aload_n 0, 1) := dk_1042 (dk_g tcX12_noEntry_2 1 rfl)
theorem dX12_noEntry_26 : decode cX12_noEntry 26 = .ok (.iload_n 1, 1) := dk_1027 (dk_g tcX12_noEntry_2 2 rfl)
theorem dX12_noEntry_27 : decode cX12_noEntry 27 = .ok (.invokevirtual 209, 3) := dk_1182 (dk_g tcX12_noEntry_2 3 rfl) (dk_g tcX12_noEntry_2 4 rfl) (dk_g tcX12_noEntry_2 5 rfl) rfl
theorem dX12_noEntry_30 : decode cX12_noEntry 30 = .ok (.if_icmp .gt 8, 3) := dk_2163 (dk_g tcX12_noEntry_2 6 rfl) (dk_g tcX12_noEntry_2 7 rfl) (dk_g tcX12_noEntry_2 8 rfl) rfl rfl
theorem dX12_noEntry_33 : decode cX12_noEntry 33 = .ok (.iload_n 2, 1) := dk_1028 (dk_g tcX12_noEntry_2 9 rfl)
theorem dX12_noEntry_34 : decode cX12_noEntry 34 = .ok (.iload_n 3, 1) := dk_1029 (dk_g tcX12_noEntry_2 10 rfl)
theorem tcX12_noEntry_3 : (cX12_noEntry.data.toList.drop 36).take 12 = [0, 7, 8, 167, 0, 4, 3, 172] := by decide +kernel
theorem dX12_noEntry_35 : decode cX12_noEntry 35 = .ok (.if_icmp .lt 7, 3) := dk_2161 (dk_g tcX12_noEntry_2 11 rfl) (dk_g tcX12_noEntry_3 0 rfl) (dk_g tcX12_noEntry_3 1 rfl) rfl rfl
theorem dX12_noEntry_38 : decode cX12_noEntry 38 = .ok (.iconst 5, 1) := dk_1008 (dk_g tcX12_noEntry_3 2 rfl)
theorem dX12_noEntry_39 : decode cX12_noEntry 39 = .ok (.goto 4, 3) := dk_2167 (dk_g tcX12_noEntry_3 3 rfl) (dk_g tcX12_noEntry_3 4 rfl) (dk_g tcX12_noEntry_3 5 rfl) rfl rfl
theorem dX12_noEntry_42 : decode cX12_noEntry 42 = .ok (.iconst 0, 1) := dk_1003 (dk_g tcX12_noEntry_3 6 rfl)
theorem dX12_noEntry_43 : decode cX12_noEntry 43 = .ok (.ireturn, 1) := dk_1172 (dk_g tcX12_noEntry_3 7 rfl)
theorem tcX12_include_0 : (cX12_include.data.toList.drop 0).take 12 = [42, 42, 27, 28, 29, 182, 1, 106, 182, 1, 53, 154] := by decide +kernel
theorem dX12_include_0 : decode cX12_include 0 = .ok (.aload_n 0, 1) := dk_1042 (dk_g tcX12_include_0 0 rfl)
theorem dX12_include_1 : decode cX12_include 1 = .ok (.aload_n 0, 1) := dk_1042 (dk_g tcX12_include_0 1 rfl)
theorem dX12_include_2 : decode cX12_include 2 = .ok (.iload_n 1, 1) := dk_1027 (dk_g tcX12_include_0 2 rfl)
theorem dX12_include_3 : decode cX12_include 3 = .ok (.iload_n 2, 1) := dk_1028 (dk_g tcX12_include_0 3 rfl)
theorem dX12_include_4 : decode cX12_include 4 = .ok (.iload_n 3, 1) := dk_1029 (dk_g tcX12_include_0 4 rfl)
theorem dX12_include_5 : decode cX12_include 5 = .ok (.invokevirtual 362, 3) := dk_1182 (dk_g tcX12_include_0 5 rfl) (dk_g tcX12_include_0 6 rfl) (dk_g tcX12_include_0 7 rfl) rfl
theorem dX12_include_8 : decode cX12_include 8 = .ok (.invokevirtual 309, 3) := dk_1182 (dk_g tcX12_include_0 8 rfl) (dk_g tcX12_include_0 9 rfl) (dk_g tcX12_include_0 10 rfl) rfl
theorem tcX12_include_1 : (cX12_include.data.toList.drop 12).take 12 = [0, 5, 2, 172, 42, 28, 29, 182, 0, 171, 42, 27] := by decide +kernel
theorem dX12_include_11 : decode cX12_include 11 = .ok (.ifCond .ne 5, 3) := dk_2154 (dk_g tcX12_include_0 11 rfl) (dk_g tcX12_include_1 0 rfl) (dk_g tcX12_include_1 1 rfl) rfl rfl
theorem dX12_include_14 : decode cX12_include 14 = .ok (.iconst (-1), 1) := dk_1002 (dk_g tcX12_include_1 2 rfl)
theorem dX12_include_15 : decode cX12_include 15 = .ok (.ireturn, 1) := dk_1172 (dk_g tcX12_include_1 3 rfl)
theorem dX12_include_16 : decode cX12_include 16 = .ok (.aload_n 0, 1) := dk_1042 (dk_g tcX12_include_1 4 rfl)
theorem dX12_include_17 : decode cX12_include 17 = .ok (.iload_n 2, 1) := dk_1028 (dk_g tcX12_include_1 5 rfl)
theorem dX12_include_18 : decode cX12_include 18 = .ok (.iload_n 3, 1) := dk_1029 (dk_g tcX12_include_1 6 rfl)
theorem dX12_include_19 : decode cX12_include 19 = .ok (.invokevirtual 171, 3) := dk_1182 (dk_g tcX12_include_1 7 rfl) (dk_g tcX12_include_1 8 rfl) (dk_g tcX12_include_1 9 rfl) rfl
theorem dX12_include_22 : decode cX12_include 22 = .ok (.aload_n 0, 1) := dk_1042 (dk_g tcX12_include_1 10 rfl)
theorem dX12_include_23 : decode cX12_include 23 = .ok (.iload_n 1, 1) := dk_1027 (dk_g tcX12_include_1 11 rfl)
theorem tcX12_include_2 : (cX12_include.data.toList.drop 24).take 12 = [182, 1, 109, 172] := by decide +kernel
theorem dX12_include_24 : decode cX12_include 24 = .ok (.invokevirtual 365, 3) := dk_1182 (dk_g tcX12_include_2 0 rfl) (dk_g tcX12_include_2 1 rfl) (dk_g tcX12_include_2 2 rfl) rfl
theorem dX12_include_27 : decode cX12_include 27 = .ok (.ireturn, 1) := dk_1172 (dk_g tcX12_include_2 3 rfl)
theorem tcX12_grow_0 : (cX12_grow.data.toList.drop 0).take 12 = [42, 28, 155, 0, 8, 28, 29, 164, 0, 7, 4, 167] := by decide +kernel
theorem dX12_grow_0 : decode cX12_grow 0 = .ok (.aload_n 0, 1) := dk_1042 (dk_g tcX12_grow_0 0 rfl)
theorem dX12_grow_1 : decode cX12_grow 1 = .ok (.iload_n 2, 1) := dk_1028 (dk_g tcX12_grow_0 1 rfl)
theorem dX12_grow_2 : decode cX12_grow 2 = .ok (.ifCond .lt 8, 3) := dk_2155 (dk_g tcX12_grow_0 2 rfl) (dk_g tcX12_grow_0 3 rfl) (dk_g tcX12_grow_0 4 rfl) rfl rfl
theorem dX12_grow_5 : decode cX12_grow 5 = .ok (.iload_n 2, 1) := dk_1028 (dk_g tcX12_grow_0 5 rfl)
theorem dX12_grow_6 : decode cX12_grow 6 = .ok (.iload_n 3, 1) := dk_1029 (dk_g tcX12_grow_0 6 rfl)
theorem dX12_grow_7 : decode cX12_grow 7 = .ok (.if_icmp .le 7, 3) := dk_2164 (dk_g tcX12_grow_0 7 rfl) (dk_g tcX12_grow_0 8 rfl) (dk_g tcX12_grow_0 9 rfl) rfl rfl
theorem dX12_grow_10 : decode cX12_grow 10 = .ok (.iconst 1, 1) := dk_1004 (dk_g tcX12_grow_0 10 rfl)
theorem tcX12_grow_1 : (cX12_grow.data.toList.drop 12).take 12 = [0, 9, 42, 27, 29, 182, 1, 91, 182, 1, 53, 154] := by decide +kernel
theorem dX12_grow_11 : decode cX12_grow 11 = .ok (.goto 9, 3) := dk_2167 (dk_g tcX12_grow_0 11 rfl) (dk_g tcX12_grow_1 0 rfl) (dk_g tcX12_grow_1 1 rfl) rfl rfl
theorem dX12_grow_14 : decode cX12_grow 14 = .ok (.aload_n 0, 1) := dk_1042 (dk_g tcX12_grow_1 2 rfl)
theorem dX12_grow_15 : decode cX12_grow 15 = .ok (.iload_n 1, 1) := dk_1027 (dk_g tcX12_grow_1 3 rfl)
theorem dX12_grow_16 : decode cX12_grow 16 = .ok (.iload_n 3, 1) := dk_1029 (dk_g tcX12_grow_1 4 rfl)
theorem dX12_grow_17 : decode cX12_grow 17 = .ok (.invokevirtual 347, 3) := dk_1182 (dk_g tcX12_grow_1 5 rfl) (dk_g tcX12_grow_1 6 rfl) (dk_g tcX12_grow_1 7 rfl) rfl
theorem dX12_grow_20 : decode cX12_grow 20 = .ok (.invokevirtual 309, 3) := dk_1182 (dk_g tcX12_grow_1 8 rfl) (dk_g tcX12_grow_1 9 rfl) (dk_g tcX12_grow_1 10 rfl) rfl
theorem tcX12_grow_2 : (cX12_grow.data.toList.drop 24).take 12 = [0, 5, 2, 172, 42, 28, 29, 182, 0, 190, 42, 27] := by decide +kernel
theorem dX12_grow_23 : decode cX12_grow 23 = .ok (.ifCond .ne 5, 3) := dk_2154 (dk_g tcX12_grow_1 11 rfl) (dk_g tcX12_grow_2 0 rfl) (dk_g tcX12_grow_2 1 rfl) rfl rfl
theorem dX12_grow_26 : decode cX12_grow 26 = .ok (.iconst (-1), 1) := dk_1002 (dk_g tcX12_grow_2 2 rfl)
theorem dX12_grow_27 : decode cX12_grow 27 = .ok (.ireturn, 1) := dk_1172 (dk_g tcX12_grow_2 3 rfl)
theorem dX12_grow_28 : decode cX12_grow 28 = .ok (.aload_n 0, 1) := dk_1042 (dk_g tcX12_grow_2 4 rfl)
theorem dX12_grow_29 : decode cX12_grow 29 = .ok (.iload_n 2, 1) := dk_1028 (dk_g tcX12_grow_2 5 rfl)
theorem dX12_grow_30 : decode cX12_grow 30 = .ok (.iload_n 3, 1) := dk_1029 (dk_g tcX12_grow_2 6 rfl)
theorem dX12_grow_31 : decode cX12_grow 31 = .ok (.invokevirtual 190, 3) := dk_1182 (dk_g tcX12_grow_2 7 rfl) (dk_g tcX12_grow_2 8 rfl) (dk_g tcX12_grow_2 9 rfl) rfl
theorem dX12_grow_34 : decode cX12_grow 34 = .ok (.aload_n 0, 1) := dk_1042 (dk_g tcX12_grow_2 10 rfl)
theorem dX12_grow_35 : decode cX12_grow 35 = .ok (.iload_n 1, 1) := dk_1027 (dk_g tcX12_grow_2 11 rfl)
theorem tcX12_grow_3 : (cX12_grow.data.toList.drop 36).take 12 = [182, 1, 109, 172] := by decide +kernel
theorem dX12_grow_36 : decode cX12_grow 36 = .ok (.invokevirtual 365, 3) := dk_1182 (dk_g tcX12_grow_3 0 rfl) (dk_g tcX12_grow_3 1 rfl) (dk_g tcX12_grow_3 2 rfl) rfl
theorem dX12_grow_39 : decode cX12_grow 39 = .ok (.ireturn, 1) := dk_1172 (dk_g tcX12_grow_3 3 rfl)
theorem tcX12_isBeyond_0 : (cX12_isBeyond.data.toList.drop 0).take 12 = [3, 61, 28, 16, 31, 162, 0, 31, 26, 28, 122, 4] := by decide +kernel
theorem dX12_isBeyond_0 : decode cX12_isBeyond 0 = .ok (.iconst 0, 1) := dk_1003 (dk_g tcX12_isBeyond_0 0 rfl)
theorem dX12_isBeyond_1 : decode cX12_isBeyond 1 = .ok (.istore_n 2, 1) := dk_1061 (dk_g tcX12_isBeyond_0 1 rfl)
theorem dX12_isBeyond_2 : decode cX12_isBeyond 2 = .ok (.iload_n 2, 1) := dk_1028 (dk_g tcX12_isBeyond_0 2 rfl)
theorem dX12_isBeyond_3 : decode cX12_isBeyond 3 = .ok (.bipush 31, 2) := dk_1016 (dk_g tcX12_isBeyond_0 3 rfl) (dk_g tcX12_isBeyond_0 4 rfl) (by decide +kernel)
theorem dX12_isBeyond_5 : decode cX12_isBeyond 5 = .ok (.if_icmp .ge 31, 3) := dk_2162 (dk_g tcX12_isBeyond_0 5 rfl) (dk_g tcX12_isBeyond_0 6 rfl) (dk_g tcX12_isBeyond_0 7 rfl) rfl rfl
theorem dX12_isBeyond_8 : decode cX12_isBeyond 8 = .ok (.iload_n 0, 1) := dk_1026 (dk_g tcX12_isBeyond_0 8 rfl)
theorem dX12_isBeyond_9 : decode cX12_isBeyond 9 = .ok (.iload_n 2, 1) := dk_1028 (dk_g tcX12_isBeyond_0 9 rfl)
theorem dX12_isBeyond_10 : decode cX12_isBeyond 10 = .ok (.ishr, 1) := dk_1122 (dk_g tcX12_isBeyond_0 10 rfl)
theorem dX12_isBeyond_11 : decode cX12_isBeyond 11 = .ok (.iconst 1, 1) := dk_1004 (dk_g tcX12_isBeyond_0 11 rfl)
theorem tcX12_isBeyond_1 : (cX12_isBeyond.data.toList.drop 12).take 12 = [126, 4, 160, 0, 16, 28, 27, 162, 0, 9, 28, 16] := by decide +kernel
theorem dX12_isBeyond_12 : decode cX12_isBeyond 12 = .ok (.iand, 1) := dk_1126 (dk_g tcX12_isBeyond_1 0 rfl)
theorem dX12_isBeyond_13 : decode cX12_isBeyond 13 = .ok (.iconst 1, 1) := dk_1004 (dk_g tcX12_isBeyond_1 1 rfl)
theorem dX12_isBeyond_14 : decode cX12_isBeyond 14 = .ok (.if_icmp .ne 16, 3) := dk_2160 (dk_g tcX12_isBeyond_1 2 rfl) (dk_g tcX12_isBeyond_1 3 rfl) (dk_g tcX12_isBeyond_1 4 rfl) rfl rfl
theorem dX12_isBeyond_17 : decode cX12_isBeyond 17 = .ok (.iload_n 2, 1) := dk_1028 (dk_g tcX12_isBeyond_1 5 rfl)
theorem dX12_isBeyond_18 : decode cX12_isBeyond 18 = .ok (.iload_n 1, 1) := dk_1027 (dk_g tcX12_isBeyond_1 6 rfl)
theorem dX12_isBeyond_19 : decode cX12_isBeyond 19 = .ok (.if_icmp .ge 9, 3) := dk_2162 (dk_g tcX12_isBeyond_1 7 rfl) (dk_g tcX12_isBeyond_1 8 rfl) (dk_g tcX12_isBeyond_1 9 rfl) rfl rfl
theorem dX12_isBeyond_22 : decode cX12_isBeyond 22 = .ok (.iload_n 2, 1) := dk_1028 (dk_g tcX12_isBeyond_1 10 rfl)
theorem tcX12_isBeyond_2 : (cX12_isBeyond.data.toList.drop 24).take 12 = [30, 161, 0, 5, 4, 172, 132, 2, 1, 167, 255, 225] := by decide +kernel
theorem dX12_isBeyond_23 : decode cX12_isBeyond 23 = .ok (.bipush 30, 2) := dk_1016 (dk_g tcX12_isBeyond_1 11 rfl) (dk_g tcX12_isBeyond_2 0 rfl) (by decide +kernel)
theorem dX12_isBeyond_25 : decode cX12_isBeyond 25 = .ok (.if_icmp .lt 5, 3) := dk_2161 (dk_g tcX12_isBeyond_2 1 rfl) (dk_g tcX12_isBeyond_2 2 rfl) (dk_g tcX12_isBeyond_2 3 rfl) rfl rfl
theorem dX12_isBeyond_28 : decode cX12_isBeyond 28 = .ok (.iconst 1, 1) := dk_1004 (dk_g tcX12_isBeyond_2 4 rfl)
theorem dX12_isBeyond_29 : decode cX12_isBeyond 29 = .ok (.ireturn, 1) := dk_1172 (dk_g tcX12_isBeyond_2 5 rfl)
theorem dX12_isBeyond_30 : decode cX12_isBeyond 30 = .ok (.iinc 2 1, 3) := dk_1132 (dk_g tcX12_isBeyond_2 6 rfl) (dk_g tcX12_isBeyond_2 7 rfl) (dk_g tcX12_isBeyond_2 8 rfl) rfl (by decide +kernel)
theorem dX12_isBeyond_33 : decode cX12_isBeyond 33 = .ok (.goto (-31), 3) := dk_1167 (dk_g tcX12_isBeyond_2 9 rfl) (dk_g tcX12_isBeyond_2 10 rfl) (dk_g tcX12_isBeyond_2 11 rfl) (by decide +kernel)
theorem tcX12_isBeyond_3 : (cX12_isBeyond.data.toList.drop 36).take 12 = [3, 172] := by decide +kernel
theorem dX12_isBeyond_36 : decode cX12_isBeyond 36 = .ok (.iconst 0, 1) := dk_1003 (dk_g tcX12_isBeyond_3 0 rfl)
theorem dX12_isBeyond_37 : decode cX12_isBeyond 37 = .ok (.ireturn, 1) := dk_1172 (dk_g tcX12_isBeyond_3 1 rfl)
theorem tcX12_bundle_0 : (cX12_bundle.data.toList.drop 0).take 12 = [42, 29, 155, 0, 7, 28, 157, 0, 7, 4, 167, 0] := by decide +kernel
theorem dX12_bundle_0 : decode cX12_bundle 0 = .ok (.aload_n 0, 1) := dk_1042 (dk_g tcX12_bundle_0 0 rfl)
theorem dX12_bundle_1 : decode cX12_bundle 1 = .ok (.iload_n 3, 1) := dk_1029 (dk_g tcX12_bundle_0 1 rfl)
theorem dX12_bundle_2 : decode cX12_bundle 2 = .ok (.ifCond .lt 7, 3) := dk_2155 (dk_g tcX12_bundle_0 2 rfl) (dk_g tcX12_bundle_0 3 rfl) (dk_g tcX12_bundle_0 4 rfl) rfl rfl
theorem dX12_bundle_5 : decode cX12_bundle 5 = .ok (.iload_n 2, 1) := dk_1028 (dk_g tcX12_bundle_0 5 rfl)
theorem dX12_bundle_6 : decode cX12_bundle 6 = .ok (.ifCond .gt 7, 3) := dk_2157 (dk_g tcX12_bundle_0 6 rfl) (dk_g tcX12_bundle_0 7 rfl) (dk_g tcX12_bundle_0 8 rfl) rfl rfl
theorem dX12_bundle_9 : decode cX12_bundle 9 = .ok (.iconst 1, 1) := dk_1004 (dk_g tcX12_bundle_0 9 rfl)
theorem tcX12_bundle_1 : (cX12_bundle.data.toList.drop 12).take 12 = [9, 42, 27, 29, 182, 1, 91, 182, 1, 53, 154, 0] := by decide +kernel
theorem dX12_bundle_10 : decode cX12_bundle 10 = .ok (.goto 9, 3) := dk_2167 (dk_g tcX12_bundle_0 10 rfl) (dk_g tcX12_bundle_0 11 rfl) (dk_g tcX12_bundle_1 0 rfl) rfl rfl
theorem dX12_bundle_13 : decode cX12_bundle 13 = .ok (.aload_n 0, 1) := dk_1042 (dk_g tcX12_bundle_1 1 rfl)
theorem dX12_bundle_14 : decode cX12_bundle 14 = .ok (.iload_n 1, 1) := dk_1027 (dk_g tcX12_bundle_1 2 rfl)
theorem dX12_bundle_15 : decode cX12_bundle 15 = .ok (.iload_n 3, 1) := dk_1029 (dk_g tcX12_bundle_1 3 rfl)
theorem dX12_bundle_16 : decode cX12_bundle 16 = .ok (.invokevirtual 347, 3) := dk_1182 (dk_g tcX12_bundle_1 4 rfl) (dk_g tcX12_bundle_1 5 rfl) (dk_g tcX12_bundle_1 6 rfl) rfl
theorem dX12_bundle_19 : decode cX12_bundle 19 = .ok (.invokevirtual 309, 3) := dk_1182 (dk_g tcX12_bundle_1 7 rfl) (dk_g tcX12_bundle_1 8 rfl) (dk_g tcX12_bundle_1 9 rfl) rfl
theorem tcX12_bundle_2 : (cX12_bundle.data.toList.drop 24).take 12 = [5, 2, 172, 28, 29, 184, 1, 112, 153, 0, 9, 42] := by decide +kernel
theorem dX12_bundle_22 : decode cX12_bundle 22 = .ok (.ifCond .ne 5, 3) := dk_2154 (dk_g tcX12_bundle_1 10 rfl) (dk_g tcX12_bundle_1 11 rfl) (dk_g tcX12_bundle_2 0 rfl) rfl rfl
theorem dX12_bundle_25 : decode cX12_bundle 25 = .ok (.iconst (-1), 1) := dk_1002 (dk_g tcX12_bundle_2 1 rfl)
theorem dX12_bundle_26 : decode cX12_bundle 26 = .ok (.ireturn, 1) := dk_1172 (dk_g tcX12_bundle_2 2 rfl)
theorem dX12_bundle_27 : decode cX12_bundle 27 = .ok (.iload_n 2, 1) := dk_1028 (dk_g tcX12_bundle_2 3 rfl)
theorem dX12_bundle_28 : decode cX12_bundle 28 = .ok (.iload_n 3, 1) := dk_1029 (dk_g tcX12_bundle_2 4 rfl)
theorem dX12_bundle_29 : decode cX12_bundle 29 = .ok (.invokestatic 368, 3) := dk_1184 (dk_g tcX12_bundle_2 5 rfl) (dk_g tcX12_bundle_2 6 rfl) (dk_g tcX12_bundle_2 7 rfl) rfl
theorem dX12_bundle_32 : decode cX12_bundle 32 = .ok (.ifCond .eq 9, 3) := dk_2153 (dk_g tcX12_bundle_2 8 rfl) (dk_g tcX12_bundle_2 9 rfl) (dk_g tcX12_bundle_2 10 rfl) rfl rfl
theorem dX12_bundle_35 : decode cX12_bundle 35 = .ok (.aload_n 0, 1) := dk_1042 (dk_g tcX12_bundle_2 11 rfl)
theorem tcX12_bundle_3 : (cX12_bundle.data.toList.drop 36).take 12 = [8, 182, 0, 212, 172, 42, 28, 29, 182, 1, 116, 42] := by decide +kernel
theorem dX12_bundle_36 : decode cX12_bundle 36 = .ok (.iconst 5, 1) := dk_1008 (dk_g tcX12_bundle_3 0 rfl)
theorem dX12_bundle_37 : decode cX12_bundle 37 = .ok (.invokevirtual 212, 3) := dk_1182 (dk_g tcX12_bundle_3 1 rfl) (dk_g tcX12_bundle_3 2 rfl) (dk_g tcX12_bundle_3 3 rfl) rfl
theorem dX12_bundle_40 : decode cX12_bundle 40 = .ok (.ireturn, 1) := dk_1172 (dk_g tcX12_bundle_3 4 rfl)
theorem dX12_bundle_41 : decode cX12_bundle 41 = .ok (.aload_n 0, 1) := dk_1042 (dk_g tcX12_bundle_3 5 rfl)
theorem dX12_bundle_42 : decode cX12_bundle 42 = .ok (.iload_n 2, 1) := dk_1028 (dk_g tcX12_bundle_3 6 rfl)
theorem dX12_bundle_43 : decode cX12_bundle 43 = .ok (.iload_n 3, 1) := dk_1029 (dk_g tcX12_bundle_3 7 rfl)
theorem dX12_bundle_44 : decode cX12_bundle 44 = .ok (.invokevirtual 372, 3) := dk_1182 (dk_g tcX12_bundle_3 8 rfl) (dk_g tcX12_bundle_3 9 rfl) (dk_g tcX12_bundle_3 10 rfl) rfl
theorem dX12_bundle_47 : decode cX12_bundle 47 = .ok (.aload_n 0, 1) := dk_1042 (dk_g tcX12_bundle_3 11 rfl)
theorem tcX12_bundle_4 : (cX12_bundle.data.toList.drop 48).take 12 = [27, 182, 1, 109, 172] := by decide +kernel
theorem dX12_bundle_48 : decode cX12_bundle 48 = .ok (.iload_n 1, 1) := dk_1027 (dk_g tcX12_bundle_4 0 rfl)
theorem dX12_bundle_49 : decode cX12_bundle 49 = .ok (.invokevirtual 365, 3) := dk_1182 (dk_g tcX12_bundle_4 1 rfl) (dk_g tcX12_bundle_4 2 rfl) (dk_g tcX12_bundle_4 3 rfl) rfl
theorem dX12_bundle_52 : decode cX12_bundle 52 = .ok (.ireturn, 1) := dk_1172 (dk_g tcX12_bundle_4 4 rfl)
theorem tcX12_peaks_0 : (cX12_peaks.data.toList.drop 0).take 12 = [42, 42, 27, 28, 182, 1, 91, 182, 1, 53, 154, 0] := by decide +kernel
theorem dX12_peaks_0 : decode cX12_peaks 0 = .ok (.aload_n 0, 1) := dk_1042 (dk_g tcX12_peaks_0 0 rfl)
theorem dX12_peaks_1 : decode cX12_peaks 1 = .ok (.aload_n 0, 1) := dk_1042 (dk_g tcX12_peaks_0 1 rfl)
theorem dX12_peaks_2 : decode cX12_peaks 2 = .ok (.iload_n 1, 1) := dk_1027 (dk_g tcX12_peaks_0 2 rfl)
theorem dX12_peaks_3 : decode cX12_peaks 3 = .ok (.iload_n 2, 1) := dk_1028 (dk_g tcX12_peaks_0 3 rfl)
theorem dX12_peaks_4 : decode cX12_peaks 4 = .ok (.invokevirtual 347, 3) := dk_1182 (dk_g tcX12_peaks_0 4 rfl) (dk_g tcX12_peaks_0 5 rfl) (dk_g tcX12_peaks_0 6 rfl) rfl
theorem dX12_peaks_7 : decode cX12_peaks 7 = .ok (.invokevirtual 309, 3) := dk_1182 (dk_g tcX12_peaks_0 7 rfl) (dk_g tcX12_peaks_0 8 rfl) (dk_g tcX12_peaks_0 9 rfl) rfl
theorem tcX12_peaks_1 : (cX12_peaks.data.toList.drop 12).take 12 = [5, 2, 172, 42, 28, 182, 0, 218, 42, 27, 182, 1] := by decide +kernel
theorem dX12_peaks_10 : decode cX12_peaks 10 = .ok (.ifCond .ne 5, 3) := dk_2154 (dk_g tcX12_peaks_0 10 rfl) (dk_g tcX12_peaks_0 11 rfl) (dk_g tcX12_peaks_1 0 rfl) rfl rfl
theorem dX12_peaks_13 : decode cX12_peaks 13 = .ok (.iconst (-1), 1) := dk_1002 (dk_g tcX12_peaks_1 1 rfl)
theorem dX12_peaks_14 : decode cX12_peaks 14 = .ok (.ireturn, 1) := dk_1172 (dk_g tcX12_peaks_1 2 rfl)
theorem dX12_peaks_15 : decode cX12_peaks 15 = .ok (.aload_n 0, 1) := dk_1042 (dk_g tcX12_peaks_1 3 rfl)
theorem dX12_peaks_16 : decode cX12_peaks 16 = .ok (.iload_n 2, 1) := dk_1028 (dk_g tcX12_peaks_1 4 rfl)
theorem dX12_peaks_17 : decode cX12_peaks 17 = .ok (.invokevirtual 218, 3) := dk_1182 (dk_g tcX12_peaks_1 5 rfl) (dk_g tcX12_peaks_1 6 rfl) (dk_g tcX12_peaks_1 7 rfl) rfl
theorem dX12_peaks_20 : decode cX12_peaks 20 = .ok (.aload_n 0, 1) := dk_1042 (dk_g tcX12_peaks_1 8 rfl)
theorem dX12_peaks_21 : decode cX12_peaks 21 = .ok (.iload_n 1, 1) := dk_1027 (dk_g tcX12_peaks_1 9 rfl)
theorem tcX12_peaks_2 : (cX12_peaks.data.toList.drop 24).take 12 = [109, 172] := by decide +kernel
theorem dX12_peaks_22 : decode cX12_peaks 22 = .ok (.invokevirtual 365, 3) := dk_1182 (dk_g tcX12_peaks_1 10 rfl) (dk_g tcX12_peaks_1 11 rfl) (dk_g tcX12_peaks_2 0 rfl) rfl
theorem dX12_peaks_25 : decode cX12_peaks 25 = .ok (.ireturn, 1) := dk_1172 (dk_g tcX12_peaks_2 1 rfl)
theorem tcX12_extend_0 : (cX12_extend.data.toList.drop 0).take 12 = [42, 27, 3, 19, 1, 119, 184, 0, 113, 153, 0, 11] := by decide +kernel
theorem dX12_extend_0 : decode cX12_extend 0 = .ok (.aload_n 0, 1) := dk_1042 (dk_g tcX12_extend_0 0 rfl)
theorem dX12_extend_1 : decode cX12_extend 1 = .ok (.iload_n 1, 1) := dk_1027 (dk_g tcX12_extend_0 1 rfl)
theorem dX12_extend_2 : decode cX12_extend 2 = .ok (.iconst 0, 1) := dk_1003 (dk_g tcX12_extend_0 2 rfl)
theorem dX12_extend_3 : decode cX12_extend 3 = .ok (.ldc_w 375, 3) := dk_1019 (dk_g tcX12_extend_0 3 rfl) (dk_g tcX12_extend_0 4 rfl) (dk_g tcX12_extend_0 5 rfl) rfl
theorem dX12_extend_6 : decode cX12_extend 6 = .ok (.invokestatic 113, 3) := dk_1184 (dk_g tcX12_extend_0 6 rfl) (dk_g tcX12_extend_0 7 rfl) (dk_g tcX12_extend_0 8 rfl) rfl
theorem dX12_extend_9 : decode cX12_extend 9 = .ok (.ifCond .eq 11, 3) := dk_2153 (dk_g tcX12_extend_0 9 rfl) (dk_g tcX12_extend_0 10 rfl) (dk_g tcX12_extend_0 11 rfl) rfl rfl
theorem tcX12_extend_1 : (cX12_extend.data.toList.drop 12).take 12 = [42, 28, 182, 1, 65, 154, 0, 7, 4, 167, 0, 21] := by decide +kernel
theorem dX12_extend_12 : decode cX12_extend 12 = .ok (.aload_n 0, 1) := dk_1042 (dk_g tcX12_extend_1 0 rfl)
theorem dX12_extend_13 : decode cX12_extend 13 = .ok (.iload_n 2, 1) := dk_1028 (dk_g tcX12_extend_1 1 rfl)
theorem dX12_extend_14 : decode cX12_extend 14 = .ok (.invokevirtual 321, 3) := dk_1182 (dk_g tcX12_extend_1 2 rfl) (dk_g tcX12_extend_1 3 rfl) (dk_g tcX12_extend_1 4 rfl) rfl
theorem dX12_extend_17 : decode cX12_extend 17 = .ok (.ifCond .ne 7, 3) := dk_2154 (dk_g tcX12_extend_1 5 rfl) (dk_g tcX12_extend_1 6 rfl) (dk_g tcX12_extend_1 7 rfl) rfl rfl
theorem dX12_extend_20 : decode cX12_extend 20 = .ok (.iconst 1, 1) := dk_1004 (dk_g tcX12_extend_1 8 rfl)
theorem dX12_extend_21 : decode cX12_extend 21 = .ok (.goto 21, 3) := dk_2167 (dk_g tcX12_extend_1 9 rfl) (dk_g tcX12_extend_1 10 rfl) (dk_g tcX12_extend_1 11 rfl) rfl rfl
theorem tcX12_extend_2 : (cX12_extend.data.toList.drop 24).take 12 = [27, 184, 1, 120, 42, 180, 0, 7, 5, 46, 159, 0] := by decide +kernel
theorem dX12_extend_24 : decode cX12_extend 24 = .ok (.iload_n 1, 1) := dk_1027 (dk_g tcX12_extend_2 0 rfl)
theorem dX12_extend_25 : decode cX12_extend 25 = .ok (.invokestatic 376, 3) := dk_1184 (dk_g tcX12_extend_2 1 rfl) (dk_g tcX12_extend_2 2 rfl) (dk_g tcX12_extend_2 3 rfl) rfl
theorem dX12_extend_28 : decode cX12_extend 28 = .ok (.aload_n 0, 1) := dk_1042 (dk_g tcX12_extend_2 4 rfl)
theorem dX12_extend_29 : decode cX12_extend 29 = .ok (.getfield 7, 3) := dk_1180 (dk_g tcX12_extend_2 5 rfl) (dk_g tcX12_extend_2 6 rfl) (dk_g tcX12_extend_2 7 rfl) rfl
theorem dX12_extend_32 : decode cX12_extend 32 = .ok (.iconst 2, 1) := dk_1005 (dk_g tcX12_extend_2 8 rfl)
theorem dX12_extend_33 : decode cX12_extend 33 = .ok (.iaload, 1) := dk_1046 (dk_g tcX12_extend_2 9 rfl)
theorem tcX12_extend_3 : (cX12_extend.data.toList.drop 36).take 12 = [7, 8, 167, 0, 4, 3, 182, 1, 53, 154, 0, 5] := by decide +kernel
theorem dX12_extend_34 : decode cX12_extend 34 = .ok (.if_icmp .eq 7, 3) := dk_2159 (dk_g tcX12_extend_2 10 rfl) (dk_g tcX12_extend_2 11 rfl) (dk_g tcX12_extend_3 0 rfl) rfl rfl
theorem dX12_extend_37 : decode cX12_extend 37 = .ok (.iconst 5, 1) := dk_1008 (dk_g tcX12_extend_3 1 rfl)
theorem dX12_extend_38 : decode cX12_extend 38 = .ok (.goto 4, 3) := dk_2167 (dk_g tcX12_extend_3 2 rfl) (dk_g tcX12_extend_3 3 rfl) (dk_g tcX12_extend_3 4 rfl) rfl rfl
theorem dX12_extend_41 : decode cX12_extend 41 = .ok (.iconst 0, 1) := dk_1003 (dk_g tcX12_extend_3 5 rfl)
theorem dX12_extend_42 : decode cX12_extend 42 = .ok (.invokevirtual 309, 3) := dk_1182 (dk_g tcX12_extend_3 6 rfl) (dk_g tcX12_extend_3 7 rfl) (dk_g tcX12_extend_3 8 rfl) rfl
theorem dX12_extend_45 : decode cX12_extend 45 = .ok (.ifCond .ne 5, 3) := dk_2154 (dk_g tcX12_extend_3 9 rfl) (dk_g tcX12_extend_3 10 rfl) (dk_g tcX12_extend_3 11 rfl) rfl rfl
theorem tcX12_extend_4 : (cX12_extend.data.toList.drop 48).take 12 = [2, 172, 28, 62, 27, 54, 4, 21, 4, 5, 112, 4] := by decide +kernel
theorem dX12_extend_48 : decode cX12_extend 48 = .ok (.iconst (-1), 1) := dk_1002 (dk_g tcX12_extend_4 0 rfl)
theorem dX12_extend_49 : decode cX12_extend 49 = .ok (.ireturn, 1) := dk_1172 (dk_g tcX12_extend_4 1 rfl)
theorem dX12_extend_50 : decode cX12_extend 50 = .ok (.iload_n 2, 1) := dk_1028 (dk_g tcX12_extend_4 2 rfl)
theorem dX12_extend_51 : decode cX12_extend 51 = .ok (.istore_n 3, 1) := dk_1062 (dk_g tcX12_extend_4 3 rfl)
theorem dX12_extend_52 : decode cX12_extend 52 = .ok (.iload_n 1, 1) := dk_1027 (dk_g tcX12_extend_4 4 rfl)
theorem dX12_extend_53 : decode cX12_extend 53 = .ok (.istore 4, 2) := dk_1054 (dk_g tcX12_extend_4 5 rfl) (dk_g tcX12_extend_4 6 rfl) rfl
theorem dX12_extend_55 : decode cX12_extend 55 = .ok (.iload 4, 2) := dk_1021 (dk_g tcX12_extend_4 7 rfl) (dk_g tcX12_extend_4 8 rfl) rfl
theorem dX12_extend_57 : decode cX12_extend 57 = .ok (.iconst 2, 1) := dk_1005 (dk_g tcX12_extend_4 9 rfl)
theorem dX12_extend_58 : decode cX12_extend 58 = .ok (.irem, 1) := dk_1112 (dk_g tcX12_extend_4 10 rfl)
theorem dX12_extend_59 : decode cX12_extend 59 = .ok (.iconst 1, 1) := dk_1004 (dk_g tcX12_extend_4 11 rfl)
theorem tcX12_extend_5 : (cX12_extend.data.toList.drop 60).take 12 = [160, 0, 42, 42, 180, 0, 7, 5, 92, 46, 4, 100] := by decide +kernel
theorem dX12_extend_60 : decode cX12_extend 60 = .ok (.if_icmp .ne 42, 3) := dk_2160 (dk_g tcX12_extend_5 0 rfl) (dk_g tcX12_extend_5 1 rfl) (dk_g tcX12_extend_5 2 rfl) rfl rfl
theorem dX12_extend_63 : decode cX12_extend 63 = .ok (.aload_n 0, 1) := dk_1042 (dk_g tcX12_extend_5 3 rfl)
theorem dX12_extend_64 : decode cX12_extend 64 = .ok (.getfield 7, 3) := dk_1180 (dk_g tcX12_extend_5 4 rfl) (dk_g tcX12_extend_5 5 rfl) (dk_g tcX12_extend_5 6 rfl) rfl
theorem dX12_extend_67 : decode cX12_extend 67 = .ok (.iconst 2, 1) := dk_1005 (dk_g tcX12_extend_5 7 rfl)
theorem dX12_extend_68 : decode cX12_extend 68 = .ok (.dup2, 1) := dk_1092 (dk_g tcX12_extend_5 8 rfl)
theorem dX12_extend_69 : decode cX12_extend 69 = .ok (.iaload, 1) := dk_1046 (dk_g tcX12_extend_5 9 rfl)
theorem dX12_extend_70 : decode cX12_extend 70 = .ok (.iconst 1, 1) := dk_1004 (dk_g tcX12_extend_5 10 rfl)
theorem dX12_extend_71 : decode cX12_extend 71 = .ok (.isub, 1) := dk_1100 (dk_g tcX12_extend_5 11 rfl)
theorem tcX12_extend_6 : (cX12_extend.data.toList.drop 72).take 12 = [79, 42, 42, 180, 0, 7, 16, 8, 42, 180, 0, 7] := by decide +kernel
theorem dX12_extend_72 : decode cX12_extend 72 = .ok (.iastore, 1) := dk_1079 (dk_g tcX12_extend_6 0 rfl)
theorem dX12_extend_73 : decode cX12_extend 73 = .ok (.aload_n 0, 1) := dk_1042 (dk_g tcX12_extend_6 1 rfl)
theorem dX12_extend_74 : decode cX12_extend 74 = .ok (.aload_n 0, 1) := dk_1042 (dk_g tcX12_extend_6 2 rfl)
theorem dX12_extend_75 : decode cX12_extend 75 = .ok (.getfield 7, 3) := dk_1180 (dk_g tcX12_extend_6 3 rfl) (dk_g tcX12_extend_6 4 rfl) (dk_g tcX12_extend_6 5 rfl) rfl
theorem dX12_extend_78 : decode cX12_extend 78 = .ok (.bipush 8, 2) := dk_1016 (dk_g tcX12_extend_6 6 rfl) (dk_g tcX12_extend_6 7 rfl) (by decide +kernel)
theorem dX12_extend_80 : decode cX12_extend 80 = .ok (.aload_n 0, 1) := dk_1042 (dk_g tcX12_extend_6 8 rfl)
theorem dX12_extend_81 : decode cX12_extend 81 = .ok (.getfield 7, 3) := dk_1180 (dk_g tcX12_extend_6 9 rfl) (dk_g tcX12_extend_6 10 rfl) (dk_g tcX12_extend_6 11 rfl) rfl
theorem tcX12_extend_7 : (cX12_extend.data.toList.drop 84).take 12 = [5, 46, 96, 46, 29, 182, 0, 136, 62, 21, 4, 5] := by decide +kernel
theorem dX12_extend_84 : decode cX12_extend 84 = .ok (.iconst 2, 1) := dk_1005 (dk_g tcX12_extend_7 0 rfl)
theorem dX12_extend_85 : decode cX12_extend 85 = .ok (.iaload, 1) := dk_1046 (dk_g tcX12_extend_7 1 rfl)
theorem dX12_extend_86 : decode cX12_extend 86 = .ok (.iadd, 1) := dk_1096 (dk_g tcX12_extend_7 2 rfl)
theorem dX12_extend_87 : decode cX12_extend 87 = .ok (.iaload, 1) := dk_1046 (dk_g tcX12_extend_7 3 rfl)
theorem dX12_extend_88 : decode cX12_extend 88 = .ok (.iload_n 3, 1) := dk_1029 (dk_g tcX12_extend_7 4 rfl)
theorem dX12_extend_89 : decode cX12_extend 89 = .ok (.invokevirtual 136, 3) := dk_1182 (dk_g tcX12_extend_7 5 rfl) (dk_g tcX12_extend_7 6 rfl) (dk_g tcX12_extend_7 7 rfl) rfl
theorem dX12_extend_92 : decode cX12_extend 92 = .ok (.istore_n 3, 1) := dk_1062 (dk_g tcX12_extend_7 8 rfl)
theorem dX12_extend_93 : decode cX12_extend 93 = .ok (.iload 4, 2) := dk_1021 (dk_g tcX12_extend_7 9 rfl) (dk_g tcX12_extend_7 10 rfl) rfl
theorem dX12_extend_95 : decode cX12_extend 95 = .ok (.iconst 2, 1) := dk_1005 (dk_g tcX12_extend_7 11 rfl)
theorem tcX12_extend_8 : (cX12_extend.data.toList.drop 96).take 12 = [108, 54, 4, 167, 255, 212, 42, 180, 0, 7, 16, 8] := by decide +kernel
theorem dX12_extend_96 : decode cX12_extend 96 = .ok (.idiv, 1) := dk_1108 (dk_g tcX12_extend_8 0 rfl)
theorem dX12_extend_97 : decode cX12_extend 97 = .ok (.istore 4, 2) := dk_1054 (dk_g tcX12_extend_8 1 rfl) (dk_g tcX12_extend_8 2 rfl) rfl
theorem dX12_extend_99 : decode cX12_extend 99 = .ok (.goto (-44), 3) := dk_1167 (dk_g tcX12_extend_8 3 rfl) (dk_g tcX12_extend_8 4 rfl) (dk_g tcX12_extend_8 5 rfl) (by decide +kernel)
theorem dX12_extend_102 : decode cX12_extend 102 = .ok (.aload_n 0, 1) := dk_1042 (dk_g tcX12_extend_8 6 rfl)
theorem dX12_extend_103 : decode cX12_extend 103 = .ok (.getfield 7, 3) := dk_1180 (dk_g tcX12_extend_8 7 rfl) (dk_g tcX12_extend_8 8 rfl) (dk_g tcX12_extend_8 9 rfl) rfl
theorem dX12_extend_106 : decode cX12_extend 106 = .ok (.bipush 8, 2) := dk_1016 (dk_g tcX12_extend_8 10 rfl) (dk_g tcX12_extend_8 11 rfl) (by decide +kernel)
theorem tcX12_extend_9 : (cX12_extend.data.toList.drop 108).take 12 = [42, 180, 0, 7, 5, 46, 96, 29, 79, 42, 180, 0] := by decide +kernel
theorem dX12_extend_108 : decode cX12_extend 108 = .ok (.aload_n 0, 1) := dk_1042 (dk_g tcX12_extend_9 0 rfl)
theorem dX12_extend_109 : decode cX12_extend 109 = .ok (.getfield 7, 3) := dk_1180 (dk_g tcX12_extend_9 1 rfl) (dk_g tcX12_extend_9 2 rfl) (dk_g tcX12_extend_9 3 rfl) rfl
theorem dX12_extend_112 : decode cX12_extend 112 = .ok (.iconst 2, 1) := dk_1005 (dk_g tcX12_extend_9 4 rfl)
theorem dX12_extend_113 : decode cX12_extend 113 = .ok (.iaload, 1) := dk_1046 (dk_g tcX12_extend_9 5 rfl)
theorem dX12_extend_114 : decode cX12_extend 114 = .ok (.iadd, 1) := dk_1096 (dk_g tcX12_extend_9 6 rfl)
theorem dX12_extend_115 : decode cX12_extend 115 = .ok (.iload_n 3, 1) := dk_1029 (dk_g tcX12_extend_9 7 rfl)
theorem dX12_extend_116 : decode cX12_extend 116 = .ok (.iastore, 1) := dk_1079 (dk_g tcX12_extend_9 8 rfl)
theorem dX12_extend_117 : decode cX12_extend 117 = .ok (.aload_n 0, 1) := dk_1042 (dk_g tcX12_extend_9 9 rfl)
theorem tcX12_extend_10 : (cX12_extend.data.toList.drop 120).take 12 = [7, 5, 92, 46, 4, 96, 79, 42, 180, 0, 7, 5] := by decide +kernel
theorem dX12_extend_118 : decode cX12_extend 118 = .ok (.getfield 7, 3) := dk_1180 (dk_g tcX12_extend_9 10 rfl) (dk_g tcX12_extend_9 11 rfl) (dk_g tcX12_extend_10 0 rfl) rfl
theorem dX12_extend_121 : decode cX12_extend 121 = .ok (.iconst 2, 1) := dk_1005 (dk_g tcX12_extend_10 1 rfl)
theorem dX12_extend_122 : decode cX12_extend 122 = .ok (.dup2, 1) := dk_1092 (dk_g tcX12_extend_10 2 rfl)
theorem dX12_extend_123 : decode cX12_extend 123 = .ok (.iaload, 1) := dk_1046 (dk_g tcX12_extend_10 3 rfl)
theorem dX12_extend_124 : decode cX12_extend 124 = .ok (.iconst 1, 1) := dk_1004 (dk_g tcX12_extend_10 4 rfl)
theorem dX12_extend_125 : decode cX12_extend 125 = .ok (.iadd, 1) := dk_1096 (dk_g tcX12_extend_10 5 rfl)
theorem dX12_extend_126 : decode cX12_extend 126 = .ok (.iastore, 1) := dk_1079 (dk_g tcX12_extend_10 6 rfl)
theorem dX12_extend_127 : decode cX12_extend 127 = .ok (.aload_n 0, 1) := dk_1042 (dk_g tcX12_extend_10 7 rfl)
theorem dX12_extend_128 : decode cX12_extend 128 = .ok (.getfield 7, 3) := dk_1180 (dk_g tcX12_extend_10 8 rfl) (dk_g tcX12_extend_10 9 rfl) (dk_g tcX12_extend_10 10 rfl) rfl
theorem dX12_extend_131 : decode cX12_extend 131 = .ok (.iconst 2, 1) := dk_1005 (dk_g tcX12_extend_10 11 rfl)
theorem tcX12_extend_11 : (cX12_extend.data.toList.drop 132).take 12 = [46, 172] := by decide +kernel
theorem dX12_extend_132 : decode cX12_extend 132 = .ok (.iaload, 1) := dk_1046 (dk_g tcX12_extend_11 0 rfl)
theorem dX12_extend_133 : decode cX12_extend 133 = .ok (.ireturn, 1) := dk_1172 (dk_g tcX12_extend_11 1 rfl)
theorem tcX12_isThing_0 : (cX12_isThing.data.toList.drop 0).take 12 = [27, 155, 0, 12, 27, 28, 162, 0, 7, 4, 167, 0] := by decide +kernel
theorem dX12_isThing_0 : decode cX12_isThing 0 = .ok (.iload_n 1, 1) := dk_1027 (dk_g tcX12_isThing_0 0 rfl)
theorem dX12_isThing_1 : decode cX12_isThing 1 = .ok (.ifCond .lt 12, 3) := dk_2155 (dk_g tcX12_isThing_0 1 rfl) (dk_g tcX12_isThing_0 2 rfl) (dk_g tcX12_isThing_0 3 rfl) rfl rfl
theorem dX12_isThing_4 : decode cX12_isThing 4 = .ok (.iload_n 1, 1) := dk_1027 (dk_g tcX12_isThing_0 4 rfl)
theorem dX12_isThing_5 : decode cX12_isThing 5 = .ok (.iload_n 2, 1) := dk_1028 (dk_g tcX12_isThing_0 5 rfl)
theorem dX12_isThing_6 : decode cX12_isThing 6 = .ok (.if_icmp .ge 7, 3) := dk_2162 (dk_g tcX12_isThing_0 6 rfl) (dk_g tcX12_isThing_0 7 rfl) (dk_g tcX12_isThing_0 8 rfl) rfl rfl
theorem dX12_isThing_9 : decode cX12_isThing 9 = .ok (.iconst 1, 1) := dk_1004 (dk_g tcX12_isThing_0 9 rfl)
theorem tcX12_isThing_1 : (cX12_isThing.data.toList.drop 12).take 12 = [4, 3, 172] := by decide +kernel
theorem dX12_isThing_10 : decode cX12_isThing 10 = .ok (.goto 4, 3) := dk_2167 (dk_g tcX12_isThing_0 10 rfl) (dk_g tcX12_isThing_0 11 rfl) (dk_g tcX12_isThing_1 0 rfl) rfl rfl
theorem dX12_isThing_13 : decode cX12_isThing 13 = .ok (.iconst 0, 1) := dk_1003 (dk_g tcX12_isThing_1 1 rfl)
theorem dX12_isThing_14 : decode cX12_isThing 14 = .ok (.ireturn, 1) := dk_1172 (dk_g tcX12_isThing_1 2 rfl)
theorem tcX12_checks_0 : (cX12_checks.data.toList.drop 0).take 12 = [42, 42, 28, 29, 182, 1, 125, 153, 0, 24, 42, 27] := by decide +kernel
theorem dX12_checks_0 : decode cX12_checks 0 = .ok (.aload_n 0, 1) := dk_1042 (dk_g tcX12_checks_0 0 rfl)
theorem dX12_checks_1 : decode cX12_checks 1 = .ok (.aload_n 0, 1) := dk_1042 (dk_g tcX12_checks_0 1 rfl)
theorem dX12_checks_2 : decode cX12_checks 2 = .ok (.iload_n 2, 1) := dk_1028 (dk_g tcX12_checks_0 2 rfl)
theorem dX12_checks_3 : decode cX12_checks 3 = .ok (.iload_n 3, 1) := dk_1029 (dk_g tcX12_checks_0 3 rfl)
theorem dX12_checks_4 : decode cX12_checks 4 = .ok (.invokevirtual 381, 3) := dk_1182 (dk_g tcX12_checks_0 4 rfl) (dk_g tcX12_checks_0 5 rfl) (dk_g tcX12_checks_0 6 rfl) rfl
theorem dX12_checks_7 : decode cX12_checks 7 = .ok (.ifCond .eq 24, 3) := dk_2153 (dk_g tcX12_checks_0 7 rfl) (dk_g tcX12_checks_0 8 rfl) (dk_g tcX12_checks_0 9 rfl) rfl rfl
theorem dX12_checks_10 : decode cX12_checks 10 = .ok (.aload_n 0, 1) := dk_1042 (dk_g tcX12_checks_0 10 rfl)
theorem dX12_checks_11 : decode cX12_checks 11 = .ok (.iload_n 1, 1) := dk_1027 (dk_g tcX12_checks_0 11 rfl)
theorem tcX12_checks_1 : (cX12_checks.data.toList.drop 12).take 12 = [182, 1, 65, 153, 0, 16, 42, 21, 4, 182, 1, 65] := by decide +kernel
theorem dX12_checks_12 : decode cX12_checks 12 = .ok (.invokevirtual 321, 3) := dk_1182 (dk_g tcX12_checks_1 0 rfl) (dk_g tcX12_checks_1 1 rfl) (dk_g tcX12_checks_1 2 rfl) rfl
theorem dX12_checks_15 : decode cX12_checks 15 = .ok (.ifCond .eq 16, 3) := dk_2153 (dk_g tcX12_checks_1 3 rfl) (dk_g tcX12_checks_1 4 rfl) (dk_g tcX12_checks_1 5 rfl) rfl rfl
theorem dX12_checks_18 : decode cX12_checks 18 = .ok (.aload_n 0, 1) := dk_1042 (dk_g tcX12_checks_1 6 rfl)
theorem dX12_checks_19 : decode cX12_checks 19 = .ok (.iload 4, 2) := dk_1021 (dk_g tcX12_checks_1 7 rfl) (dk_g tcX12_checks_1 8 rfl) rfl
theorem dX12_checks_21 : decode cX12_checks 21 = .ok (.invokevirtual 321, 3) := dk_1182 (dk_g tcX12_checks_1 9 rfl) (dk_g tcX12_checks_1 10 rfl) (dk_g tcX12_checks_1 11 rfl) rfl
theorem tcX12_checks_2 : (cX12_checks.data.toList.drop 24).take 12 = [153, 0, 7, 3, 167, 0, 4, 4, 182, 1, 53, 154] := by decide +kernel
theorem dX12_checks_24 : decode cX12_checks 24 = .ok (.ifCond .eq 7, 3) := dk_2153 (dk_g tcX12_checks_2 0 rfl) (dk_g tcX12_checks_2 1 rfl) (dk_g tcX12_checks_2 2 rfl) rfl rfl
theorem dX12_checks_27 : decode cX12_checks 27 = .ok (.iconst 0, 1) := dk_1003 (dk_g tcX12_checks_2 3 rfl)
theorem dX12_checks_28 : decode cX12_checks 28 = .ok (.goto 4, 3) := dk_2167 (dk_g tcX12_checks_2 4 rfl) (dk_g tcX12_checks_2 5 rfl) (dk_g tcX12_checks_2 6 rfl) rfl rfl
theorem dX12_checks_31 : decode cX12_checks 31 = .ok (.iconst 1, 1) := dk_1004 (dk_g tcX12_checks_2 7 rfl)
theorem dX12_checks_32 : decode cX12_checks 32 = .ok (.invokevirtual 309, 3) := dk_1182 (dk_g tcX12_checks_2 8 rfl) (dk_g tcX12_checks_2 9 rfl) (dk_g tcX12_checks_2 10 rfl) rfl
theorem tcX12_checks_3 : (cX12_checks.data.toList.drop 36).take 12 = [0, 5, 2, 172, 42, 42, 182, 1, 128, 27, 28, 29] := by decide +kernel
theorem dX12_checks_35 : decode cX12_checks 35 = .ok (.ifCond .ne 5, 3) := dk_2154 (dk_g tcX12_checks_2 11 rfl) (dk_g tcX12_checks_3 0 rfl) (dk_g tcX12_checks_3 1 rfl) rfl rfl
theorem dX12_checks_38 : decode cX12_checks 38 = .ok (.iconst (-1), 1) := dk_1002 (dk_g tcX12_checks_3 2 rfl)
theorem dX12_checks_39 : decode cX12_checks 39 = .ok (.ireturn, 1) := dk_1172 (dk_g tcX12_checks_3 3 rfl)
theorem dX12_checks_40 : decode cX12_checks 40 = .ok (.aload_n 0, 1) := dk_1042 (dk_g tcX12_checks_3 4 rfl)
theorem dX12_checks_41 : decode cX12_checks 41 = .ok (.aload_n 0, 1) := dk_1042 (dk_g tcX12_checks_3 5 rfl)
theorem dX12_checks_42 : decode cX12_checks 42 = .ok (.invokevirtual 384, 3) := dk_1182 (dk_g tcX12_checks_3 6 rfl) (dk_g tcX12_checks_3 7 rfl) (dk_g tcX12_checks_3 8 rfl) rfl
theorem dX12_checks_45 : decode cX12_checks 45 = .ok (.iload_n 1, 1) := dk_1027 (dk_g tcX12_checks_3 9 rfl)
theorem dX12_checks_46 : decode cX12_checks 46 = .ok (.iload_n 2, 1) := dk_1028 (dk_g tcX12_checks_3 10 rfl)
theorem dX12_checks_47 : decode cX12_checks 47 = .ok (.iload_n 3, 1) := dk_1029 (dk_g tcX12_checks_3 11 rfl)
theorem tcX12_checks_4 : (cX12_checks.data.toList.drop 48).take 12 = [21, 4, 182, 1, 76, 172] := by decide +kernel
theorem dX12_checks_48 : decode cX12_checks 48 = .ok (.iload 4, 2) := dk_1021 (dk_g tcX12_checks_4 0 rfl) (dk_g tcX12_checks_4 1 rfl) rfl
theorem dX12_checks_50 : decode cX12_checks 50 = .ok (.invokevirtual 332, 3) := dk_1182 (dk_g tcX12_checks_4 2 rfl) (dk_g tcX12_checks_4 3 rfl) (dk_g tcX12_checks_4 4 rfl) rfl
theorem dX12_checks_53 : decode cX12_checks 53 = .ok (.ireturn, 1) := dk_1172 (dk_g tcX12_checks_4 5 rfl)
theorem tcX12_growth__0 : (cX12_growth_.data.toList.drop 0).take 12 = [42, 27, 155, 0, 29, 27, 29, 163, 0, 24, 42, 28] := by decide +kernel
theorem dX12_growth__0 : decode cX12_growth_ 0 = .ok (.aload_n 0, 1) := dk_1042 (dk_g tcX12_growth__0 0 rfl)
theorem dX12_growth__1 : decode cX12_growth_ 1 = .ok (.iload_n 1, 1) := dk_1027 (dk_g tcX12_growth__0 1 rfl)
theorem dX12_growth__2 : decode cX12_growth_ 2 = .ok (.ifCond .lt 29, 3) := dk_2155 (dk_g tcX12_growth__0 2 rfl) (dk_g tcX12_growth__0 3 rfl) (dk_g tcX12_growth__0 4 rfl) rfl rfl
theorem dX12_growth__5 : decode cX12_growth_ 5 = .ok (.iload_n 1, 1) := dk_1027 (dk_g tcX12_growth__0 5 rfl)
theorem dX12_growth__6 : decode cX12_growth_ 6 = .ok (.iload_n 3, 1) := dk_1029 (dk_g tcX12_growth__0 6 rfl)
theorem dX12_growth__7 : decode cX12_growth_ 7 = .ok (.if_icmp .gt 24, 3) := dk_2163 (dk_g tcX12_growth__0 7 rfl) (dk_g tcX12_growth__0 8 rfl) (dk_g tcX12_growth__0 9 rfl) rfl rfl
theorem dX12_growth__10 : decode cX12_growth_ 10 = .ok (.aload_n 0, 1) := dk_1042 (dk_g tcX12_growth__0 10 rfl)
theorem dX12_growth__11 : decode cX12_growth_ 11 = .ok (.iload_n 2, 1) := dk_1028 (dk_g tcX12_growth__0 11 rfl)
theorem tcX12_growth__1 : (cX12_growth_.data.toList.drop 12).take 12 = [182, 1, 65, 153, 0, 16, 42, 21, 4, 182, 1, 65] := by decide +kernel
theorem dX12_growth__12 : decode cX12_growth_ 12 = .ok (.invokevirtual 321, 3) := dk_1182 (dk_g tcX12_growth__1 0 rfl) (dk_g tcX12_growth__1 1 rfl) (dk_g tcX12_growth__1 2 rfl) rfl
theorem dX12_growth__15 : decode cX12_growth_ 15 = .ok (.ifCond .eq 16, 3) := dk_2153 (dk_g tcX12_growth__1 3 rfl) (dk_g tcX12_growth__1 4 rfl) (dk_g tcX12_growth__1 5 rfl) rfl rfl
theorem dX12_growth__18 : decode cX12_growth_ 18 = .ok (.aload_n 0, 1) := dk_1042 (dk_g tcX12_growth__1 6 rfl)
theorem dX12_growth__19 : decode cX12_growth_ 19 = .ok (.iload 4, 2) := dk_1021 (dk_g tcX12_growth__1 7 rfl) (dk_g tcX12_growth__1 8 rfl) rfl
theorem dX12_growth__21 : decode cX12_growth_ 21 = .ok (.invokevirtual 321, 3) := dk_1182 (dk_g tcX12_growth__1 9 rfl) (dk_g tcX12_growth__1 10 rfl) (dk_g tcX12_growth__1 11 rfl) rfl
theorem tcX12_growth__2 : (cX12_growth_.data.toList.drop 24).take 12 = [153, 0, 7, 3, 167, 0, 4, 4, 182, 1, 53, 154] := by decide +kernel
theorem dX12_growth__24 : decode cX12_growth_ 24 = .ok (.ifCond .eq 7, 3) := dk_2153 (dk_g tcX12_growth__2 0 rfl) (dk_g tcX12_growth__2 1 rfl) (dk_g tcX12_growth__2 2 rfl) rfl rfl
theorem dX12_growth__27 : decode cX12_growth_ 27 = .ok (.iconst 0, 1) := dk_1003 (dk_g tcX12_growth__2 3 rfl)
theorem dX12_growth__28 : decode cX12_growth_ 28 = .ok (.goto 4, 3) := dk_2167 (dk_g tcX12_growth__2 4 rfl) (dk_g tcX12_growth__2 5 rfl) (dk_g tcX12_growth__2 6 rfl) rfl rfl
theorem dX12_growth__31 : decode cX12_growth_ 31 = .ok (.iconst 1, 1) := dk_1004 (dk_g tcX12_growth__2 7 rfl)
theorem dX12_growth__32 : decode cX12_growth_ 32 = .ok (.invokevirtual 309, 3) := dk_1182 (dk_g tcX12_growth__2 8 rfl) (dk_g tcX12_growth__2 9 rfl) (dk_g tcX12_growth__2 10 rfl) rfl
theorem tcX12_growth__3 : (cX12_growth_.data.toList.drop 36).take 12 = [0, 5, 2, 172, 42, 42, 182, 1, 128, 27, 28, 29] := by decide +kernel
theorem dX12_growth__35 : decode cX12_growth_ 35 = .ok (.ifCond .ne 5, 3) := dk_2154 (dk_g tcX12_growth__2 11 rfl) (dk_g tcX12_growth__3 0 rfl) (dk_g tcX12_growth__3 1 rfl) rfl rfl
theorem dX12_growth__38 : decode cX12_growth_ 38 = .ok (.iconst (-1), 1) := dk_1002 (dk_g tcX12_growth__3 2 rfl)
theorem dX12_growth__39 : decode cX12_growth_ 39 = .ok (.ireturn, 1) := dk_1172 (dk_g tcX12_growth__3 3 rfl)
theorem dX12_growth__40 : decode cX12_growth_ 40 = .ok (.aload_n 0, 1) := dk_1042 (dk_g tcX12_growth__3 4 rfl)
theorem dX12_growth__41 : decode cX12_growth_ 41 = .ok (.aload_n 0, 1) := dk_1042 (dk_g tcX12_growth__3 5 rfl)
theorem dX12_growth__42 : decode cX12_growth_ 42 = .ok (.invokevirtual 384, 3) := dk_1182 (dk_g tcX12_growth__3 6 rfl) (dk_g tcX12_growth__3 7 rfl) (dk_g tcX12_growth__3 8 rfl) rfl
theorem dX12_growth__45 : decode cX12_growth_ 45 = .ok (.iload_n 1, 1) := dk_1027 (dk_g tcX12_growth__3 9 rfl)
theorem dX12_growth__46 : decode cX12_growth_ 46 = .ok (.iload_n 2, 1) := dk_1028 (dk_g tcX12_growth__3 10 rfl)
theorem dX12_growth__47 : decode cX12_growth_ 47 = .ok (.iload_n 3, 1) := dk_1029 (dk_g tcX12_growth__3 11 rfl)
theorem tcX12_growth__4 : (cX12_growth_.data.toList.drop 48).take 12 = [21, 4, 182, 0, 199, 172] := by decide +kernel
theorem dX12_growth__48 : decode cX12_growth_ 48 = .ok (.iload 4, 2) := dk_1021 (dk_g tcX12_growth__4 0 rfl) (dk_g tcX12_growth__4 1 rfl) rfl
theorem dX12_growth__50 : decode cX12_growth_ 50 = .ok (.invokevirtual 199, 3) := dk_1182 (dk_g tcX12_growth__4 2 rfl) (dk_g tcX12_growth__4 3 rfl) (dk_g tcX12_growth__4 4 rfl) rfl
theorem dX12_growth__53 : decode cX12_growth_ 53 = .ok (.ireturn, 1) := dk_1172 (dk_g tcX12_growth__4 5 rfl)
theorem tcX12_bundled_0 : (cX12_bundled.data.toList.drop 0).take 12 = [42, 28, 155, 0, 23, 27, 158, 0, 19, 27, 28, 184] := by decide +kernel
theorem dX12_bundled_0 : decode cX12_bundled 0 = .ok (.aload_n 0, 1) := dk_1042 (dk_g tcX12_bundled_0 0 rfl)
theorem dX12_bundled_1 : decode cX12_bundled 1 = .ok (.iload_n 2, 1) := dk_1028 (dk_g tcX12_bundled_0 1 rfl)
theorem dX12_bundled_2 : decode cX12_bundled 2 = .ok (.ifCond .lt 23, 3) := dk_2155 (dk_g tcX12_bundled_0 2 rfl) (dk_g tcX12_bundled_0 3 rfl) (dk_g tcX12_bundled_0 4 rfl) rfl rfl
theorem dX12_bundled_5 : decode cX12_bundled 5 = .ok (.iload_n 1, 1) := dk_1027 (dk_g tcX12_bundled_0 5 rfl)
theorem dX12_bundled_6 : decode cX12_bundled 6 = .ok (.ifCond .le 19, 3) := dk_2158 (dk_g tcX12_bundled_0 6 rfl) (dk_g tcX12_bundled_0 7 rfl) (dk_g tcX12_bundled_0 8 rfl) rfl rfl
theorem dX12_bundled_9 : decode cX12_bundled 9 = .ok (.iload_n 1, 1) := dk_1027 (dk_g tcX12_bundled_0 9 rfl)
theorem dX12_bundled_10 : decode cX12_bundled 10 = .ok (.iload_n 2, 1) := dk_1028 (dk_g tcX12_bundled_0 10 rfl)
theorem tcX12_bundled_1 : (cX12_bundled.data.toList.drop 12).take 12 = [1, 112, 154, 0, 11, 42, 29, 182, 1, 65, 154, 0] := by decide +kernel
theorem dX12_bundled_11 : decode cX12_bundled 11 = .ok (.invokestatic 368, 3) := dk_1184 (dk_g tcX12_bundled_0 11 rfl) (dk_g tcX12_bundled_1 0 rfl) (dk_g tcX12_bundled_1 1 rfl) rfl
theorem dX12_bundled_14 : decode cX12_bundled 14 = .ok (.ifCond .ne 11, 3) := dk_2154 (dk_g tcX12_bundled_1 2 rfl) (dk_g tcX12_bundled_1 3 rfl) (dk_g tcX12_bundled_1 4 rfl) rfl rfl
theorem dX12_bundled_17 : decode cX12_bundled 17 = .ok (.aload_n 0, 1) := dk_1042 (dk_g tcX12_bundled_1 5 rfl)
theorem dX12_bundled_18 : decode cX12_bundled 18 = .ok (.iload_n 3, 1) := dk_1029 (dk_g tcX12_bundled_1 6 rfl)
theorem dX12_bundled_19 : decode cX12_bundled 19 = .ok (.invokevirtual 321, 3) := dk_1182 (dk_g tcX12_bundled_1 7 rfl) (dk_g tcX12_bundled_1 8 rfl) (dk_g tcX12_bundled_1 9 rfl) rfl
theorem tcX12_bundled_2 : (cX12_bundled.data.toList.drop 24).take 12 = [7, 4, 167, 0, 4, 3, 182, 1, 53, 154, 0, 5] := by decide +kernel
theorem dX12_bundled_22 : decode cX12_bundled 22 = .ok (.ifCond .ne 7, 3) := dk_2154 (dk_g tcX12_bundled_1 10 rfl) (dk_g tcX12_bundled_1 11 rfl) (dk_g tcX12_bundled_2 0 rfl) rfl rfl
theorem dX12_bundled_25 : decode cX12_bundled 25 = .ok (.iconst 1, 1) := dk_1004 (dk_g tcX12_bundled_2 1 rfl)
theorem dX12_bundled_26 : decode cX12_bundled 26 = .ok (.goto 4, 3) := dk_2167 (dk_g tcX12_bundled_2 2 rfl) (dk_g tcX12_bundled_2 3 rfl) (dk_g tcX12_bundled_2 4 rfl) rfl rfl
theorem dX12_bundled_29 : decode cX12_bundled 29 = .ok (.iconst 0, 1) := dk_1003 (dk_g tcX12_bundled_2 5 rfl)
theorem dX12_bundled_30 : decode cX12_bundled 30 = .ok (.invokevirtual 309, 3) := dk_1182 (dk_g tcX12_bundled_2 6 rfl) (dk_g tcX12_bundled_2 7 rfl) (dk_g tcX12_bundled_2 8 rfl) rfl
theorem dX12_bundled_33 : decode cX12_bundled 33 = .ok (.ifCond .ne 5, 3) := dk_2154 (dk_g tcX12_bundled_2 9 rfl) (dk_g tcX12_bundled_2 10 rfl) (dk_g tcX12_bundled_2 11 rfl) rfl rfl
theorem tcX12_bundled_3 : (cX12_bundled.data.toList.drop 36).take 12 = [2, 172, 42, 27, 28, 182, 1, 116, 27, 184, 1, 120] := by decide +kernel
theorem dX12_bundled_36 : decode cX12_bundled 36 = .ok (.iconst (-1), 1) := dk_1002 (dk_g tcX12_bundled_3 0 rfl)
theorem dX12_bundled_37 : decode cX12_bundled 37 = .ok (.ireturn, 1) := dk_1172 (dk_g tcX12_bundled_3 1 rfl)
theorem dX12_bundled_38 : decode cX12_bundled 38 = .ok (.aload_n 0, 1) := dk_1042 (dk_g tcX12_bundled_3 2 rfl)
theorem dX12_bundled_39 : decode cX12_bundled 39 = .ok (.iload_n 1, 1) := dk_1027 (dk_g tcX12_bundled_3 3 rfl)
theorem dX12_bundled_40 : decode cX12_bundled 40 = .ok (.iload_n 2, 1) := dk_1028 (dk_g tcX12_bundled_3 4 rfl)
theorem dX12_bundled_41 : decode cX12_bundled 41 = .ok (.invokevirtual 372, 3) := dk_1182 (dk_g tcX12_bundled_3 5 rfl) (dk_g tcX12_bundled_3 6 rfl) (dk_g tcX12_bundled_3 7 rfl) rfl
theorem dX12_bundled_44 : decode cX12_bundled 44 = .ok (.iload_n 1, 1) := dk_1027 (dk_g tcX12_bundled_3 8 rfl)
theorem dX12_bundled_45 : decode cX12_bundled 45 = .ok (.invokestatic 376, 3) := dk_1184 (dk_g tcX12_bundled_3 9 rfl) (dk_g tcX12_bundled_3 10 rfl) (dk_g tcX12_bundled_3 11 rfl) rfl
theorem tcX12_bundled_4 : (cX12_bundled.data.toList.drop 48).take 12 = [54, 4, 21, 4, 42, 180, 0, 139, 96, 54, 5, 42] := by decide +kernel
theorem dX12_bundled_48 : decode cX12_bundled 48 = .ok (.istore 4, 2) := dk_1054 (dk_g tcX12_bundled_4 0 rfl) (dk_g tcX12_bundled_4 1 rfl) rfl
theorem dX12_bundled_50 : decode cX12_bundled 50 = .ok (.iload 4, 2) := dk_1021 (dk_g tcX12_bundled_4 2 rfl) (dk_g tcX12_bundled_4 3 rfl) rfl
theorem dX12_bundled_52 : decode cX12_bundled 52 = .ok (.aload_n 0, 1) := dk_1042 (dk_g tcX12_bundled_4 4 rfl)
theorem dX12_bundled_53 : decode cX12_bundled 53 = .ok (.getfield 139, 3) := dk_1180 (dk_g tcX12_bundled_4 5 rfl) (dk_g tcX12_bundled_4 6 rfl) (dk_g tcX12_bundled_4 7 rfl) rfl
theorem dX12_bundled_56 : decode cX12_bundled 56 = .ok (.iadd, 1) := dk_1096 (dk_g tcX12_bundled_4 8 rfl)
theorem dX12_bundled_57 : decode cX12_bundled 57 = .ok (.istore 5, 2) := dk_1054 (dk_g tcX12_bundled_4 9 rfl) (dk_g tcX12_bundled_4 10 rfl) rfl
theorem dX12_bundled_59 : decode cX12_bundled 59 = .ok (.aload_n 0, 1) := dk_1042 (dk_g tcX12_bundled_4 11 rfl)
theorem tcX12_bundled_5 : (cX12_bundled.data.toList.drop 60).take 12 = [182, 1, 128, 54, 6, 42, 21, 4, 181, 0, 168, 42] := by decide +kernel
theorem dX12_bundled_60 : decode cX12_bundled 60 = .ok (.invokevirtual 384, 3) := dk_1182 (dk_g tcX12_bundled_5 0 rfl) (dk_g tcX12_bundled_5 1 rfl) (dk_g tcX12_bundled_5 2 rfl) rfl
theorem dX12_bundled_63 : decode cX12_bundled 63 = .ok (.istore 6, 2) := dk_1054 (dk_g tcX12_bundled_5 3 rfl) (dk_g tcX12_bundled_5 4 rfl) rfl
theorem dX12_bundled_65 : decode cX12_bundled 65 = .ok (.aload_n 0, 1) := dk_1042 (dk_g tcX12_bundled_5 5 rfl)
theorem dX12_bundled_66 : decode cX12_bundled 66 = .ok (.iload 4, 2) := dk_1021 (dk_g tcX12_bundled_5 6 rfl) (dk_g tcX12_bundled_5 7 rfl) rfl
theorem dX12_bundled_68 : decode cX12_bundled 68 = .ok (.putfield 168, 3) := dk_1181 (dk_g tcX12_bundled_5 8 rfl) (dk_g tcX12_bundled_5 9 rfl) (dk_g tcX12_bundled_5 10 rfl) rfl
theorem dX12_bundled_71 : decode cX12_bundled 71 = .ok (.aload_n 0, 1) := dk_1042 (dk_g tcX12_bundled_5 11 rfl)
theorem tcX12_bundled_6 : (cX12_bundled.data.toList.drop 72).take 12 = [3, 181, 0, 193, 42, 21, 6, 21, 5, 21, 6, 21] := by decide +kernel
theorem dX12_bundled_72 : decode cX12_bundled 72 = .ok (.iconst 0, 1) := dk_1003 (dk_g tcX12_bundled_6 0 rfl)
theorem dX12_bundled_73 : decode cX12_bundled 73 = .ok (.putfield 193, 3) := dk_1181 (dk_g tcX12_bundled_6 1 rfl) (dk_g tcX12_bundled_6 2 rfl) (dk_g tcX12_bundled_6 3 rfl) rfl
theorem dX12_bundled_76 : decode cX12_bundled 76 = .ok (.aload_n 0, 1) := dk_1042 (dk_g tcX12_bundled_6 4 rfl)
theorem dX12_bundled_77 : decode cX12_bundled 77 = .ok (.iload 6, 2) := dk_1021 (dk_g tcX12_bundled_6 5 rfl) (dk_g tcX12_bundled_6 6 rfl) rfl
theorem dX12_bundled_79 : decode cX12_bundled 79 = .ok (.iload 5, 2) := dk_1021 (dk_g tcX12_bundled_6 7 rfl) (dk_g tcX12_bundled_6 8 rfl) rfl
theorem dX12_bundled_81 : decode cX12_bundled 81 = .ok (.iload 6, 2) := dk_1021 (dk_g tcX12_bundled_6 9 rfl) (dk_g tcX12_bundled_6 10 rfl) rfl
theorem tcX12_bundled_7 : (cX12_bundled.data.toList.drop 84).take 12 = [5, 160, 0, 14, 42, 27, 3, 28, 182, 0, 196, 29] := by decide +kernel
theorem dX12_bundled_83 : decode cX12_bundled 83 = .ok (.iload 5, 2) := dk_1021 (dk_g tcX12_bundled_6 11 rfl) (dk_g tcX12_bundled_7 0 rfl) rfl
theorem dX12_bundled_85 : decode cX12_bundled 85 = .ok (.if_icmp .ne 14, 3) := dk_2160 (dk_g tcX12_bundled_7 1 rfl) (dk_g tcX12_bundled_7 2 rfl) (dk_g tcX12_bundled_7 3 rfl) rfl rfl
theorem dX12_bundled_88 : decode cX12_bundled 88 = .ok (.aload_n 0, 1) := dk_1042 (dk_g tcX12_bundled_7 4 rfl)
theorem dX12_bundled_89 : decode cX12_bundled 89 = .ok (.iload_n 1, 1) := dk_1027 (dk_g tcX12_bundled_7 5 rfl)
theorem dX12_bundled_90 : decode cX12_bundled 90 = .ok (.iconst 0, 1) := dk_1003 (dk_g tcX12_bundled_7 6 rfl)
theorem dX12_bundled_91 : decode cX12_bundled 91 = .ok (.iload_n 2, 1) := dk_1028 (dk_g tcX12_bundled_7 7 rfl)
theorem dX12_bundled_92 : decode cX12_bundled 92 = .ok (.invokevirtual 196, 3) := dk_1182 (dk_g tcX12_bundled_7 8 rfl) (dk_g tcX12_bundled_7 9 rfl) (dk_g tcX12_bundled_7 10 rfl) rfl
theorem dX12_bundled_95 : decode cX12_bundled 95 = .ok (.iload_n 3, 1) := dk_1029 (dk_g tcX12_bundled_7 11 rfl)
theorem tcX12_bundled_8 : (cX12_bundled.data.toList.drop 96).take 12 = [160, 0, 7, 4, 167, 0, 4, 3, 182, 0, 177, 172] := by decide +kernel
theorem dX12_bundled_96 : decode cX12_bundled 96 = .ok (.if_icmp .ne 7, 3) := dk_2160 (dk_g tcX12_bundled_8 0 rfl) (dk_g tcX12_bundled_8 1 rfl) (dk_g tcX12_bundled_8 2 rfl) rfl rfl
theorem dX12_bundled_99 : decode cX12_bundled 99 = .ok (.iconst 1, 1) := dk_1004 (dk_g tcX12_bundled_8 3 rfl)
theorem dX12_bundled_100 : decode cX12_bundled 100 = .ok (.goto 4, 3) := dk_2167 (dk_g tcX12_bundled_8 4 rfl) (dk_g tcX12_bundled_8 5 rfl) (dk_g tcX12_bundled_8 6 rfl) rfl rfl
theorem dX12_bundled_103 : decode cX12_bundled 103 = .ok (.iconst 0, 1) := dk_1003 (dk_g tcX12_bundled_8 7 rfl)
theorem dX12_bundled_104 : decode cX12_bundled 104 = .ok (.invokevirtual 177, 3) := dk_1182 (dk_g tcX12_bundled_8 8 rfl) (dk_g tcX12_bundled_8 9 rfl) (dk_g tcX12_bundled_8 10 rfl) rfl
theorem dX12_bundled_107 : decode cX12_bundled 107 = .ok (.ireturn, 1) := dk_1172 (dk_g tcX12_bundled_8 11 rfl)
theorem tcX12_fold_0 : (cX12_fold.data.toList.drop 0).take 12 = [42, 3, 182, 1, 53, 87, 42, 180, 0, 7, 5, 46] := by decide +kernel
theorem dX12_fold_0 : decode cX12_fold 0 = .ok (.aload_n 0, 1) := dk_1042 (dk_g tcX12_fold_0 0 rfl)
theorem dX12_fold_1 : decode cX12_fold 1 = .ok (.iconst 0, 1) := dk_1003 (dk_g tcX12_fold_0 1 rfl)
theorem dX12_fold_2 : decode cX12_fold 2 = .ok (.invokevirtual 309, 3) := dk_1182 (dk_g tcX12_fold_0 2 rfl) (dk_g tcX12_fold_0 3 rfl) (dk_g tcX12_fold_0 4 rfl) rfl
theorem dX12_fold_5 : decode cX12_fold 5 = .ok (.pop, 1) := dk_1087 (dk_g tcX12_fold_0 5 rfl)
theorem dX12_fold_6 : decode cX12_fold 6 = .ok (.aload_n 0, 1) := dk_1042 (dk_g tcX12_fold_0 6 rfl)
theorem dX12_fold_7 : decode cX12_fold 7 = .ok (.getfield 7, 3) := dk_1180 (dk_g tcX12_fold_0 7 rfl) (dk_g tcX12_fold_0 8 rfl) (dk_g tcX12_fold_0 9 rfl) rfl
theorem dX12_fold_10 : decode cX12_fold 10 = .ok (.iconst 2, 1) := dk_1005 (dk_g tcX12_fold_0 10 rfl)
theorem dX12_fold_11 : decode cX12_fold 11 = .ok (.iaload, 1) := dk_1046 (dk_g tcX12_fold_0 11 rfl)
theorem tcX12_fold_1 : (cX12_fold.data.toList.drop 12).take 12 = [154, 0, 5, 3, 172, 42, 180, 0, 7, 16, 8, 42] := by decide +kernel
theorem dX12_fold_12 : decode cX12_fold 12 = .ok (.ifCond .ne 5, 3) := dk_2154 (dk_g tcX12_fold_1 0 rfl) (dk_g tcX12_fold_1 1 rfl) (dk_g tcX12_fold_1 2 rfl) rfl rfl
theorem dX12_fold_15 : decode cX12_fold 15 = .ok (.iconst 0, 1) := dk_1003 (dk_g tcX12_fold_1 3 rfl)
theorem dX12_fold_16 : decode cX12_fold 16 = .ok (.ireturn, 1) := dk_1172 (dk_g tcX12_fold_1 4 rfl)
theorem dX12_fold_17 : decode cX12_fold 17 = .ok (.aload_n 0, 1) := dk_1042 (dk_g tcX12_fold_1 5 rfl)
theorem dX12_fold_18 : decode cX12_fold 18 = .ok (.getfield 7, 3) := dk_1180 (dk_g tcX12_fold_1 6 rfl) (dk_g tcX12_fold_1 7 rfl) (dk_g tcX12_fold_1 8 rfl) rfl
theorem dX12_fold_21 : decode cX12_fold 21 = .ok (.bipush 8, 2) := dk_1016 (dk_g tcX12_fold_1 9 rfl) (dk_g tcX12_fold_1 10 rfl) (by decide +kernel)
theorem dX12_fold_23 : decode cX12_fold 23 = .ok (.aload_n 0, 1) := dk_1042 (dk_g tcX12_fold_1 11 rfl)
theorem tcX12_fold_2 : (cX12_fold.data.toList.drop 24).take 12 = [180, 0, 7, 5, 46, 96, 4, 100, 46, 60, 42, 180] := by decide +kernel
theorem dX12_fold_24 : decode cX12_fold 24 = .ok (.getfield 7, 3) := dk_1180 (dk_g tcX12_fold_2 0 rfl) (dk_g tcX12_fold_2 1 rfl) (dk_g tcX12_fold_2 2 rfl) rfl
theorem dX12_fold_27 : decode cX12_fold 27 = .ok (.iconst 2, 1) := dk_1005 (dk_g tcX12_fold_2 3 rfl)
theorem dX12_fold_28 : decode cX12_fold 28 = .ok (.iaload, 1) := dk_1046 (dk_g tcX12_fold_2 4 rfl)
theorem dX12_fold_29 : decode cX12_fold 29 = .ok (.iadd, 1) := dk_1096 (dk_g tcX12_fold_2 5 rfl)
theorem dX12_fold_30 : decode cX12_fold 30 = .ok (.iconst 1, 1) := dk_1004 (dk_g tcX12_fold_2 6 rfl)
theorem dX12_fold_31 : decode cX12_fold 31 = .ok (.isub, 1) := dk_1100 (dk_g tcX12_fold_2 7 rfl)
theorem dX12_fold_32 : decode cX12_fold 32 = .ok (.iaload, 1) := dk_1046 (dk_g tcX12_fold_2 8 rfl)
theorem dX12_fold_33 : decode cX12_fold 33 = .ok (.istore_n 1, 1) := dk_1060 (dk_g tcX12_fold_2 9 rfl)
theorem dX12_fold_34 : decode cX12_fold 34 = .ok (.aload_n 0, 1) := dk_1042 (dk_g tcX12_fold_2 10 rfl)
theorem tcX12_fold_3 : (cX12_fold.data.toList.drop 36).take 12 = [0, 7, 5, 46, 5, 100, 61, 28, 155, 0, 24, 42] := by decide +kernel
theorem dX12_fold_35 : decode cX12_fold 35 = .ok (.getfield 7, 3) := dk_1180 (dk_g tcX12_fold_2 11 rfl) (dk_g tcX12_fold_3 0 rfl) (dk_g tcX12_fold_3 1 rfl) rfl
theorem dX12_fold_38 : decode cX12_fold 38 = .ok (.iconst 2, 1) := dk_1005 (dk_g tcX12_fold_3 2 rfl)
theorem dX12_fold_39 : decode cX12_fold 39 = .ok (.iaload, 1) := dk_1046 (dk_g tcX12_fold_3 3 rfl)
theorem dX12_fold_40 : decode cX12_fold 40 = .ok (.iconst 2, 1) := dk_1005 (dk_g tcX12_fold_3 4 rfl)
theorem dX12_fold_41 : decode cX12_fold 41 = .ok (.isub, 1) := dk_1100 (dk_g tcX12_fold_3 5 rfl)
theorem dX12_fold_42 : decode cX12_fold 42 = .ok (.istore_n 2, 1) := dk_1061 (dk_g tcX12_fold_3 6 rfl)
theorem dX12_fold_43 : decode cX12_fold 43 = .ok (.iload_n 2, 1) := dk_1028 (dk_g tcX12_fold_3 7 rfl)
theorem dX12_fold_44 : decode cX12_fold 44 = .ok (.ifCond .lt 24, 3) := dk_2155 (dk_g tcX12_fold_3 8 rfl) (dk_g tcX12_fold_3 9 rfl) (dk_g tcX12_fold_3 10 rfl) rfl rfl
theorem dX12_fold_47 : decode cX12_fold 47 = .ok (.aload_n 0, 1) := dk_1042 (dk_g tcX12_fold_3 11 rfl)
theorem tcX12_fold_4 : (cX12_fold.data.toList.drop 48).take 12 = [42, 180, 0, 7, 16, 8, 28, 96, 46, 27, 182, 0] := by decide +kernel
theorem dX12_fold_48 : decode cX12_fold 48 = .ok (.aload_n 0, 1) := dk_1042 (dk_g tcX12_fold_4 0 rfl)
theorem dX12_fold_49 : decode cX12_fold 49 = .ok (.getfield 7, 3) := dk_1180 (dk_g tcX12_fold_4 1 rfl) (dk_g tcX12_fold_4 2 rfl) (dk_g tcX12_fold_4 3 rfl) rfl
theorem dX12_fold_52 : decode cX12_fold 52 = .ok (.bipush 8, 2) := dk_1016 (dk_g tcX12_fold_4 4 rfl) (dk_g tcX12_fold_4 5 rfl) (by decide +kernel)
theorem dX12_fold_54 : decode cX12_fold 54 = .ok (.iload_n 2, 1) := dk_1028 (dk_g tcX12_fold_4 6 rfl)
theorem dX12_fold_55 : decode cX12_fold 55 = .ok (.iadd, 1) := dk_1096 (dk_g tcX12_fold_4 7 rfl)
theorem dX12_fold_56 : decode cX12_fold 56 = .ok (.iaload, 1) := dk_1046 (dk_g tcX12_fold_4 8 rfl)
theorem dX12_fold_57 : decode cX12_fold 57 = .ok (.iload_n 1, 1) := dk_1027 (dk_g tcX12_fold_4 9 rfl)
theorem tcX12_fold_5 : (cX12_fold.data.toList.drop 60).take 12 = [136, 60, 132, 2, 255, 167, 255, 234, 27, 172] := by decide +kernel
theorem dX12_fold_58 : decode cX12_fold 58 = .ok (.invokevirtual 136, 3) := dk_1182 (dk_g tcX12_fold_4 10 rfl) (dk_g tcX12_fold_4 11 rfl) (dk_g tcX12_fold_5 0 rfl) rfl
theorem dX12_fold_61 : decode cX12_fold 61 = .ok (.istore_n 1, 1) := dk_1060 (dk_g tcX12_fold_5 1 rfl)
theorem dX12_fold_62 : decode cX12_fold 62 = .ok (.iinc 2 (-1), 3) := dk_1132 (dk_g tcX12_fold_5 2 rfl) (dk_g tcX12_fold_5 3 rfl) (dk_g tcX12_fold_5 4 rfl) rfl (by decide +kernel)
theorem dX12_fold_65 : decode cX12_fold 65 = .ok (.goto (-22), 3) := dk_1167 (dk_g tcX12_fold_5 5 rfl) (dk_g tcX12_fold_5 6 rfl) (dk_g tcX12_fold_5 7 rfl) (by decide +kernel)
theorem dX12_fold_68 : decode cX12_fold 68 = .ok (.iload_n 1, 1) := dk_1027 (dk_g tcX12_fold_5 8 rfl)
theorem dX12_fold_69 : decode cX12_fold 69 = .ok (.ireturn, 1) := dk_1172 (dk_g tcX12_fold_5 9 rfl)
theorem tcX12_steps_0 : (cX12_steps.data.toList.drop 0).take 12 = [42, 42, 27, 28, 182, 1, 125, 153, 0, 7, 3, 167] := by decide +kernel
theorem dX12_steps_0 : decode cX12_steps 0 = .ok (.aload_n 0, 1) := dk_1042 (dk_g tcX12_steps_0 0 rfl)
theorem dX12_steps_1 : decode cX12_steps 1 = .ok (.aload_n 0, 1) := dk_1042 (dk_g tcX12_steps_0 1 rfl)
theorem dX12_steps_2 : decode cX12_steps 2 = .ok (.iload_n 1, 1) := dk_1027 (dk_g tcX12_steps_0 2 rfl)
theorem dX12_steps_3 : decode cX12_steps 3 = .ok (.iload_n 2, 1) := dk_1028 (dk_g tcX12_steps_0 3 rfl)
theorem dX12_steps_4 : decode cX12_steps 4 = .ok (.invokevirtual 381, 3) := dk_1182 (dk_g tcX12_steps_0 4 rfl) (dk_g tcX12_steps_0 5 rfl) (dk_g tcX12_steps_0 6 rfl) rfl
theorem dX12_steps_7 : decode cX12_steps 7 = .ok (.ifCond .eq 7, 3) := dk_2153 (dk_g tcX12_steps_0 7 rfl) (dk_g tcX12_steps_0 8 rfl) (dk_g tcX12_steps_0 9 rfl) rfl rfl
theorem dX12_steps_10 : decode cX12_steps 10 = .ok (.iconst 0, 1) := dk_1003 (dk_g tcX12_steps_0 10 rfl)
theorem tcX12_steps_1 : (cX12_steps.data.toList.drop 12).take 12 = [0, 4, 4, 182, 1, 53, 154, 0, 5, 2, 172, 42] := by decide +kernel
theorem dX12_steps_11 : decode cX12_steps 11 = .ok (.goto 4, 3) := dk_2167 (dk_g tcX12_steps_0 11 rfl) (dk_g tcX12_steps_1 0 rfl) (dk_g tcX12_steps_1 1 rfl) rfl rfl
theorem dX12_steps_14 : decode cX12_steps 14 = .ok (.iconst 1, 1) := dk_1004 (dk_g tcX12_steps_1 2 rfl)
theorem dX12_steps_15 : decode cX12_steps 15 = .ok (.invokevirtual 309, 3) := dk_1182 (dk_g tcX12_steps_1 3 rfl) (dk_g tcX12_steps_1 4 rfl) (dk_g tcX12_steps_1 5 rfl) rfl
theorem dX12_steps_18 : decode cX12_steps 18 = .ok (.ifCond .ne 5, 3) := dk_2154 (dk_g tcX12_steps_1 6 rfl) (dk_g tcX12_steps_1 7 rfl) (dk_g tcX12_steps_1 8 rfl) rfl rfl
theorem dX12_steps_21 : decode cX12_steps 21 = .ok (.iconst (-1), 1) := dk_1002 (dk_g tcX12_steps_1 9 rfl)
theorem dX12_steps_22 : decode cX12_steps 22 = .ok (.ireturn, 1) := dk_1172 (dk_g tcX12_steps_1 10 rfl)
theorem dX12_steps_23 : decode cX12_steps 23 = .ok (.aload_n 0, 1) := dk_1042 (dk_g tcX12_steps_1 11 rfl)
theorem tcX12_steps_2 : (cX12_steps.data.toList.drop 24).take 12 = [27, 28, 182, 0, 171, 42, 180, 0, 139, 172] := by decide +kernel
theorem dX12_steps_24 : decode cX12_steps 24 = .ok (.iload_n 1, 1) := dk_1027 (dk_g tcX12_steps_2 0 rfl)
theorem dX12_steps_25 : decode cX12_steps 25 = .ok (.iload_n 2, 1) := dk_1028 (dk_g tcX12_steps_2 1 rfl)
theorem dX12_steps_26 : decode cX12_steps 26 = .ok (.invokevirtual 171, 3) := dk_1182 (dk_g tcX12_steps_2 2 rfl) (dk_g tcX12_steps_2 3 rfl) (dk_g tcX12_steps_2 4 rfl) rfl
theorem dX12_steps_29 : decode cX12_steps 29 = .ok (.aload_n 0, 1) := dk_1042 (dk_g tcX12_steps_2 5 rfl)
theorem dX12_steps_30 : decode cX12_steps 30 = .ok (.getfield 139, 3) := dk_1180 (dk_g tcX12_steps_2 6 rfl) (dk_g tcX12_steps_2 7 rfl) (dk_g tcX12_steps_2 8 rfl) rfl
theorem dX12_steps_33 : decode cX12_steps 33 = .ok (.ireturn, 1) := dk_1172 (dk_g tcX12_steps_2 9 rfl)
theorem tcX12_climbs_0 : (cX12_climbs.data.toList.drop 0).take 12 = [42, 27, 155, 0, 12, 27, 28, 163, 0, 7, 3, 167] := by decide +kernel
theorem dX12_climbs_0 : decode cX12_climbs 0 = .ok (.aload_n 0, 1) := dk_1042 (dk_g tcX12_climbs_0 0 rfl)
theorem dX12_climbs_1 : decode cX12_climbs 1 = .ok (.iload_n 1, 1) := dk_1027 (dk_g tcX12_climbs_0 1 rfl)
theorem dX12_climbs_2 : decode cX12_climbs 2 = .ok (.ifCond .lt 12, 3) := dk_2155 (dk_g tcX12_climbs_0 2 rfl) (dk_g tcX12_climbs_0 3 rfl) (dk_g tcX12_climbs_0 4 rfl) rfl rfl
theorem dX12_climbs_5 : decode cX12_climbs 5 = .ok (.iload_n 1, 1) := dk_1027 (dk_g tcX12_climbs_0 5 rfl)
theorem dX12_climbs_6 : decode cX12_climbs 6 = .ok (.iload_n 2, 1) := dk_1028 (dk_g tcX12_climbs_0 6 rfl)
theorem dX12_climbs_7 : decode cX12_climbs 7 = .ok (.if_icmp .gt 7, 3) := dk_2163 (dk_g tcX12_climbs_0 7 rfl) (dk_g tcX12_climbs_0 8 rfl) (dk_g tcX12_climbs_0 9 rfl) rfl rfl
theorem dX12_climbs_10 : decode cX12_climbs 10 = .ok (.iconst 0, 1) := dk_1003 (dk_g tcX12_climbs_0 10 rfl)
theorem tcX12_climbs_1 : (cX12_climbs.data.toList.drop 12).take 12 = [0, 4, 4, 182, 1, 53, 154, 0, 5, 2, 172, 42] := by decide +kernel
theorem dX12_climbs_11 : decode cX12_climbs 11 = .ok (.goto 4, 3) := dk_2167 (dk_g tcX12_climbs_0 11 rfl) (dk_g tcX12_climbs_1 0 rfl) (dk_g tcX12_climbs_1 1 rfl) rfl rfl
theorem dX12_climbs_14 : decode cX12_climbs 14 = .ok (.iconst 1, 1) := dk_1004 (dk_g tcX12_climbs_1 2 rfl)
theorem dX12_climbs_15 : decode cX12_climbs 15 = .ok (.invokevirtual 309, 3) := dk_1182 (dk_g tcX12_climbs_1 3 rfl) (dk_g tcX12_climbs_1 4 rfl) (dk_g tcX12_climbs_1 5 rfl) rfl
theorem dX12_climbs_18 : decode cX12_climbs 18 = .ok (.ifCond .ne 5, 3) := dk_2154 (dk_g tcX12_climbs_1 6 rfl) (dk_g tcX12_climbs_1 7 rfl) (dk_g tcX12_climbs_1 8 rfl) rfl rfl
theorem dX12_climbs_21 : decode cX12_climbs 21 = .ok (.iconst (-1), 1) := dk_1002 (dk_g tcX12_climbs_1 9 rfl)
theorem dX12_climbs_22 : decode cX12_climbs 22 = .ok (.ireturn, 1) := dk_1172 (dk_g tcX12_climbs_1 10 rfl)
theorem dX12_climbs_23 : decode cX12_climbs 23 = .ok (.aload_n 0, 1) := dk_1042 (dk_g tcX12_climbs_1 11 rfl)
theorem tcX12_climbs_2 : (cX12_climbs.data.toList.drop 24).take 12 = [27, 28, 182, 0, 190, 42, 180, 0, 139, 172] := by decide +kernel
theorem dX12_climbs_24 : decode cX12_climbs 24 = .ok (.iload_n 1, 1) := dk_1027 (dk_g tcX12_climbs_2 0 rfl)
theorem dX12_climbs_25 : decode cX12_climbs 25 = .ok (.iload_n 2, 1) := dk_1028 (dk_g tcX12_climbs_2 1 rfl)
theorem dX12_climbs_26 : decode cX12_climbs 26 = .ok (.invokevirtual 190, 3) := dk_1182 (dk_g tcX12_climbs_2 2 rfl) (dk_g tcX12_climbs_2 3 rfl) (dk_g tcX12_climbs_2 4 rfl) rfl
theorem dX12_climbs_29 : decode cX12_climbs 29 = .ok (.aload_n 0, 1) := dk_1042 (dk_g tcX12_climbs_2 5 rfl)
theorem dX12_climbs_30 : decode cX12_climbs 30 = .ok (.getfield 139, 3) := dk_1180 (dk_g tcX12_climbs_2 6 rfl) (dk_g tcX12_climbs_2 7 rfl) (dk_g tcX12_climbs_2 8 rfl) rfl
theorem dX12_climbs_33 : decode cX12_climbs 33 = .ok (.ireturn, 1) := dk_1172 (dk_g tcX12_climbs_2 9 rfl)
theorem tcX12_isAgreed_0 : (cX12_isAgreed.data.toList.drop 0).take 12 = [3, 62, 29, 42, 180, 0, 7, 3, 46, 162, 0, 51] := by decide +kernel
theorem dX12_isAgreed_0 : decode cX12_isAgreed 0 = .ok (.iconst 0, 1) := dk_1003 (dk_g tcX12_isAgreed_0 0 rfl)
theorem dX12_isAgreed_1 : decode cX12_isAgreed 1 = .ok (.istore_n 3, 1) := dk_1062 (dk_g tcX12_isAgreed_0 1 rfl)
theorem dX12_isAgreed_2 : decode cX12_isAgreed 2 = .ok (.iload_n 3, 1) := dk_1029 (dk_g tcX12_isAgreed_0 2 rfl)
theorem dX12_isAgreed_3 : decode cX12_isAgreed 3 = .ok (.aload_n 0, 1) := dk_1042 (dk_g tcX12_isAgreed_0 3 rfl)
theorem dX12_isAgreed_4 : decode cX12_isAgreed 4 = .ok (.getfield 7, 3) := dk_1180 (dk_g tcX12_isAgreed_0 4 rfl) (dk_g tcX12_isAgreed_0 5 rfl) (dk_g tcX12_isAgreed_0 6 rfl) rfl
theorem dX12_isAgreed_7 : decode cX12_isAgreed 7 = .ok (.iconst 0, 1) := dk_1003 (dk_g tcX12_isAgreed_0 7 rfl)
theorem dX12_isAgreed_8 : decode cX12_isAgreed 8 = .ok (.iaload, 1) := dk_1046 (dk_g tcX12_isAgreed_0 8 rfl)
theorem dX12_isAgreed_9 : decode cX12_isAgreed 9 = .ok (.if_icmp .ge 51, 3) := dk_2162 (dk_g tcX12_isAgreed_0 9 rfl) (dk_g tcX12_isAgreed_0 10 rfl) (dk_g tcX12_isAgreed_0 11 rfl) rfl rfl
theorem tcX12_isAgreed_1 : (cX12_isAgreed.data.toList.drop 12).take 12 = [42, 29, 42, 27, 3, 182, 0, 221, 42, 27, 4, 182] := by decide +kernel
theorem dX12_isAgreed_12 : decode cX12_isAgreed 12 = .ok (.aload_n 0, 1) := dk_1042 (dk_g tcX12_isAgreed_1 0 rfl)
theorem dX12_isAgreed_13 : decode cX12_isAgreed 13 = .ok (.iload_n 3, 1) := dk_1029 (dk_g tcX12_isAgreed_1 1 rfl)
theorem dX12_isAgreed_14 : decode cX12_isAgreed 14 = .ok (.aload_n 0, 1) := dk_1042 (dk_g tcX12_isAgreed_1 2 rfl)
theorem dX12_isAgreed_15 : decode cX12_isAgreed 15 = .ok (.iload_n 1, 1) := dk_1027 (dk_g tcX12_isAgreed_1 3 rfl)
theorem dX12_isAgreed_16 : decode cX12_isAgreed 16 = .ok (.iconst 0, 1) := dk_1003 (dk_g tcX12_isAgreed_1 4 rfl)
theorem dX12_isAgreed_17 : decode cX12_isAgreed 17 = .ok (.invokevirtual 221, 3) := dk_1182 (dk_g tcX12_isAgreed_1 5 rfl) (dk_g tcX12_isAgreed_1 6 rfl) (dk_g tcX12_isAgreed_1 7 rfl) rfl
theorem dX12_isAgreed_20 : decode cX12_isAgreed 20 = .ok (.aload_n 0, 1) := dk_1042 (dk_g tcX12_isAgreed_1 8 rfl)
theorem dX12_isAgreed_21 : decode cX12_isAgreed 21 = .ok (.iload_n 1, 1) := dk_1027 (dk_g tcX12_isAgreed_1 9 rfl)
theorem dX12_isAgreed_22 : decode cX12_isAgreed 22 = .ok (.iconst 1, 1) := dk_1004 (dk_g tcX12_isAgreed_1 10 rfl)
theorem tcX12_isAgreed_2 : (cX12_isAgreed.data.toList.drop 24).take 12 = [0, 221, 182, 1, 131, 153, 0, 25, 42, 29, 42, 28] := by decide +kernel
theorem dX12_isAgreed_23 : decode cX12_isAgreed 23 = .ok (.invokevirtual 221, 3) := dk_1182 (dk_g tcX12_isAgreed_1 11 rfl) (dk_g tcX12_isAgreed_2 0 rfl) (dk_g tcX12_isAgreed_2 1 rfl) rfl
theorem dX12_isAgreed_26 : decode cX12_isAgreed 26 = .ok (.invokevirtual 387, 3) := dk_1182 (dk_g tcX12_isAgreed_2 2 rfl) (dk_g tcX12_isAgreed_2 3 rfl) (dk_g tcX12_isAgreed_2 4 rfl) rfl
theorem dX12_isAgreed_29 : decode cX12_isAgreed 29 = .ok (.ifCond .eq 25, 3) := dk_2153 (dk_g tcX12_isAgreed_2 5 rfl) (dk_g tcX12_isAgreed_2 6 rfl) (dk_g tcX12_isAgreed_2 7 rfl) rfl rfl
theorem dX12_isAgreed_32 : decode cX12_isAgreed 32 = .ok (.aload_n 0, 1) := dk_1042 (dk_g tcX12_isAgreed_2 8 rfl)
theorem dX12_isAgreed_33 : decode cX12_isAgreed 33 = .ok (.iload_n 3, 1) := dk_1029 (dk_g tcX12_isAgreed_2 9 rfl)
theorem dX12_isAgreed_34 : decode cX12_isAgreed 34 = .ok (.aload_n 0, 1) := dk_1042 (dk_g tcX12_isAgreed_2 10 rfl)
theorem dX12_isAgreed_35 : decode cX12_isAgreed 35 = .ok (.iload_n 2, 1) := dk_1028 (dk_g tcX12_isAgreed_2 11 rfl)
theorem tcX12_isAgreed_3 : (cX12_isAgreed.data.toList.drop 36).take 12 = [3, 182, 0, 221, 42, 28, 4, 182, 0, 221, 182, 1] := by decide +kernel
theorem dX12_isAgreed_36 : decode cX12_isAgreed 36 = .ok (.iconst 0, 1) := dk_1003 (dk_g tcX12_isAgreed_3 0 rfl)
theorem dX12_isAgreed_37 : decode cX12_isAgreed 37 = .ok (.invokevirtual 221, 3) := dk_1182 (dk_g tcX12_isAgreed_3 1 rfl) (dk_g tcX12_isAgreed_3 2 rfl) (dk_g tcX12_isAgreed_3 3 rfl) rfl
theorem dX12_isAgreed_40 : decode cX12_isAgreed 40 = .ok (.aload_n 0, 1) := dk_1042 (dk_g tcX12_isAgreed_3 4 rfl)
theorem dX12_isAgreed_41 : decode cX12_isAgreed 41 = .ok (.iload_n 2, 1) := dk_1028 (dk_g tcX12_isAgreed_3 5 rfl)
theorem dX12_isAgreed_42 : decode cX12_isAgreed 42 = .ok (.iconst 1, 1) := dk_1004 (dk_g tcX12_isAgreed_3 6 rfl)
theorem dX12_isAgreed_43 : decode cX12_isAgreed 43 = .ok (.invokevirtual 221, 3) := dk_1182 (dk_g tcX12_isAgreed_3 7 rfl) (dk_g tcX12_isAgreed_3 8 rfl) (dk_g tcX12_isAgreed_3 9 rfl) rfl
theorem tcX12_isAgreed_4 : (cX12_isAgreed.data.toList.drop 48).take 12 = [131, 153, 0, 5, 4, 172, 132, 3, 1, 167, 255, 201] := by decide +kernel
theorem dX12_isAgreed_46 : decode cX12_isAgreed 46 = .ok (.invokevirtual 387, 3) := dk_1182 (dk_g tcX12_isAgreed_3 10 rfl) (dk_g tcX12_isAgreed_3 11 rfl) (dk_g tcX12_isAgreed_4 0 rfl) rfl
theorem dX12_isAgreed_49 : decode cX12_isAgreed 49 = .ok (.ifCond .eq 5, 3) := dk_2153 (dk_g tcX12_isAgreed_4 1 rfl) (dk_g tcX12_isAgreed_4 2 rfl) (dk_g tcX12_isAgreed_4 3 rfl) rfl rfl
theorem dX12_isAgreed_52 : decode cX12_isAgreed 52 = .ok (.iconst 1, 1) := dk_1004 (dk_g tcX12_isAgreed_4 4 rfl)
theorem dX12_isAgreed_53 : decode cX12_isAgreed 53 = .ok (.ireturn, 1) := dk_1172 (dk_g tcX12_isAgreed_4 5 rfl)
theorem dX12_isAgreed_54 : decode cX12_isAgreed 54 = .ok (.iinc 3 1, 3) := dk_1132 (dk_g tcX12_isAgreed_4 6 rfl) (dk_g tcX12_isAgreed_4 7 rfl) (dk_g tcX12_isAgreed_4 8 rfl) rfl (by decide +kernel)
theorem dX12_isAgreed_57 : decode cX12_isAgreed 57 = .ok (.goto (-55), 3) := dk_1167 (dk_g tcX12_isAgreed_4 9 rfl) (dk_g tcX12_isAgreed_4 10 rfl) (dk_g tcX12_isAgreed_4 11 rfl) (by decide +kernel)
theorem tcX12_isAgreed_5 : (cX12_isAgreed.data.toList.drop 60).take 12 = [3, 172] := by decide +kernel
theorem dX12_isAgreed_60 : decode cX12_isAgreed 60 = .ok (.iconst 0, 1) := dk_1003 (dk_g tcX12_isAgreed_5 0 rfl)
theorem dX12_isAgreed_61 : decode cX12_isAgreed 61 = .ok (.ireturn, 1) := dk_1172 (dk_g tcX12_isAgreed_5 1 rfl)
theorem tcX12_isHead_0 : (cX12_isHead.data.toList.drop 0).take 12 = [28, 42, 27, 182, 0, 209, 163, 0, 17, 42, 27, 28] := by decide +kernel
theorem dX12_isHead_0 : decode cX12_isHead 0 = .ok (.iload_n 2, 1) := dk_1028 (dk_g tcX12_isHead_0 0 rfl)
theorem dX12_isHead_1 : decode cX12_isHead 1 = .ok (.aload_n 0, 1) := dk_1042 (dk_g tcX12_isHead_0 1 rfl)
theorem dX12_isHead_2 : decode cX12_isHead 2 = .ok (.iload_n 1, 1) := dk_1027 (dk_g tcX12_isHead_0 2 rfl)
theorem dX12_isHead_3 : decode cX12_isHead 3 = .ok (.invokevirtual 209, 3) := dk_1182 (dk_g tcX12_isHead_0 3 rfl) (dk_g tcX12_isHead_0 4 rfl) (dk_g tcX12_isHead_0 5 rfl) rfl
theorem dX12_isHead_6 : decode cX12_isHead 6 = .ok (.if_icmp .gt 17, 3) := dk_2163 (dk_g tcX12_isHead_0 6 rfl) (dk_g tcX12_isHead_0 7 rfl) (dk_g tcX12_isHead_0 8 rfl) rfl rfl
theorem dX12_isHead_9 : decode cX12_isHead 9 = .ok (.aload_n 0, 1) := dk_1042 (dk_g tcX12_isHead_0 9 rfl)
theorem dX12_isHead_10 : decode cX12_isHead 10 = .ok (.iload_n 1, 1) := dk_1027 (dk_g tcX12_isHead_0 10 rfl)
theorem dX12_isHead_11 : decode cX12_isHead 11 = .ok (.iload_n 2, 1) := dk_1028 (dk_g tcX12_isHead_0 11 rfl)
theorem tcX12_isHead_1 : (cX12_isHead.data.toList.drop 12).take 12 = [182, 0, 215, 29, 160, 0, 7, 4, 167, 0, 4, 3] := by decide +kernel
theorem dX12_isHead_12 : decode cX12_isHead 12 = .ok (.invokevirtual 215, 3) := dk_1182 (dk_g tcX12_isHead_1 0 rfl) (dk_g tcX12_isHead_1 1 rfl) (dk_g tcX12_isHead_1 2 rfl) rfl
theorem dX12_isHead_15 : decode cX12_isHead 15 = .ok (.iload_n 3, 1) := dk_1029 (dk_g tcX12_isHead_1 3 rfl)
theorem dX12_isHead_16 : decode cX12_isHead 16 = .ok (.if_icmp .ne 7, 3) := dk_2160 (dk_g tcX12_isHead_1 4 rfl) (dk_g tcX12_isHead_1 5 rfl) (dk_g tcX12_isHead_1 6 rfl) rfl rfl
theorem dX12_isHead_19 : decode cX12_isHead 19 = .ok (.iconst 1, 1) := dk_1004 (dk_g tcX12_isHead_1 7 rfl)
theorem dX12_isHead_20 : decode cX12_isHead 20 = .ok (.goto 4, 3) := dk_2167 (dk_g tcX12_isHead_1 8 rfl) (dk_g tcX12_isHead_1 9 rfl) (dk_g tcX12_isHead_1 10 rfl) rfl rfl
theorem dX12_isHead_23 : decode cX12_isHead 23 = .ok (.iconst 0, 1) := dk_1003 (dk_g tcX12_isHead_1 11 rfl)
theorem tcX12_isHead_2 : (cX12_isHead.data.toList.drop 24).take 12 = [172] := by decide +kernel
theorem dX12_isHead_24 : decode cX12_isHead 24 = .ok (.ireturn, 1) := dk_1172 (dk_g tcX12_isHead_2 0 rfl)
theorem tcX12_agree_0 : (cX12_agree.data.toList.drop 0).take 12 = [42, 27, 184, 1, 100, 153, 0, 14, 28, 184, 1, 100] := by decide +kernel
theorem dX12_agree_0 : decode cX12_agree 0 = .ok (.aload_n 0, 1) := dk_1042 (dk_g tcX12_agree_0 0 rfl)
theorem dX12_agree_1 : decode cX12_agree 1 = .ok (.iload_n 1, 1) := dk_1027 (dk_g tcX12_agree_0 1 rfl)
theorem dX12_agree_2 : decode cX12_agree 2 = .ok (.invokestatic 356, 3) := dk_1184 (dk_g tcX12_agree_0 2 rfl) (dk_g tcX12_agree_0 3 rfl) (dk_g tcX12_agree_0 4 rfl) rfl
theorem dX12_agree_5 : decode cX12_agree 5 = .ok (.ifCond .eq 14, 3) := dk_2153 (dk_g tcX12_agree_0 5 rfl) (dk_g tcX12_agree_0 6 rfl) (dk_g tcX12_agree_0 7 rfl) rfl rfl
theorem dX12_agree_8 : decode cX12_agree 8 = .ok (.iload_n 2, 1) := dk_1028 (dk_g tcX12_agree_0 8 rfl)
theorem dX12_agree_9 : decode cX12_agree 9 = .ok (.invokestatic 356, 3) := dk_1184 (dk_g tcX12_agree_0 9 rfl) (dk_g tcX12_agree_0 10 rfl) (dk_g tcX12_agree_0 11 rfl) rfl
theorem tcX12_agree_1 : (cX12_agree.data.toList.drop 12).take 12 = [153, 0, 7, 3, 167, 0, 4, 5, 182, 1, 53, 153] := by decide +kernel
theorem dX12_agree_12 : decode cX12_agree 12 = .ok (.ifCond .eq 7, 3) := dk_2153 (dk_g tcX12_agree_1 0 rfl) (dk_g tcX12_agree_1 1 rfl) (dk_g tcX12_agree_1 2 rfl) rfl rfl
theorem dX12_agree_15 : decode cX12_agree 15 = .ok (.iconst 0, 1) := dk_1003 (dk_g tcX12_agree_1 3 rfl)
theorem dX12_agree_16 : decode cX12_agree 16 = .ok (.goto 4, 3) := dk_2167 (dk_g tcX12_agree_1 4 rfl) (dk_g tcX12_agree_1 5 rfl) (dk_g tcX12_agree_1 6 rfl) rfl rfl
theorem dX12_agree_19 : decode cX12_agree 19 = .ok (.iconst 2, 1) := dk_1005 (dk_g tcX12_agree_1 7 rfl)
theorem dX12_agree_20 : decode cX12_agree 20 = .ok (.invokevirtual 309, 3) := dk_1182 (dk_g tcX12_agree_1 8 rfl) (dk_g tcX12_agree_1 9 rfl) (dk_g tcX12_agree_1 10 rfl) rfl
theorem tcX12_agree_2 : (cX12_agree.data.toList.drop 24).take 12 = [0, 20, 42, 27, 28, 182, 1, 134, 153, 0, 7, 4] := by decide +kernel
theorem dX12_agree_23 : decode cX12_agree 23 = .ok (.ifCond .eq 20, 3) := dk_2153 (dk_g tcX12_agree_1 11 rfl) (dk_g tcX12_agree_2 0 rfl) (dk_g tcX12_agree_2 1 rfl) rfl rfl
theorem dX12_agree_26 : decode cX12_agree 26 = .ok (.aload_n 0, 1) := dk_1042 (dk_g tcX12_agree_2 2 rfl)
theorem dX12_agree_27 : decode cX12_agree 27 = .ok (.iload_n 1, 1) := dk_1027 (dk_g tcX12_agree_2 3 rfl)
theorem dX12_agree_28 : decode cX12_agree 28 = .ok (.iload_n 2, 1) := dk_1028 (dk_g tcX12_agree_2 4 rfl)
theorem dX12_agree_29 : decode cX12_agree 29 = .ok (.invokevirtual 390, 3) := dk_1182 (dk_g tcX12_agree_2 5 rfl) (dk_g tcX12_agree_2 6 rfl) (dk_g tcX12_agree_2 7 rfl) rfl
theorem dX12_agree_32 : decode cX12_agree 32 = .ok (.ifCond .eq 7, 3) := dk_2153 (dk_g tcX12_agree_2 8 rfl) (dk_g tcX12_agree_2 9 rfl) (dk_g tcX12_agree_2 10 rfl) rfl rfl
theorem dX12_agree_35 : decode cX12_agree 35 = .ok (.iconst 1, 1) := dk_1004 (dk_g tcX12_agree_2 11 rfl)
theorem tcX12_agree_3 : (cX12_agree.data.toList.drop 36).take 12 = [167, 0, 8, 3, 167, 0, 4, 2, 172] := by decide +kernel
theorem dX12_agree_36 : decode cX12_agree 36 = .ok (.goto 8, 3) := dk_2167 (dk_g tcX12_agree_3 0 rfl) (dk_g tcX12_agree_3 1 rfl) (dk_g tcX12_agree_3 2 rfl) rfl rfl
theorem dX12_agree_39 : decode cX12_agree 39 = .ok (.iconst 0, 1) := dk_1003 (dk_g tcX12_agree_3 3 rfl)
theorem dX12_agree_40 : decode cX12_agree 40 = .ok (.goto 4, 3) := dk_2167 (dk_g tcX12_agree_3 4 rfl) (dk_g tcX12_agree_3 5 rfl) (dk_g tcX12_agree_3 6 rfl) rfl rfl
theorem dX12_agree_43 : decode cX12_agree 43 = .ok (.iconst (-1), 1) := dk_1002 (dk_g tcX12_agree_3 7 rfl)
theorem dX12_agree_44 : decode cX12_agree 44 = .ok (.ireturn, 1) := dk_1172 (dk_g tcX12_agree_3 8 rfl)
theorem tcX12_where_0 : (cX12_where.data.toList.drop 0).take 12 = [42, 28, 3, 4, 184, 0, 113, 154, 0, 7, 4, 167] := by decide +kernel
theorem dX12_where_0 : decode cX12_where 0 = .ok (.aload_n 0, 1) := dk_1042 (dk_g tcX12_where_0 0 rfl)
theorem dX12_where_1 : decode cX12_where 1 = .ok (.iload_n 2, 1) := dk_1028 (dk_g tcX12_where_0 1 rfl)
theorem dX12_where_2 : decode cX12_where 2 = .ok (.iconst 0, 1) := dk_1003 (dk_g tcX12_where_0 2 rfl)
theorem dX12_where_3 : decode cX12_where 3 = .ok (.iconst 1, 1) := dk_1004 (dk_g tcX12_where_0 3 rfl)
theorem dX12_where_4 : decode cX12_where 4 = .ok (.invokestatic 113, 3) := dk_1184 (dk_g tcX12_where_0 4 rfl) (dk_g tcX12_where_0 5 rfl) (dk_g tcX12_where_0 6 rfl) rfl
theorem dX12_where_7 : decode cX12_where 7 = .ok (.ifCond .ne 7, 3) := dk_2154 (dk_g tcX12_where_0 7 rfl) (dk_g tcX12_where_0 8 rfl) (dk_g tcX12_where_0 9 rfl) rfl rfl
theorem dX12_where_10 : decode cX12_where 10 = .ok (.iconst 1, 1) := dk_1004 (dk_g tcX12_where_0 10 rfl)
theorem tcX12_where_1 : (cX12_where.data.toList.drop 12).take 12 = [0, 16, 42, 27, 182, 1, 88, 154, 0, 7, 5, 167] := by decide +kernel
theorem dX12_where_11 : decode cX12_where 11 = .ok (.goto 16, 3) := dk_2167 (dk_g tcX12_where_0 11 rfl) (dk_g tcX12_where_1 0 rfl) (dk_g tcX12_where_1 1 rfl) rfl rfl
theorem dX12_where_14 : decode cX12_where 14 = .ok (.aload_n 0, 1) := dk_1042 (dk_g tcX12_where_1 2 rfl)
theorem dX12_where_15 : decode cX12_where 15 = .ok (.iload_n 1, 1) := dk_1027 (dk_g tcX12_where_1 3 rfl)
theorem dX12_where_16 : decode cX12_where 16 = .ok (.invokevirtual 344, 3) := dk_1182 (dk_g tcX12_where_1 4 rfl) (dk_g tcX12_where_1 5 rfl) (dk_g tcX12_where_1 6 rfl) rfl
theorem dX12_where_19 : decode cX12_where 19 = .ok (.ifCond .ne 7, 3) := dk_2154 (dk_g tcX12_where_1 7 rfl) (dk_g tcX12_where_1 8 rfl) (dk_g tcX12_where_1 9 rfl) rfl rfl
theorem dX12_where_22 : decode cX12_where 22 = .ok (.iconst 2, 1) := dk_1005 (dk_g tcX12_where_1 10 rfl)
theorem tcX12_where_2 : (cX12_where.data.toList.drop 24).take 12 = [0, 4, 3, 182, 1, 53, 154, 0, 5, 2, 172, 3] := by decide +kernel
theorem dX12_where_23 : decode cX12_where 23 = .ok (.goto 4, 3) := dk_2167 (dk_g tcX12_where_1 11 rfl) (dk_g tcX12_where_2 0 rfl) (dk_g tcX12_where_2 1 rfl) rfl rfl
theorem dX12_where_26 : decode cX12_where 26 = .ok (.iconst 0, 1) := dk_1003 (dk_g tcX12_where_2 2 rfl)
theorem dX12_where_27 : decode cX12_where 27 = .ok (.invokevirtual 309, 3) := dk_1182 (dk_g tcX12_where_2 3 rfl) (dk_g tcX12_where_2 4 rfl) (dk_g tcX12_where_2 5 rfl) rfl
theorem dX12_where_30 : decode cX12_where 30 = .ok (.ifCond .ne 5, 3) := dk_2154 (dk_g tcX12_where_2 6 rfl) (dk_g tcX12_where_2 7 rfl) (dk_g tcX12_where_2 8 rfl) rfl rfl
theorem dX12_where_33 : decode cX12_where 33 = .ok (.iconst (-1), 1) := dk_1002 (dk_g tcX12_where_2 9 rfl)
theorem dX12_where_34 : decode cX12_where 34 = .ok (.ireturn, 1) := dk_1172 (dk_g tcX12_where_2 10 rfl)
theorem dX12_where_35 : decode cX12_where 35 = .ok (.iconst 0, 1) := dk_1003 (dk_g tcX12_where_2 11 rfl)
theorem tcX12_where_3 : (cX12_where.data.toList.drop 36).take 12 = [62, 2, 54, 4, 3, 54, 5, 21, 5, 42, 27, 182] := by decide +kernel
theorem dX12_where_36 : decode cX12_where 36 = .ok (.istore_n 3, 1) := dk_1062 (dk_g tcX12_where_3 0 rfl)
theorem dX12_where_37 : decode cX12_where 37 = .ok (.iconst (-1), 1) := dk_1002 (dk_g tcX12_where_3 1 rfl)
theorem dX12_where_38 : decode cX12_where 38 = .ok (.istore 4, 2) := dk_1054 (dk_g tcX12_where_3 2 rfl) (dk_g tcX12_where_3 3 rfl) rfl
theorem dX12_where_40 : decode cX12_where 40 = .ok (.iconst 0, 1) := dk_1003 (dk_g tcX12_where_3 4 rfl)
theorem dX12_where_41 : decode cX12_where 41 = .ok (.istore 5, 2) := dk_1054 (dk_g tcX12_where_3 5 rfl) (dk_g tcX12_where_3 6 rfl) rfl
theorem dX12_where_43 : decode cX12_where 43 = .ok (.iload 5, 2) := dk_1021 (dk_g tcX12_where_3 7 rfl) (dk_g tcX12_where_3 8 rfl) rfl
theorem dX12_where_45 : decode cX12_where 45 = .ok (.aload_n 0, 1) := dk_1042 (dk_g tcX12_where_3 9 rfl)
theorem dX12_where_46 : decode cX12_where 46 = .ok (.iload_n 1, 1) := dk_1027 (dk_g tcX12_where_3 10 rfl)
theorem tcX12_where_4 : (cX12_where.data.toList.drop 48).take 12 = [0, 209, 162, 0, 43, 42, 16, 48, 27, 104, 21, 5] := by decide +kernel
theorem dX12_where_47 : decode cX12_where 47 = .ok (.invokevirtual 209, 3) := dk_1182 (dk_g tcX12_where_3 11 rfl) (dk_g tcX12_where_4 0 rfl) (dk_g tcX12_where_4 1 rfl) rfl
theorem dX12_where_50 : decode cX12_where 50 = .ok (.if_icmp .ge 43, 3) := dk_2162 (dk_g tcX12_where_4 2 rfl) (dk_g tcX12_where_4 3 rfl) (dk_g tcX12_where_4 4 rfl) rfl rfl
theorem dX12_where_53 : decode cX12_where 53 = .ok (.aload_n 0, 1) := dk_1042 (dk_g tcX12_where_4 5 rfl)
theorem dX12_where_54 : decode cX12_where 54 = .ok (.bipush 48, 2) := dk_1016 (dk_g tcX12_where_4 6 rfl) (dk_g tcX12_where_4 7 rfl) (by decide +kernel)
theorem dX12_where_56 : decode cX12_where 56 = .ok (.iload_n 1, 1) := dk_1027 (dk_g tcX12_where_4 8 rfl)
theorem dX12_where_57 : decode cX12_where 57 = .ok (.imul, 1) := dk_1104 (dk_g tcX12_where_4 9 rfl)
theorem dX12_where_58 : decode cX12_where 58 = .ok (.iload 5, 2) := dk_1021 (dk_g tcX12_where_4 10 rfl) (dk_g tcX12_where_4 11 rfl) rfl
theorem tcX12_where_5 : (cX12_where.data.toList.drop 60).take 12 = [96, 182, 1, 137, 154, 0, 6, 167, 0, 20, 132, 3] := by decide +kernel
theorem dX12_where_60 : decode cX12_where 60 = .ok (.iadd, 1) := dk_1096 (dk_g tcX12_where_5 0 rfl)
theorem dX12_where_61 : decode cX12_where 61 = .ok (.invokevirtual 393, 3) := dk_1182 (dk_g tcX12_where_5 1 rfl) (dk_g tcX12_where_5 2 rfl) (dk_g tcX12_where_5 3 rfl) rfl
theorem dX12_where_64 : decode cX12_where 64 = .ok (.ifCond .ne 6, 3) := dk_2154 (dk_g tcX12_where_5 4 rfl) (dk_g tcX12_where_5 5 rfl) (dk_g tcX12_where_5 6 rfl) rfl rfl
theorem dX12_where_67 : decode cX12_where 67 = .ok (.goto 20, 3) := dk_2167 (dk_g tcX12_where_5 7 rfl) (dk_g tcX12_where_5 8 rfl) (dk_g tcX12_where_5 9 rfl) rfl rfl
theorem tcX12_where_6 : (cX12_where.data.toList.drop 72).take 12 = [1, 21, 4, 156, 0, 8, 21, 5, 167, 0, 5, 21] := by decide +kernel
theorem dX12_where_70 : decode cX12_where 70 = .ok (.iinc 3 1, 3) := dk_1132 (dk_g tcX12_where_5 10 rfl) (dk_g tcX12_where_5 11 rfl) (dk_g tcX12_where_6 0 rfl) rfl (by decide +kernel)
theorem dX12_where_73 : decode cX12_where 73 = .ok (.iload 4, 2) := dk_1021 (dk_g tcX12_where_6 1 rfl) (dk_g tcX12_where_6 2 rfl) rfl
theorem dX12_where_75 : decode cX12_where 75 = .ok (.ifCond .ge 8, 3) := dk_2156 (dk_g tcX12_where_6 3 rfl) (dk_g tcX12_where_6 4 rfl) (dk_g tcX12_where_6 5 rfl) rfl rfl
theorem dX12_where_78 : decode cX12_where 78 = .ok (.iload 5, 2) := dk_1021 (dk_g tcX12_where_6 6 rfl) (dk_g tcX12_where_6 7 rfl) rfl
theorem dX12_where_80 : decode cX12_where 80 = .ok (.goto 5, 3) := dk_2167 (dk_g tcX12_where_6 8 rfl) (dk_g tcX12_where_6 9 rfl) (dk_g tcX12_where_6 10 rfl) rfl rfl
theorem tcX12_where_7 : (cX12_where.data.toList.drop 84).take 12 = [4, 54, 4, 132, 5, 1, 167, 255, 209, 28, 4, 160] := by decide +kernel
theorem dX12_where_83 : decode cX12_where 83 = .ok (.iload 4, 2) := dk_1021 (dk_g tcX12_where_6 11 rfl) (dk_g tcX12_where_7 0 rfl) rfl
theorem dX12_where_85 : decode cX12_where 85 = .ok (.istore 4, 2) := dk_1054 (dk_g tcX12_where_7 1 rfl) (dk_g tcX12_where_7 2 rfl) rfl
theorem dX12_where_87 : decode cX12_where 87 = .ok (.iinc 5 1, 3) := dk_1132 (dk_g tcX12_where_7 3 rfl) (dk_g tcX12_where_7 4 rfl) (dk_g tcX12_where_7 5 rfl) rfl (by decide +kernel)
theorem dX12_where_90 : decode cX12_where 90 = .ok (.goto (-47), 3) := dk_1167 (dk_g tcX12_where_7 6 rfl) (dk_g tcX12_where_7 7 rfl) (dk_g tcX12_where_7 8 rfl) (by decide +kernel)
theorem dX12_where_93 : decode cX12_where 93 = .ok (.iload_n 2, 1) := dk_1028 (dk_g tcX12_where_7 9 rfl)
theorem dX12_where_94 : decode cX12_where 94 = .ok (.iconst 1, 1) := dk_1004 (dk_g tcX12_where_7 10 rfl)
theorem tcX12_where_8 : (cX12_where.data.toList.drop 96).take 12 = [0, 7, 29, 167, 0, 18, 21, 4, 156, 0, 11, 42] := by decide +kernel
theorem dX12_where_95 : decode cX12_where 95 = .ok (.if_icmp .ne 7, 3) := dk_2160 (dk_g tcX12_where_7 11 rfl) (dk_g tcX12_where_8 0 rfl) (dk_g tcX12_where_8 1 rfl) rfl rfl
theorem dX12_where_98 : decode cX12_where 98 = .ok (.iload_n 3, 1) := dk_1029 (dk_g tcX12_where_8 2 rfl)
theorem dX12_where_99 : decode cX12_where 99 = .ok (.goto 18, 3) := dk_2167 (dk_g tcX12_where_8 3 rfl) (dk_g tcX12_where_8 4 rfl) (dk_g tcX12_where_8 5 rfl) rfl rfl
theorem dX12_where_102 : decode cX12_where 102 = .ok (.iload 4, 2) := dk_1021 (dk_g tcX12_where_8 6 rfl) (dk_g tcX12_where_8 7 rfl) rfl
theorem dX12_where_104 : decode cX12_where 104 = .ok (.ifCond .ge 11, 3) := dk_2156 (dk_g tcX12_where_8 8 rfl) (dk_g tcX12_where_8 9 rfl) (dk_g tcX12_where_8 10 rfl) rfl rfl
theorem dX12_where_107 : decode cX12_where 107 = .ok (.aload_n 0, 1) := dk_1042 (dk_g tcX12_where_8 11 rfl)
theorem tcX12_where_9 : (cX12_where.data.toList.drop 108).take 12 = [8, 182, 0, 212, 167, 0, 5, 21, 4, 172] := by decide +kernel
theorem dX12_where_108 : decode cX12_where 108 = .ok (.iconst 5, 1) := dk_1008 (dk_g tcX12_where_9 0 rfl)
theorem dX12_where_109 : decode cX12_where 109 = .ok (.invokevirtual 212, 3) := dk_1182 (dk_g tcX12_where_9 1 rfl) (dk_g tcX12_where_9 2 rfl) (dk_g tcX12_where_9 3 rfl) rfl
theorem dX12_where_112 : decode cX12_where 112 = .ok (.goto 5, 3) := dk_2167 (dk_g tcX12_where_9 4 rfl) (dk_g tcX12_where_9 5 rfl) (dk_g tcX12_where_9 6 rfl) rfl rfl
theorem dX12_where_115 : decode cX12_where 115 = .ok (.iload 4, 2) := dk_1021 (dk_g tcX12_where_9 7 rfl) (dk_g tcX12_where_9 8 rfl) rfl
theorem dX12_where_117 : decode cX12_where 117 = .ok (.ireturn, 1) := dk_1172 (dk_g tcX12_where_9 9 rfl)
theorem tcX12_isTyped_0 : (cX12_isTyped.data.toList.drop 0).take 12 = [42, 180, 0, 7, 17, 0, 252, 27, 96, 46, 42, 180] := by decide +kernel
theorem dX12_isTyped_0 : decode cX12_isTyped 0 = .ok (.aload_n 0, 1) := dk_1042 (dk_g tcX12_isTyped_0 0 rfl)
theorem dX12_isTyped_1 : decode cX12_isTyped 1 = .ok (.getfield 7, 3) := dk_1180 (dk_g tcX12_isTyped_0 1 rfl) (dk_g tcX12_isTyped_0 2 rfl) (dk_g tcX12_isTyped_0 3 rfl) rfl
theorem dX12_isTyped_4 : decode cX12_isTyped 4 = .ok (.sipush 252, 3) := dk_2017 (dk_g tcX12_isTyped_0 4 rfl) (dk_g tcX12_isTyped_0 5 rfl) (dk_g tcX12_isTyped_0 6 rfl) rfl rfl
theorem dX12_isTyped_7 : decode cX12_isTyped 7 = .ok (.iload_n 1, 1) := dk_1027 (dk_g tcX12_isTyped_0 7 rfl)
theorem dX12_isTyped_8 : decode cX12_isTyped 8 = .ok (.iadd, 1) := dk_1096 (dk_g tcX12_isTyped_0 8 rfl)
theorem dX12_isTyped_9 : decode cX12_isTyped 9 = .ok (.iaload, 1) := dk_1046 (dk_g tcX12_isTyped_0 9 rfl)
theorem dX12_isTyped_10 : decode cX12_isTyped 10 = .ok (.aload_n 0, 1) := dk_1042 (dk_g tcX12_isTyped_0 10 rfl)
theorem tcX12_isTyped_1 : (cX12_isTyped.data.toList.drop 12).take 12 = [0, 203, 159, 0, 5, 3, 172, 3, 61, 28, 42, 180] := by decide +kernel
theorem dX12_isTyped_11 : decode cX12_isTyped 11 = .ok (.getfield 203, 3) := dk_1180 (dk_g tcX12_isTyped_0 11 rfl) (dk_g tcX12_isTyped_1 0 rfl) (dk_g tcX12_isTyped_1 1 rfl) rfl
theorem dX12_isTyped_14 : decode cX12_isTyped 14 = .ok (.if_icmp .eq 5, 3) := dk_2159 (dk_g tcX12_isTyped_1 2 rfl) (dk_g tcX12_isTyped_1 3 rfl) (dk_g tcX12_isTyped_1 4 rfl) rfl rfl
theorem dX12_isTyped_17 : decode cX12_isTyped 17 = .ok (.iconst 0, 1) := dk_1003 (dk_g tcX12_isTyped_1 5 rfl)
theorem dX12_isTyped_18 : decode cX12_isTyped 18 = .ok (.ireturn, 1) := dk_1172 (dk_g tcX12_isTyped_1 6 rfl)
theorem dX12_isTyped_19 : decode cX12_isTyped 19 = .ok (.iconst 0, 1) := dk_1003 (dk_g tcX12_isTyped_1 7 rfl)
theorem dX12_isTyped_20 : decode cX12_isTyped 20 = .ok (.istore_n 2, 1) := dk_1061 (dk_g tcX12_isTyped_1 8 rfl)
theorem dX12_isTyped_21 : decode cX12_isTyped 21 = .ok (.iload_n 2, 1) := dk_1028 (dk_g tcX12_isTyped_1 9 rfl)
theorem dX12_isTyped_22 : decode cX12_isTyped 22 = .ok (.aload_n 0, 1) := dk_1042 (dk_g tcX12_isTyped_1 10 rfl)
theorem tcX12_isTyped_2 : (cX12_isTyped.data.toList.drop 24).take 12 = [0, 203, 162, 0, 35, 42, 180, 0, 7, 17, 1, 188] := by decide +kernel
theorem dX12_isTyped_23 : decode cX12_isTyped 23 = .ok (.getfield 203, 3) := dk_1180 (dk_g tcX12_isTyped_1 11 rfl) (dk_g tcX12_isTyped_2 0 rfl) (dk_g tcX12_isTyped_2 1 rfl) rfl
theorem dX12_isTyped_26 : decode cX12_isTyped 26 = .ok (.if_icmp .ge 35, 3) := dk_2162 (dk_g tcX12_isTyped_2 2 rfl) (dk_g tcX12_isTyped_2 3 rfl) (dk_g tcX12_isTyped_2 4 rfl) rfl rfl
theorem dX12_isTyped_29 : decode cX12_isTyped 29 = .ok (.aload_n 0, 1) := dk_1042 (dk_g tcX12_isTyped_2 5 rfl)
theorem dX12_isTyped_30 : decode cX12_isTyped 30 = .ok (.getfield 7, 3) := dk_1180 (dk_g tcX12_isTyped_2 6 rfl) (dk_g tcX12_isTyped_2 7 rfl) (dk_g tcX12_isTyped_2 8 rfl) rfl
theorem dX12_isTyped_33 : decode cX12_isTyped 33 = .ok (.sipush 444, 3) := dk_2017 (dk_g tcX12_isTyped_2 9 rfl) (dk_g tcX12_isTyped_2 10 rfl) (dk_g tcX12_isTyped_2 11 rfl) rfl rfl
theorem tcX12_isTyped_3 : (cX12_isTyped.data.toList.drop 36).take 12 = [16, 8, 27, 104, 96, 28, 96, 46, 42, 180, 0, 25] := by decide +kernel
theorem dX12_isTyped_36 : decode cX12_isTyped 36 = .ok (.bipush 8, 2) := dk_1016 (dk_g tcX12_isTyped_3 0 rfl) (dk_g tcX12_isTyped_3 1 rfl) (by decide +kernel)
theorem dX12_isTyped_38 : decode cX12_isTyped 38 = .ok (.iload_n 1, 1) := dk_1027 (dk_g tcX12_isTyped_3 2 rfl)
theorem dX12_isTyped_39 : decode cX12_isTyped 39 = .ok (.imul, 1) := dk_1104 (dk_g tcX12_isTyped_3 3 rfl)
theorem dX12_isTyped_40 : decode cX12_isTyped 40 = .ok (.iadd, 1) := dk_1096 (dk_g tcX12_isTyped_3 4 rfl)
theorem dX12_isTyped_41 : decode cX12_isTyped 41 = .ok (.iload_n 2, 1) := dk_1028 (dk_g tcX12_isTyped_3 5 rfl)
theorem dX12_isTyped_42 : decode cX12_isTyped 42 = .ok (.iadd, 1) := dk_1096 (dk_g tcX12_isTyped_3 6 rfl)
theorem dX12_isTyped_43 : decode cX12_isTyped 43 = .ok (.iaload, 1) := dk_1046 (dk_g tcX12_isTyped_3 7 rfl)
theorem dX12_isTyped_44 : decode cX12_isTyped 44 = .ok (.aload_n 0, 1) := dk_1042 (dk_g tcX12_isTyped_3 8 rfl)
theorem dX12_isTyped_45 : decode cX12_isTyped 45 = .ok (.getfield 25, 3) := dk_1180 (dk_g tcX12_isTyped_3 9 rfl) (dk_g tcX12_isTyped_3 10 rfl) (dk_g tcX12_isTyped_3 11 rfl) rfl
theorem tcX12_isTyped_4 : (cX12_isTyped.data.toList.drop 48).take 12 = [28, 46, 159, 0, 5, 3, 172, 132, 2, 1, 167, 255] := by decide +kernel
theorem dX12_isTyped_48 : decode cX12_isTyped 48 = .ok (.iload_n 2, 1) := dk_1028 (dk_g tcX12_isTyped_4 0 rfl)
theorem dX12_isTyped_49 : decode cX12_isTyped 49 = .ok (.iaload, 1) := dk_1046 (dk_g tcX12_isTyped_4 1 rfl)
theorem dX12_isTyped_50 : decode cX12_isTyped 50 = .ok (.if_icmp .eq 5, 3) := dk_2159 (dk_g tcX12_isTyped_4 2 rfl) (dk_g tcX12_isTyped_4 3 rfl) (dk_g tcX12_isTyped_4 4 rfl) rfl rfl
theorem dX12_isTyped_53 : decode cX12_isTyped 53 = .ok (.iconst 0, 1) := dk_1003 (dk_g tcX12_isTyped_4 5 rfl)
theorem dX12_isTyped_54 : decode cX12_isTyped 54 = .ok (.ireturn, 1) := dk_1172 (dk_g tcX12_isTyped_4 6 rfl)
theorem dX12_isTyped_55 : decode cX12_isTyped 55 = .ok (.iinc 2 1, 3) := dk_1132 (dk_g tcX12_isTyped_4 7 rfl) (dk_g tcX12_isTyped_4 8 rfl) (dk_g tcX12_isTyped_4 9 rfl) rfl (by decide +kernel)
theorem tcX12_isTyped_5 : (cX12_isTyped.data.toList.drop 60).take 12 = [219, 4, 172] := by decide +kernel
theorem dX12_isTyped_58 : decode cX12_isTyped 58 = .ok (.goto (-37), 3) := dk_1167 (dk_g tcX12_isTyped_4 10 rfl) (dk_g tcX12_isTyped_4 11 rfl) (dk_g tcX12_isTyped_5 0 rfl) (by decide +kernel)
theorem dX12_isTyped_61 : decode cX12_isTyped 61 = .ok (.iconst 1, 1) := dk_1004 (dk_g tcX12_isTyped_5 1 rfl)
theorem dX12_isTyped_62 : decode cX12_isTyped 62 = .ok (.ireturn, 1) := dk_1172 (dk_g tcX12_isTyped_5 2 rfl)
theorem tcX12_seeks_0 : (cX12_seeks.data.toList.drop 0).take 12 = [28, 153, 0, 10, 42, 180, 1, 140, 156, 0, 4, 177] := by decide +kernel
theorem dX12_seeks_0 : decode cX12_seeks 0 = .ok (.iload_n 2, 1) := dk_1028 (dk_g tcX12_seeks_0 0 rfl)
theorem dX12_seeks_1 : decode cX12_seeks 1 = .ok (.ifCond .eq 10, 3) := dk_2153 (dk_g tcX12_seeks_0 1 rfl) (dk_g tcX12_seeks_0 2 rfl) (dk_g tcX12_seeks_0 3 rfl) rfl rfl
theorem dX12_seeks_4 : decode cX12_seeks 4 = .ok (.aload_n 0, 1) := dk_1042 (dk_g tcX12_seeks_0 4 rfl)
theorem dX12_seeks_5 : decode cX12_seeks 5 = .ok (.getfield 396, 3) := dk_1180 (dk_g tcX12_seeks_0 5 rfl) (dk_g tcX12_seeks_0 6 rfl) (dk_g tcX12_seeks_0 7 rfl) rfl
theorem dX12_seeks_8 : decode cX12_seeks 8 = .ok (.ifCond .ge 4, 3) := dk_2156 (dk_g tcX12_seeks_0 8 rfl) (dk_g tcX12_seeks_0 9 rfl) (dk_g tcX12_seeks_0 10 rfl) rfl rfl
theorem dX12_seeks_11 : decode cX12_seeks 11 = .ok (.return_, 1) := dk_1177 (dk_g tcX12_seeks_0 11 rfl)
theorem tcX12_seeks_1 : (cX12_seeks.data.toList.drop 12).take 12 = [42, 180, 1, 140, 154, 0, 13, 42, 27, 181, 1, 143] := by decide +kernel
theorem dX12_seeks_12 : decode cX12_seeks 12 = .ok (.aload_n 0, 1) := dk_1042 (dk_g tcX12_seeks_1 0 rfl)
theorem dX12_seeks_13 : decode cX12_seeks 13 = .ok (.getfield 396, 3) := dk_1180 (dk_g tcX12_seeks_1 1 rfl) (dk_g tcX12_seeks_1 2 rfl) (dk_g tcX12_seeks_1 3 rfl) rfl
theorem dX12_seeks_16 : decode cX12_seeks 16 = .ok (.ifCond .ne 13, 3) := dk_2154 (dk_g tcX12_seeks_1 4 rfl) (dk_g tcX12_seeks_1 5 rfl) (dk_g tcX12_seeks_1 6 rfl) rfl rfl
theorem dX12_seeks_19 : decode cX12_seeks 19 = .ok (.aload_n 0, 1) := dk_1042 (dk_g tcX12_seeks_1 7 rfl)
theorem dX12_seeks_20 : decode cX12_seeks 20 = .ok (.iload_n 1, 1) := dk_1027 (dk_g tcX12_seeks_1 8 rfl)
theorem dX12_seeks_21 : decode cX12_seeks 21 = .ok (.putfield 399, 3) := dk_1181 (dk_g tcX12_seeks_1 9 rfl) (dk_g tcX12_seeks_1 10 rfl) (dk_g tcX12_seeks_1 11 rfl) rfl
theorem tcX12_seeks_2 : (cX12_seeks.data.toList.drop 24).take 12 = [42, 28, 181, 1, 146, 42, 89, 180, 1, 140, 4, 100] := by decide +kernel
theorem dX12_seeks_24 : decode cX12_seeks 24 = .ok (.aload_n 0, 1) := dk_1042 (dk_g tcX12_seeks_2 0 rfl)
theorem dX12_seeks_25 : decode cX12_seeks 25 = .ok (.iload_n 2, 1) := dk_1028 (dk_g tcX12_seeks_2 1 rfl)
theorem dX12_seeks_26 : decode cX12_seeks 26 = .ok (.putfield 402, 3) := dk_1181 (dk_g tcX12_seeks_2 2 rfl) (dk_g tcX12_seeks_2 3 rfl) (dk_g tcX12_seeks_2 4 rfl) rfl
theorem dX12_seeks_29 : decode cX12_seeks 29 = .ok (.aload_n 0, 1) := dk_1042 (dk_g tcX12_seeks_2 5 rfl)
theorem dX12_seeks_30 : decode cX12_seeks 30 = .ok (.dup, 1) := dk_1089 (dk_g tcX12_seeks_2 6 rfl)
theorem dX12_seeks_31 : decode cX12_seeks 31 = .ok (.getfield 396, 3) := dk_1180 (dk_g tcX12_seeks_2 7 rfl) (dk_g tcX12_seeks_2 8 rfl) (dk_g tcX12_seeks_2 9 rfl) rfl
theorem dX12_seeks_34 : decode cX12_seeks 34 = .ok (.iconst 1, 1) := dk_1004 (dk_g tcX12_seeks_2 10 rfl)
theorem dX12_seeks_35 : decode cX12_seeks 35 = .ok (.isub, 1) := dk_1100 (dk_g tcX12_seeks_2 11 rfl)
theorem tcX12_seeks_3 : (cX12_seeks.data.toList.drop 36).take 12 = [181, 1, 140, 28, 4, 160, 0, 4, 177, 28, 184, 0] := by decide +kernel
theorem dX12_seeks_36 : decode cX12_seeks 36 = .ok (.putfield 396, 3) := dk_1181 (dk_g tcX12_seeks_3 0 rfl) (dk_g tcX12_seeks_3 1 rfl) (dk_g tcX12_seeks_3 2 rfl) rfl
theorem dX12_seeks_39 : decode cX12_seeks 39 = .ok (.iload_n 2, 1) := dk_1028 (dk_g tcX12_seeks_3 3 rfl)
theorem dX12_seeks_40 : decode cX12_seeks 40 = .ok (.iconst 1, 1) := dk_1004 (dk_g tcX12_seeks_3 4 rfl)
theorem dX12_seeks_41 : decode cX12_seeks 41 = .ok (.if_icmp .ne 4, 3) := dk_2160 (dk_g tcX12_seeks_3 5 rfl) (dk_g tcX12_seeks_3 6 rfl) (dk_g tcX12_seeks_3 7 rfl) rfl rfl
theorem dX12_seeks_44 : decode cX12_seeks 44 = .ok (.return_, 1) := dk_1177 (dk_g tcX12_seeks_3 8 rfl)
theorem dX12_seeks_45 : decode cX12_seeks 45 = .ok (.iload_n 2, 1) := dk_1028 (dk_g tcX12_seeks_3 9 rfl)
theorem tcX12_seeks_4 : (cX12_seeks.data.toList.drop 48).take 12 = [128, 62, 42, 27, 29, 182, 1, 149, 42, 27, 29, 96] := by decide +kernel
theorem dX12_seeks_46 : decode cX12_seeks 46 = .ok (.invokestatic 128, 3) := dk_1184 (dk_g tcX12_seeks_3 10 rfl) (dk_g tcX12_seeks_3 11 rfl) (dk_g tcX12_seeks_4 0 rfl) rfl
theorem dX12_seeks_49 : decode cX12_seeks 49 = .ok (.istore_n 3, 1) := dk_1062 (dk_g tcX12_seeks_4 1 rfl)
theorem dX12_seeks_50 : decode cX12_seeks 50 = .ok (.aload_n 0, 1) := dk_1042 (dk_g tcX12_seeks_4 2 rfl)
theorem dX12_seeks_51 : decode cX12_seeks 51 = .ok (.iload_n 1, 1) := dk_1027 (dk_g tcX12_seeks_4 3 rfl)
theorem dX12_seeks_52 : decode cX12_seeks 52 = .ok (.iload_n 3, 1) := dk_1029 (dk_g tcX12_seeks_4 4 rfl)
theorem dX12_seeks_53 : decode cX12_seeks 53 = .ok (.invokevirtual 405, 3) := dk_1182 (dk_g tcX12_seeks_4 5 rfl) (dk_g tcX12_seeks_4 6 rfl) (dk_g tcX12_seeks_4 7 rfl) rfl
theorem dX12_seeks_56 : decode cX12_seeks 56 = .ok (.aload_n 0, 1) := dk_1042 (dk_g tcX12_seeks_4 8 rfl)
theorem dX12_seeks_57 : decode cX12_seeks 57 = .ok (.iload_n 1, 1) := dk_1027 (dk_g tcX12_seeks_4 9 rfl)
theorem dX12_seeks_58 : decode cX12_seeks 58 = .ok (.iload_n 3, 1) := dk_1029 (dk_g tcX12_seeks_4 10 rfl)
theorem dX12_seeks_59 : decode cX12_seeks 59 = .ok (.iadd, 1) := dk_1096 (dk_g tcX12_seeks_4 11 rfl)
theorem tcX12_seeks_5 : (cX12_seeks.data.toList.drop 60).take 12 = [28, 29, 100, 182, 1, 149, 177] := by decide +kernel
theorem dX12_seeks_60 : decode cX12_seeks 60 = .ok (.iload_n 2, 1) := dk_1028 (dk_g tcX12_seeks_5 0 rfl)
theorem dX12_seeks_61 : decode cX12_seeks 61 = .ok (.iload_n 3, 1) := dk_1029 (dk_g tcX12_seeks_5 1 rfl)
theorem dX12_seeks_62 : decode cX12_seeks 62 = .ok (.isub, 1) := dk_1100 (dk_g tcX12_seeks_5 2 rfl)
theorem dX12_seeks_63 : decode cX12_seeks 63 = .ok (.invokevirtual 405, 3) := dk_1182 (dk_g tcX12_seeks_5 3 rfl) (dk_g tcX12_seeks_5 4 rfl) (dk_g tcX12_seeks_5 5 rfl) rfl
theorem dX12_seeks_66 : decode cX12_seeks 66 = .ok (.return_, 1) := dk_1177 (dk_g tcX12_seeks_5 6 rfl)
theorem tcX12_tree_0 : (cX12_tree.data.toList.drop 0).take 12 = [42, 29, 155, 0, 13, 21, 4, 3, 5, 184, 0, 113] := by decide +kernel
theorem dX12_tree_0 : decode cX12_tree 0 = .ok (.aload_n 0, 1) := dk_1042 (dk_g tcX12_tree_0 0 rfl)
theorem dX12_tree_1 : decode cX12_tree 1 = .ok (.iload_n 3, 1) := dk_1029 (dk_g tcX12_tree_0 1 rfl)
theorem dX12_tree_2 : decode cX12_tree 2 = .ok (.ifCond .lt 13, 3) := dk_2155 (dk_g tcX12_tree_0 2 rfl) (dk_g tcX12_tree_0 3 rfl) (dk_g tcX12_tree_0 4 rfl) rfl rfl
theorem dX12_tree_5 : decode cX12_tree 5 = .ok (.iload 4, 2) := dk_1021 (dk_g tcX12_tree_0 5 rfl) (dk_g tcX12_tree_0 6 rfl) rfl
theorem dX12_tree_7 : decode cX12_tree 7 = .ok (.iconst 0, 1) := dk_1003 (dk_g tcX12_tree_0 7 rfl)
theorem dX12_tree_8 : decode cX12_tree 8 = .ok (.iconst 2, 1) := dk_1005 (dk_g tcX12_tree_0 8 rfl)
theorem dX12_tree_9 : decode cX12_tree 9 = .ok (.invokestatic 113, 3) := dk_1184 (dk_g tcX12_tree_0 9 rfl) (dk_g tcX12_tree_0 10 rfl) (dk_g tcX12_tree_0 11 rfl) rfl
theorem tcX12_tree_1 : (cX12_tree.data.toList.drop 12).take 12 = [154, 0, 7, 4, 167, 0, 9, 42, 27, 28, 182, 1] := by decide +kernel
theorem dX12_tree_12 : decode cX12_tree 12 = .ok (.ifCond .ne 7, 3) := dk_2154 (dk_g tcX12_tree_1 0 rfl) (dk_g tcX12_tree_1 1 rfl) (dk_g tcX12_tree_1 2 rfl) rfl rfl
theorem dX12_tree_15 : decode cX12_tree 15 = .ok (.iconst 1, 1) := dk_1004 (dk_g tcX12_tree_1 3 rfl)
theorem dX12_tree_16 : decode cX12_tree 16 = .ok (.goto 9, 3) := dk_2167 (dk_g tcX12_tree_1 4 rfl) (dk_g tcX12_tree_1 5 rfl) (dk_g tcX12_tree_1 6 rfl) rfl rfl
theorem dX12_tree_19 : decode cX12_tree 19 = .ok (.aload_n 0, 1) := dk_1042 (dk_g tcX12_tree_1 7 rfl)
theorem dX12_tree_20 : decode cX12_tree 20 = .ok (.iload_n 1, 1) := dk_1027 (dk_g tcX12_tree_1 8 rfl)
theorem dX12_tree_21 : decode cX12_tree 21 = .ok (.iload_n 2, 1) := dk_1028 (dk_g tcX12_tree_1 9 rfl)
theorem tcX12_tree_2 : (cX12_tree.data.toList.drop 24).take 12 = [91, 182, 1, 53, 154, 0, 5, 2, 172, 42, 29, 181] := by decide +kernel
theorem dX12_tree_22 : decode cX12_tree 22 = .ok (.invokevirtual 347, 3) := dk_1182 (dk_g tcX12_tree_1 10 rfl) (dk_g tcX12_tree_1 11 rfl) (dk_g tcX12_tree_2 0 rfl) rfl
theorem dX12_tree_25 : decode cX12_tree 25 = .ok (.invokevirtual 309, 3) := dk_1182 (dk_g tcX12_tree_2 1 rfl) (dk_g tcX12_tree_2 2 rfl) (dk_g tcX12_tree_2 3 rfl) rfl
theorem dX12_tree_28 : decode cX12_tree 28 = .ok (.ifCond .ne 5, 3) := dk_2154 (dk_g tcX12_tree_2 4 rfl) (dk_g tcX12_tree_2 5 rfl) (dk_g tcX12_tree_2 6 rfl) rfl rfl
theorem dX12_tree_31 : decode cX12_tree 31 = .ok (.iconst (-1), 1) := dk_1002 (dk_g tcX12_tree_2 7 rfl)
theorem dX12_tree_32 : decode cX12_tree 32 = .ok (.ireturn, 1) := dk_1172 (dk_g tcX12_tree_2 8 rfl)
theorem dX12_tree_33 : decode cX12_tree 33 = .ok (.aload_n 0, 1) := dk_1042 (dk_g tcX12_tree_2 9 rfl)
theorem dX12_tree_34 : decode cX12_tree 34 = .ok (.iload_n 3, 1) := dk_1029 (dk_g tcX12_tree_2 10 rfl)
theorem tcX12_tree_3 : (cX12_tree.data.toList.drop 36).take 12 = [1, 140, 42, 3, 28, 182, 1, 149, 42, 180, 1, 140] := by decide +kernel
theorem dX12_tree_35 : decode cX12_tree 35 = .ok (.putfield 396, 3) := dk_1181 (dk_g tcX12_tree_2 11 rfl) (dk_g tcX12_tree_3 0 rfl) (dk_g tcX12_tree_3 1 rfl) rfl
theorem dX12_tree_38 : decode cX12_tree 38 = .ok (.aload_n 0, 1) := dk_1042 (dk_g tcX12_tree_3 2 rfl)
theorem dX12_tree_39 : decode cX12_tree 39 = .ok (.iconst 0, 1) := dk_1003 (dk_g tcX12_tree_3 3 rfl)
theorem dX12_tree_40 : decode cX12_tree 40 = .ok (.iload_n 2, 1) := dk_1028 (dk_g tcX12_tree_3 4 rfl)
theorem dX12_tree_41 : decode cX12_tree 41 = .ok (.invokevirtual 405, 3) := dk_1182 (dk_g tcX12_tree_3 5 rfl) (dk_g tcX12_tree_3 6 rfl) (dk_g tcX12_tree_3 7 rfl) rfl
theorem dX12_tree_44 : decode cX12_tree 44 = .ok (.aload_n 0, 1) := dk_1042 (dk_g tcX12_tree_3 8 rfl)
theorem dX12_tree_45 : decode cX12_tree 45 = .ok (.getfield 396, 3) := dk_1180 (dk_g tcX12_tree_3 9 rfl) (dk_g tcX12_tree_3 10 rfl) (dk_g tcX12_tree_3 11 rfl) rfl
theorem tcX12_tree_4 : (cX12_tree.data.toList.drop 48).take 12 = [155, 0, 9, 42, 8, 182, 0, 212, 172, 21, 4, 154] := by decide +kernel
theorem dX12_tree_48 : decode cX12_tree 48 = .ok (.ifCond .lt 9, 3) := dk_2155 (dk_g tcX12_tree_4 0 rfl) (dk_g tcX12_tree_4 1 rfl) (dk_g tcX12_tree_4 2 rfl) rfl rfl
theorem dX12_tree_51 : decode cX12_tree 51 = .ok (.aload_n 0, 1) := dk_1042 (dk_g tcX12_tree_4 3 rfl)
theorem dX12_tree_52 : decode cX12_tree 52 = .ok (.iconst 5, 1) := dk_1008 (dk_g tcX12_tree_4 4 rfl)
theorem dX12_tree_53 : decode cX12_tree 53 = .ok (.invokevirtual 212, 3) := dk_1182 (dk_g tcX12_tree_4 5 rfl) (dk_g tcX12_tree_4 6 rfl) (dk_g tcX12_tree_4 7 rfl) rfl
theorem dX12_tree_56 : decode cX12_tree 56 = .ok (.ireturn, 1) := dk_1172 (dk_g tcX12_tree_4 8 rfl)
theorem dX12_tree_57 : decode cX12_tree 57 = .ok (.iload 4, 2) := dk_1021 (dk_g tcX12_tree_4 9 rfl) (dk_g tcX12_tree_4 10 rfl) rfl
theorem tcX12_tree_5 : (cX12_tree.data.toList.drop 60).take 12 = [0, 10, 42, 180, 1, 143, 167, 0, 29, 21, 4, 4] := by decide +kernel
theorem dX12_tree_59 : decode cX12_tree 59 = .ok (.ifCond .ne 10, 3) := dk_2154 (dk_g tcX12_tree_4 11 rfl) (dk_g tcX12_tree_5 0 rfl) (dk_g tcX12_tree_5 1 rfl) rfl rfl
theorem dX12_tree_62 : decode cX12_tree 62 = .ok (.aload_n 0, 1) := dk_1042 (dk_g tcX12_tree_5 2 rfl)
theorem dX12_tree_63 : decode cX12_tree 63 = .ok (.getfield 399, 3) := dk_1180 (dk_g tcX12_tree_5 3 rfl) (dk_g tcX12_tree_5 4 rfl) (dk_g tcX12_tree_5 5 rfl) rfl
theorem dX12_tree_66 : decode cX12_tree 66 = .ok (.goto 29, 3) := dk_2167 (dk_g tcX12_tree_5 6 rfl) (dk_g tcX12_tree_5 7 rfl) (dk_g tcX12_tree_5 8 rfl) rfl rfl
theorem dX12_tree_69 : decode cX12_tree 69 = .ok (.iload 4, 2) := dk_1021 (dk_g tcX12_tree_5 9 rfl) (dk_g tcX12_tree_5 10 rfl) rfl
theorem dX12_tree_71 : decode cX12_tree 71 = .ok (.iconst 1, 1) := dk_1004 (dk_g tcX12_tree_5 11 rfl)
theorem tcX12_tree_6 : (cX12_tree.data.toList.drop 72).take 12 = [160, 0, 10, 42, 180, 1, 146, 167, 0, 16, 42, 27] := by decide +kernel
theorem dX12_tree_72 : decode cX12_tree 72 = .ok (.if_icmp .ne 10, 3) := dk_2160 (dk_g tcX12_tree_6 0 rfl) (dk_g tcX12_tree_6 1 rfl) (dk_g tcX12_tree_6 2 rfl) rfl rfl
theorem dX12_tree_75 : decode cX12_tree 75 = .ok (.aload_n 0, 1) := dk_1042 (dk_g tcX12_tree_6 3 rfl)
theorem dX12_tree_76 : decode cX12_tree 76 = .ok (.getfield 402, 3) := dk_1180 (dk_g tcX12_tree_6 4 rfl) (dk_g tcX12_tree_6 5 rfl) (dk_g tcX12_tree_6 6 rfl) rfl
theorem dX12_tree_79 : decode cX12_tree 79 = .ok (.goto 16, 3) := dk_2167 (dk_g tcX12_tree_6 7 rfl) (dk_g tcX12_tree_6 8 rfl) (dk_g tcX12_tree_6 9 rfl) rfl rfl
theorem dX12_tree_82 : decode cX12_tree 82 = .ok (.aload_n 0, 1) := dk_1042 (dk_g tcX12_tree_6 10 rfl)
theorem dX12_tree_83 : decode cX12_tree 83 = .ok (.iload_n 1, 1) := dk_1027 (dk_g tcX12_tree_6 11 rfl)
theorem tcX12_tree_7 : (cX12_tree.data.toList.drop 84).take 12 = [42, 180, 1, 143, 42, 180, 1, 146, 182, 0, 132, 172] := by decide +kernel
theorem dX12_tree_84 : decode cX12_tree 84 = .ok (.aload_n 0, 1) := dk_1042 (dk_g tcX12_tree_7 0 rfl)
theorem dX12_tree_85 : decode cX12_tree 85 = .ok (.getfield 399, 3) := dk_1180 (dk_g tcX12_tree_7 1 rfl) (dk_g tcX12_tree_7 2 rfl) (dk_g tcX12_tree_7 3 rfl) rfl
theorem dX12_tree_88 : decode cX12_tree 88 = .ok (.aload_n 0, 1) := dk_1042 (dk_g tcX12_tree_7 4 rfl)
theorem dX12_tree_89 : decode cX12_tree 89 = .ok (.getfield 402, 3) := dk_1180 (dk_g tcX12_tree_7 5 rfl) (dk_g tcX12_tree_7 6 rfl) (dk_g tcX12_tree_7 7 rfl) rfl
theorem dX12_tree_92 : decode cX12_tree 92 = .ok (.invokevirtual 132, 3) := dk_1182 (dk_g tcX12_tree_7 8 rfl) (dk_g tcX12_tree_7 9 rfl) (dk_g tcX12_tree_7 10 rfl) rfl
theorem dX12_tree_95 : decode cX12_tree 95 = .ok (.ireturn, 1) := dk_1172 (dk_g tcX12_tree_7 11 rfl)
theorem tcX12_proves_0 : (cX12_proves.data.toList.drop 0).take 12 = [42, 27, 155, 0, 7, 28, 156, 0, 7, 4, 167, 0] := by decide +kernel
theorem dX12_proves_0 : decode cX12_proves 0 = .ok (.aload_n 0, 1) := dk_1042 (dk_g tcX12_proves_0 0 rfl)
theorem dX12_proves_1 : decode cX12_proves 1 = .ok (.iload_n 1, 1) := dk_1027 (dk_g tcX12_proves_0 1 rfl)
theorem dX12_proves_2 : decode cX12_proves 2 = .ok (.ifCond .lt 7, 3) := dk_2155 (dk_g tcX12_proves_0 2 rfl) (dk_g tcX12_proves_0 3 rfl) (dk_g tcX12_proves_0 4 rfl) rfl rfl
theorem dX12_proves_5 : decode cX12_proves 5 = .ok (.iload_n 2, 1) := dk_1028 (dk_g tcX12_proves_0 5 rfl)
theorem dX12_proves_6 : decode cX12_proves 6 = .ok (.ifCond .ge 7, 3) := dk_2156 (dk_g tcX12_proves_0 6 rfl) (dk_g tcX12_proves_0 7 rfl) (dk_g tcX12_proves_0 8 rfl) rfl rfl
theorem dX12_proves_9 : decode cX12_proves 9 = .ok (.iconst 1, 1) := dk_1004 (dk_g tcX12_proves_0 9 rfl)
theorem tcX12_proves_1 : (cX12_proves.data.toList.drop 12).take 12 = [47, 27, 42, 180, 0, 7, 6, 46, 162, 0, 13, 28] := by decide +kernel
theorem dX12_proves_10 : decode cX12_proves 10 = .ok (.goto 47, 3) := dk_2167 (dk_g tcX12_proves_0 10 rfl) (dk_g tcX12_proves_0 11 rfl) (dk_g tcX12_proves_1 0 rfl) rfl rfl
theorem dX12_proves_13 : decode cX12_proves 13 = .ok (.iload_n 1, 1) := dk_1027 (dk_g tcX12_proves_1 1 rfl)
theorem dX12_proves_14 : decode cX12_proves 14 = .ok (.aload_n 0, 1) := dk_1042 (dk_g tcX12_proves_1 2 rfl)
theorem dX12_proves_15 : decode cX12_proves 15 = .ok (.getfield 7, 3) := dk_1180 (dk_g tcX12_proves_1 3 rfl) (dk_g tcX12_proves_1 4 rfl) (dk_g tcX12_proves_1 5 rfl) rfl
theorem dX12_proves_18 : decode cX12_proves 18 = .ok (.iconst 3, 1) := dk_1006 (dk_g tcX12_proves_1 6 rfl)
theorem dX12_proves_19 : decode cX12_proves 19 = .ok (.iaload, 1) := dk_1046 (dk_g tcX12_proves_1 7 rfl)
theorem dX12_proves_20 : decode cX12_proves 20 = .ok (.if_icmp .ge 13, 3) := dk_2162 (dk_g tcX12_proves_1 8 rfl) (dk_g tcX12_proves_1 9 rfl) (dk_g tcX12_proves_1 10 rfl) rfl rfl
theorem dX12_proves_23 : decode cX12_proves 23 = .ok (.iload_n 2, 1) := dk_1028 (dk_g tcX12_proves_1 11 rfl)
theorem tcX12_proves_2 : (cX12_proves.data.toList.drop 24).take 12 = [42, 180, 0, 7, 6, 46, 161, 0, 7, 8, 167, 0] := by decide +kernel
theorem dX12_proves_24 : decode cX12_proves 24 = .ok (.aload_n 0, 1) := dk_1042 (dk_g tcX12_proves_2 0 rfl)
theorem dX12_proves_25 : decode cX12_proves 25 = .ok (.getfield 7, 3) := dk_1180 (dk_g tcX12_proves_2 1 rfl) (dk_g tcX12_proves_2 2 rfl) (dk_g tcX12_proves_2 3 rfl) rfl
theorem dX12_proves_28 : decode cX12_proves 28 = .ok (.iconst 3, 1) := dk_1006 (dk_g tcX12_proves_2 4 rfl)
theorem dX12_proves_29 : decode cX12_proves 29 = .ok (.iaload, 1) := dk_1046 (dk_g tcX12_proves_2 5 rfl)
theorem dX12_proves_30 : decode cX12_proves 30 = .ok (.if_icmp .lt 7, 3) := dk_2161 (dk_g tcX12_proves_2 6 rfl) (dk_g tcX12_proves_2 7 rfl) (dk_g tcX12_proves_2 8 rfl) rfl rfl
theorem dX12_proves_33 : decode cX12_proves 33 = .ok (.iconst 5, 1) := dk_1008 (dk_g tcX12_proves_2 9 rfl)
theorem tcX12_proves_3 : (cX12_proves.data.toList.drop 36).take 12 = [23, 42, 27, 4, 182, 1, 94, 42, 28, 4, 182, 1] := by decide +kernel
theorem dX12_proves_34 : decode cX12_proves 34 = .ok (.goto 23, 3) := dk_2167 (dk_g tcX12_proves_2 10 rfl) (dk_g tcX12_proves_2 11 rfl) (dk_g tcX12_proves_3 0 rfl) rfl rfl
theorem dX12_proves_37 : decode cX12_proves 37 = .ok (.aload_n 0, 1) := dk_1042 (dk_g tcX12_proves_3 1 rfl)
theorem dX12_proves_38 : decode cX12_proves 38 = .ok (.iload_n 1, 1) := dk_1027 (dk_g tcX12_proves_3 2 rfl)
theorem dX12_proves_39 : decode cX12_proves 39 = .ok (.iconst 1, 1) := dk_1004 (dk_g tcX12_proves_3 3 rfl)
theorem dX12_proves_40 : decode cX12_proves 40 = .ok (.invokevirtual 350, 3) := dk_1182 (dk_g tcX12_proves_3 4 rfl) (dk_g tcX12_proves_3 5 rfl) (dk_g tcX12_proves_3 6 rfl) rfl
theorem dX12_proves_43 : decode cX12_proves 43 = .ok (.aload_n 0, 1) := dk_1042 (dk_g tcX12_proves_3 7 rfl)
theorem dX12_proves_44 : decode cX12_proves 44 = .ok (.iload_n 2, 1) := dk_1028 (dk_g tcX12_proves_3 8 rfl)
theorem dX12_proves_45 : decode cX12_proves 45 = .ok (.iconst 1, 1) := dk_1004 (dk_g tcX12_proves_3 9 rfl)
theorem tcX12_proves_4 : (cX12_proves.data.toList.drop 48).take 12 = [94, 164, 0, 7, 8, 167, 0, 4, 3, 182, 1, 53] := by decide +kernel
theorem dX12_proves_46 : decode cX12_proves 46 = .ok (.invokevirtual 350, 3) := dk_1182 (dk_g tcX12_proves_3 10 rfl) (dk_g tcX12_proves_3 11 rfl) (dk_g tcX12_proves_4 0 rfl) rfl
theorem dX12_proves_49 : decode cX12_proves 49 = .ok (.if_icmp .le 7, 3) := dk_2164 (dk_g tcX12_proves_4 1 rfl) (dk_g tcX12_proves_4 2 rfl) (dk_g tcX12_proves_4 3 rfl) rfl rfl
theorem dX12_proves_52 : decode cX12_proves 52 = .ok (.iconst 5, 1) := dk_1008 (dk_g tcX12_proves_4 4 rfl)
theorem dX12_proves_53 : decode cX12_proves 53 = .ok (.goto 4, 3) := dk_2167 (dk_g tcX12_proves_4 5 rfl) (dk_g tcX12_proves_4 6 rfl) (dk_g tcX12_proves_4 7 rfl) rfl rfl
theorem dX12_proves_56 : decode cX12_proves 56 = .ok (.iconst 0, 1) := dk_1003 (dk_g tcX12_proves_4 8 rfl)
theorem dX12_proves_57 : decode cX12_proves 57 = .ok (.invokevirtual 309, 3) := dk_1182 (dk_g tcX12_proves_4 9 rfl) (dk_g tcX12_proves_4 10 rfl) (dk_g tcX12_proves_4 11 rfl) rfl
theorem tcX12_proves_5 : (cX12_proves.data.toList.drop 60).take 12 = [154, 0, 5, 2, 172, 42, 42, 28, 3, 182, 1, 94] := by decide +kernel
theorem dX12_proves_60 : decode cX12_proves 60 = .ok (.ifCond .ne 5, 3) := dk_2154 (dk_g tcX12_proves_5 0 rfl) (dk_g tcX12_proves_5 1 rfl) (dk_g tcX12_proves_5 2 rfl) rfl rfl
theorem dX12_proves_63 : decode cX12_proves 63 = .ok (.iconst (-1), 1) := dk_1002 (dk_g tcX12_proves_5 3 rfl)
theorem dX12_proves_64 : decode cX12_proves 64 = .ok (.ireturn, 1) := dk_1172 (dk_g tcX12_proves_5 4 rfl)
theorem dX12_proves_65 : decode cX12_proves 65 = .ok (.aload_n 0, 1) := dk_1042 (dk_g tcX12_proves_5 5 rfl)
theorem dX12_proves_66 : decode cX12_proves 66 = .ok (.aload_n 0, 1) := dk_1042 (dk_g tcX12_proves_5 6 rfl)
theorem dX12_proves_67 : decode cX12_proves 67 = .ok (.iload_n 2, 1) := dk_1028 (dk_g tcX12_proves_5 7 rfl)
theorem dX12_proves_68 : decode cX12_proves 68 = .ok (.iconst 0, 1) := dk_1003 (dk_g tcX12_proves_5 8 rfl)
theorem dX12_proves_69 : decode cX12_proves 69 = .ok (.invokevirtual 350, 3) := dk_1182 (dk_g tcX12_proves_5 9 rfl) (dk_g tcX12_proves_5 10 rfl) (dk_g tcX12_proves_5 11 rfl) rfl
theorem tcX12_proves_6 : (cX12_proves.data.toList.drop 72).take 12 = [42, 27, 4, 182, 1, 94, 42, 27, 5, 182, 1, 94] := by decide +kernel
theorem dX12_proves_72 : decode cX12_proves 72 = .ok (.aload_n 0, 1) := dk_1042 (dk_g tcX12_proves_6 0 rfl)
theorem dX12_proves_73 : decode cX12_proves 73 = .ok (.iload_n 1, 1) := dk_1027 (dk_g tcX12_proves_6 1 rfl)
theorem dX12_proves_74 : decode cX12_proves 74 = .ok (.iconst 1, 1) := dk_1004 (dk_g tcX12_proves_6 2 rfl)
theorem dX12_proves_75 : decode cX12_proves 75 = .ok (.invokevirtual 350, 3) := dk_1182 (dk_g tcX12_proves_6 3 rfl) (dk_g tcX12_proves_6 4 rfl) (dk_g tcX12_proves_6 5 rfl) rfl
theorem dX12_proves_78 : decode cX12_proves 78 = .ok (.aload_n 0, 1) := dk_1042 (dk_g tcX12_proves_6 6 rfl)
theorem dX12_proves_79 : decode cX12_proves 79 = .ok (.iload_n 1, 1) := dk_1027 (dk_g tcX12_proves_6 7 rfl)
theorem dX12_proves_80 : decode cX12_proves 80 = .ok (.iconst 2, 1) := dk_1005 (dk_g tcX12_proves_6 8 rfl)
theorem dX12_proves_81 : decode cX12_proves 81 = .ok (.invokevirtual 350, 3) := dk_1182 (dk_g tcX12_proves_6 9 rfl) (dk_g tcX12_proves_6 10 rfl) (dk_g tcX12_proves_6 11 rfl) rfl
theorem tcX12_proves_7 : (cX12_proves.data.toList.drop 84).take 12 = [42, 28, 4, 182, 1, 94, 42, 28, 5, 182, 1, 94] := by decide +kernel
theorem dX12_proves_84 : decode cX12_proves 84 = .ok (.aload_n 0, 1) := dk_1042 (dk_g tcX12_proves_7 0 rfl)
theorem dX12_proves_85 : decode cX12_proves 85 = .ok (.iload_n 2, 1) := dk_1028 (dk_g tcX12_proves_7 1 rfl)
theorem dX12_proves_86 : decode cX12_proves 86 = .ok (.iconst 1, 1) := dk_1004 (dk_g tcX12_proves_7 2 rfl)
theorem dX12_proves_87 : decode cX12_proves 87 = .ok (.invokevirtual 350, 3) := dk_1182 (dk_g tcX12_proves_7 3 rfl) (dk_g tcX12_proves_7 4 rfl) (dk_g tcX12_proves_7 5 rfl) rfl
theorem dX12_proves_90 : decode cX12_proves 90 = .ok (.aload_n 0, 1) := dk_1042 (dk_g tcX12_proves_7 6 rfl)
theorem dX12_proves_91 : decode cX12_proves 91 = .ok (.iload_n 2, 1) := dk_1028 (dk_g tcX12_proves_7 7 rfl)
theorem dX12_proves_92 : decode cX12_proves 92 = .ok (.iconst 2, 1) := dk_1005 (dk_g tcX12_proves_7 8 rfl)
theorem dX12_proves_93 : decode cX12_proves 93 = .ok (.invokevirtual 350, 3) := dk_1182 (dk_g tcX12_proves_7 9 rfl) (dk_g tcX12_proves_7 10 rfl) (dk_g tcX12_proves_7 11 rfl) rfl
theorem tcX12_proves_8 : (cX12_proves.data.toList.drop 96).take 12 = [182, 0, 224, 172] := by decide +kernel
theorem dX12_proves_96 : decode cX12_proves 96 = .ok (.invokevirtual 224, 3) := dk_1182 (dk_g tcX12_proves_8 0 rfl) (dk_g tcX12_proves_8 1 rfl) (dk_g tcX12_proves_8 2 rfl) rfl
theorem dX12_proves_99 : decode cX12_proves 99 = .ok (.ireturn, 1) := dk_1172 (dk_g tcX12_proves_8 3 rfl)
theorem tcX12_longest_0 : (cX12_longest.data.toList.drop 0).take 12 = [42, 27, 4, 17, 2, 0, 184, 0, 113, 153, 0, 16] := by decide +kernel
theorem dX12_longest_0 : decode cX12_longest 0 = .ok (.aload_n 0, 1) := dk_1042 (dk_g tcX12_longest_0 0 rfl)
theorem dX12_longest_1 : decode cX12_longest 1 = .ok (.iload_n 1, 1) := dk_1027 (dk_g tcX12_longest_0 1 rfl)
theorem dX12_longest_2 : decode cX12_longest 2 = .ok (.iconst 1, 1) := dk_1004 (dk_g tcX12_longest_0 2 rfl)
theorem dX12_longest_3 : decode cX12_longest 3 = .ok (.sipush 512, 3) := dk_2017 (dk_g tcX12_longest_0 3 rfl) (dk_g tcX12_longest_0 4 rfl) (dk_g tcX12_longest_0 5 rfl) rfl rfl
theorem dX12_longest_6 : decode cX12_longest 6 = .ok (.invokestatic 113, 3) := dk_1184 (dk_g tcX12_longest_0 6 rfl) (dk_g tcX12_longest_0 7 rfl) (dk_g tcX12_longest_0 8 rfl) rfl
theorem dX12_longest_9 : decode cX12_longest 9 = .ok (.ifCond .eq 16, 3) := dk_2153 (dk_g tcX12_longest_0 9 rfl) (dk_g tcX12_longest_0 10 rfl) (dk_g tcX12_longest_0 11 rfl) rfl rfl
theorem tcX12_longest_1 : (cX12_longest.data.toList.drop 12).take 12 = [28, 3, 5, 184, 0, 113, 153, 0, 7, 3, 167, 0] := by decide +kernel
theorem dX12_longest_12 : decode cX12_longest 12 = .ok (.iload_n 2, 1) := dk_1028 (dk_g tcX12_longest_1 0 rfl)
theorem dX12_longest_13 : decode cX12_longest 13 = .ok (.iconst 0, 1) := dk_1003 (dk_g tcX12_longest_1 1 rfl)
theorem dX12_longest_14 : decode cX12_longest 14 = .ok (.iconst 2, 1) := dk_1005 (dk_g tcX12_longest_1 2 rfl)
theorem dX12_longest_15 : decode cX12_longest 15 = .ok (.invokestatic 113, 3) := dk_1184 (dk_g tcX12_longest_1 3 rfl) (dk_g tcX12_longest_1 4 rfl) (dk_g tcX12_longest_1 5 rfl) rfl
theorem dX12_longest_18 : decode cX12_longest 18 = .ok (.ifCond .eq 7, 3) := dk_2153 (dk_g tcX12_longest_1 6 rfl) (dk_g tcX12_longest_1 7 rfl) (dk_g tcX12_longest_1 8 rfl) rfl rfl
theorem dX12_longest_21 : decode cX12_longest 21 = .ok (.iconst 0, 1) := dk_1003 (dk_g tcX12_longest_1 9 rfl)
theorem tcX12_longest_2 : (cX12_longest.data.toList.drop 24).take 12 = [4, 4, 182, 1, 53, 154, 0, 5, 2, 172, 2, 62] := by decide +kernel
theorem dX12_longest_22 : decode cX12_longest 22 = .ok (.goto 4, 3) := dk_2167 (dk_g tcX12_longest_1 10 rfl) (dk_g tcX12_longest_1 11 rfl) (dk_g tcX12_longest_2 0 rfl) rfl rfl
theorem dX12_longest_25 : decode cX12_longest 25 = .ok (.iconst 1, 1) := dk_1004 (dk_g tcX12_longest_2 1 rfl)
theorem dX12_longest_26 : decode cX12_longest 26 = .ok (.invokevirtual 309, 3) := dk_1182 (dk_g tcX12_longest_2 2 rfl) (dk_g tcX12_longest_2 3 rfl) (dk_g tcX12_longest_2 4 rfl) rfl
theorem dX12_longest_29 : decode cX12_longest 29 = .ok (.ifCond .ne 5, 3) := dk_2154 (dk_g tcX12_longest_2 5 rfl) (dk_g tcX12_longest_2 6 rfl) (dk_g tcX12_longest_2 7 rfl) rfl rfl
theorem dX12_longest_32 : decode cX12_longest 32 = .ok (.iconst (-1), 1) := dk_1002 (dk_g tcX12_longest_2 8 rfl)
theorem dX12_longest_33 : decode cX12_longest 33 = .ok (.ireturn, 1) := dk_1172 (dk_g tcX12_longest_2 9 rfl)
theorem dX12_longest_34 : decode cX12_longest 34 = .ok (.iconst (-1), 1) := dk_1002 (dk_g tcX12_longest_2 10 rfl)
theorem dX12_longest_35 : decode cX12_longest 35 = .ok (.istore_n 3, 1) := dk_1062 (dk_g tcX12_longest_2 11 rfl)
theorem tcX12_longest_3 : (cX12_longest.data.toList.drop 36).take 12 = [3, 54, 4, 3, 54, 5, 3, 54, 6, 21, 6, 27] := by decide +kernel
theorem dX12_longest_36 : decode cX12_longest 36 = .ok (.iconst 0, 1) := dk_1003 (dk_g tcX12_longest_3 0 rfl)
theorem dX12_longest_37 : decode cX12_longest 37 = .ok (.istore 4, 2) := dk_1054 (dk_g tcX12_longest_3 1 rfl) (dk_g tcX12_longest_3 2 rfl) rfl
theorem dX12_longest_39 : decode cX12_longest 39 = .ok (.iconst 0, 1) := dk_1003 (dk_g tcX12_longest_3 3 rfl)
theorem dX12_longest_40 : decode cX12_longest 40 = .ok (.istore 5, 2) := dk_1054 (dk_g tcX12_longest_3 4 rfl) (dk_g tcX12_longest_3 5 rfl) rfl
theorem dX12_longest_42 : decode cX12_longest 42 = .ok (.iconst 0, 1) := dk_1003 (dk_g tcX12_longest_3 6 rfl)
theorem dX12_longest_43 : decode cX12_longest 43 = .ok (.istore 6, 2) := dk_1054 (dk_g tcX12_longest_3 7 rfl) (dk_g tcX12_longest_3 8 rfl) rfl
theorem dX12_longest_45 : decode cX12_longest 45 = .ok (.iload 6, 2) := dk_1021 (dk_g tcX12_longest_3 9 rfl) (dk_g tcX12_longest_3 10 rfl) rfl
theorem dX12_longest_47 : decode cX12_longest 47 = .ok (.iload_n 1, 1) := dk_1027 (dk_g tcX12_longest_3 11 rfl)
theorem tcX12_longest_4 : (cX12_longest.data.toList.drop 48).take 12 = [162, 0, 59, 42, 21, 6, 27, 182, 0, 171, 21, 5] := by decide +kernel
theorem dX12_longest_48 : decode cX12_longest 48 = .ok (.if_icmp .ge 59, 3) := dk_2162 (dk_g tcX12_longest_4 0 rfl) (dk_g tcX12_longest_4 1 rfl) (dk_g tcX12_longest_4 2 rfl) rfl rfl
theorem dX12_longest_51 : decode cX12_longest 51 = .ok (.aload_n 0, 1) := dk_1042 (dk_g tcX12_longest_4 3 rfl)
theorem dX12_longest_52 : decode cX12_longest 52 = .ok (.iload 6, 2) := dk_1021 (dk_g tcX12_longest_4 4 rfl) (dk_g tcX12_longest_4 5 rfl) rfl
theorem dX12_longest_54 : decode cX12_longest 54 = .ok (.iload_n 1, 1) := dk_1027 (dk_g tcX12_longest_4 6 rfl)
theorem dX12_longest_55 : decode cX12_longest 55 = .ok (.invokevirtual 171, 3) := dk_1182 (dk_g tcX12_longest_4 7 rfl) (dk_g tcX12_longest_4 8 rfl) (dk_g tcX12_longest_4 9 rfl) rfl
theorem dX12_longest_58 : decode cX12_longest 58 = .ok (.iload 5, 2) := dk_1021 (dk_g tcX12_longest_4 10 rfl) (dk_g tcX12_longest_4 11 rfl) rfl
theorem tcX12_longest_5 : (cX12_longest.data.toList.drop 60).take 12 = [42, 180, 0, 139, 96, 54, 5, 42, 180, 0, 139, 29] := by decide +kernel
theorem dX12_longest_60 : decode cX12_longest 60 = .ok (.aload_n 0, 1) := dk_1042 (dk_g tcX12_longest_5 0 rfl)
theorem dX12_longest_61 : decode cX12_longest 61 = .ok (.getfield 139, 3) := dk_1180 (dk_g tcX12_longest_5 1 rfl) (dk_g tcX12_longest_5 2 rfl) (dk_g tcX12_longest_5 3 rfl) rfl
theorem dX12_longest_64 : decode cX12_longest 64 = .ok (.iadd, 1) := dk_1096 (dk_g tcX12_longest_5 4 rfl)
theorem dX12_longest_65 : decode cX12_longest 65 = .ok (.istore 5, 2) := dk_1054 (dk_g tcX12_longest_5 5 rfl) (dk_g tcX12_longest_5 6 rfl) rfl
theorem dX12_longest_67 : decode cX12_longest 67 = .ok (.aload_n 0, 1) := dk_1042 (dk_g tcX12_longest_5 7 rfl)
theorem dX12_longest_68 : decode cX12_longest 68 = .ok (.getfield 139, 3) := dk_1180 (dk_g tcX12_longest_5 8 rfl) (dk_g tcX12_longest_5 9 rfl) (dk_g tcX12_longest_5 10 rfl) rfl
theorem dX12_longest_71 : decode cX12_longest 71 = .ok (.iload_n 3, 1) := dk_1029 (dk_g tcX12_longest_5 11 rfl)
theorem tcX12_longest_6 : (cX12_longest.data.toList.drop 72).take 12 = [164, 0, 8, 21, 6, 167, 0, 5, 21, 4, 54, 4] := by decide +kernel
theorem dX12_longest_72 : decode cX12_longest 72 = .ok (.if_icmp .le 8, 3) := dk_2164 (dk_g tcX12_longest_6 0 rfl) (dk_g tcX12_longest_6 1 rfl) (dk_g tcX12_longest_6 2 rfl) rfl rfl
theorem dX12_longest_75 : decode cX12_longest 75 = .ok (.iload 6, 2) := dk_1021 (dk_g tcX12_longest_6 3 rfl) (dk_g tcX12_longest_6 4 rfl) rfl
theorem dX12_longest_77 : decode cX12_longest 77 = .ok (.goto 5, 3) := dk_2167 (dk_g tcX12_longest_6 5 rfl) (dk_g tcX12_longest_6 6 rfl) (dk_g tcX12_longest_6 7 rfl) rfl rfl
theorem dX12_longest_80 : decode cX12_longest 80 = .ok (.iload 4, 2) := dk_1021 (dk_g tcX12_longest_6 8 rfl) (dk_g tcX12_longest_6 9 rfl) rfl
theorem dX12_longest_82 : decode cX12_longest 82 = .ok (.istore 4, 2) := dk_1054 (dk_g tcX12_longest_6 10 rfl) (dk_g tcX12_longest_6 11 rfl) rfl
theorem tcX12_longest_7 : (cX12_longest.data.toList.drop 84).take 12 = [42, 180, 0, 139, 29, 164, 0, 10, 42, 180, 0, 139] := by decide +kernel
theorem dX12_longest_84 : decode cX12_longest 84 = .ok (.aload_n 0, 1) := dk_1042 (dk_g tcX12_longest_7 0 rfl)
theorem dX12_longest_85 : decode cX12_longest 85 = .ok (.getfield 139, 3) := dk_1180 (dk_g tcX12_longest_7 1 rfl) (dk_g tcX12_longest_7 2 rfl) (dk_g tcX12_longest_7 3 rfl) rfl
theorem dX12_longest_88 : decode cX12_longest 88 = .ok (.iload_n 3, 1) := dk_1029 (dk_g tcX12_longest_7 4 rfl)
theorem dX12_longest_89 : decode cX12_longest 89 = .ok (.if_icmp .le 10, 3) := dk_2164 (dk_g tcX12_longest_7 5 rfl) (dk_g tcX12_longest_7 6 rfl) (dk_g tcX12_longest_7 7 rfl) rfl rfl
theorem dX12_longest_92 : decode cX12_longest 92 = .ok (.aload_n 0, 1) := dk_1042 (dk_g tcX12_longest_7 8 rfl)
theorem dX12_longest_93 : decode cX12_longest 93 = .ok (.getfield 139, 3) := dk_1180 (dk_g tcX12_longest_7 9 rfl) (dk_g tcX12_longest_7 10 rfl) (dk_g tcX12_longest_7 11 rfl) rfl
theorem tcX12_longest_8 : (cX12_longest.data.toList.drop 96).take 12 = [167, 0, 4, 29, 62, 132, 6, 1, 167, 255, 197, 28] := by decide +kernel
theorem dX12_longest_96 : decode cX12_longest 96 = .ok (.goto 4, 3) := dk_2167 (dk_g tcX12_longest_8 0 rfl) (dk_g tcX12_longest_8 1 rfl) (dk_g tcX12_longest_8 2 rfl) rfl rfl
theorem dX12_longest_99 : decode cX12_longest 99 = .ok (.iload_n 3, 1) := dk_1029 (dk_g tcX12_longest_8 3 rfl)
theorem dX12_longest_100 : decode cX12_longest 100 = .ok (.istore_n 3, 1) := dk_1062 (dk_g tcX12_longest_8 4 rfl)
theorem dX12_longest_101 : decode cX12_longest 101 = .ok (.iinc 6 1, 3) := dk_1132 (dk_g tcX12_longest_8 5 rfl) (dk_g tcX12_longest_8 6 rfl) (dk_g tcX12_longest_8 7 rfl) rfl (by decide +kernel)
theorem dX12_longest_104 : decode cX12_longest 104 = .ok (.goto (-59), 3) := dk_1167 (dk_g tcX12_longest_8 8 rfl) (dk_g tcX12_longest_8 9 rfl) (dk_g tcX12_longest_8 10 rfl) (by decide +kernel)
theorem dX12_longest_107 : decode cX12_longest 107 = .ok (.iload_n 2, 1) := dk_1028 (dk_g tcX12_longest_8 11 rfl)
theorem tcX12_longest_9 : (cX12_longest.data.toList.drop 108).take 12 = [154, 0, 7, 29, 167, 0, 15, 28, 4, 160, 0, 8] := by decide +kernel
theorem dX12_longest_108 : decode cX12_longest 108 = .ok (.ifCond .ne 7, 3) := dk_2154 (dk_g tcX12_longest_9 0 rfl) (dk_g tcX12_longest_9 1 rfl) (dk_g tcX12_longest_9 2 rfl) rfl rfl
theorem dX12_longest_111 : decode cX12_longest 111 = .ok (.iload_n 3, 1) := dk_1029 (dk_g tcX12_longest_9 3 rfl)
theorem dX12_longest_112 : decode cX12_longest 112 = .ok (.goto 15, 3) := dk_2167 (dk_g tcX12_longest_9 4 rfl) (dk_g tcX12_longest_9 5 rfl) (dk_g tcX12_longest_9 6 rfl) rfl rfl
theorem dX12_longest_115 : decode cX12_longest 115 = .ok (.iload_n 2, 1) := dk_1028 (dk_g tcX12_longest_9 7 rfl)
theorem dX12_longest_116 : decode cX12_longest 116 = .ok (.iconst 1, 1) := dk_1004 (dk_g tcX12_longest_9 8 rfl)
theorem dX12_longest_117 : decode cX12_longest 117 = .ok (.if_icmp .ne 8, 3) := dk_2160 (dk_g tcX12_longest_9 9 rfl) (dk_g tcX12_longest_9 10 rfl) (dk_g tcX12_longest_9 11 rfl) rfl rfl
theorem tcX12_longest_10 : (cX12_longest.data.toList.drop 120).take 12 = [21, 4, 167, 0, 5, 21, 5, 172] := by decide +kernel
theorem dX12_longest_120 : decode cX12_longest 120 = .ok (.iload 4, 2) := dk_1021 (dk_g tcX12_longest_10 0 rfl) (dk_g tcX12_longest_10 1 rfl) rfl
theorem dX12_longest_122 : decode cX12_longest 122 = .ok (.goto 5, 3) := dk_2167 (dk_g tcX12_longest_10 2 rfl) (dk_g tcX12_longest_10 3 rfl) (dk_g tcX12_longest_10 4 rfl) rfl rfl
theorem dX12_longest_125 : decode cX12_longest 125 = .ok (.iload 5, 2) := dk_1021 (dk_g tcX12_longest_10 5 rfl) (dk_g tcX12_longest_10 6 rfl) rfl
theorem dX12_longest_127 : decode cX12_longest 127 = .ok (.ireturn, 1) := dk_1172 (dk_g tcX12_longest_10 7 rfl)
theorem tcX12_part_0 : (cX12_part.data.toList.drop 0).take 12 = [42, 29, 3, 4, 184, 0, 113, 154, 0, 7, 4, 167] := by decide +kernel
theorem dX12_part_0 : decode cX12_part 0 = .ok (.aload_n 0, 1) := dk_1042 (dk_g tcX12_part_0 0 rfl)
theorem dX12_part_1 : decode cX12_part 1 = .ok (.iload_n 3, 1) := dk_1029 (dk_g tcX12_part_0 1 rfl)
theorem dX12_part_2 : decode cX12_part 2 = .ok (.iconst 0, 1) := dk_1003 (dk_g tcX12_part_0 2 rfl)
theorem dX12_part_3 : decode cX12_part 3 = .ok (.iconst 1, 1) := dk_1004 (dk_g tcX12_part_0 3 rfl)
theorem dX12_part_4 : decode cX12_part 4 = .ok (.invokestatic 113, 3) := dk_1184 (dk_g tcX12_part_0 4 rfl) (dk_g tcX12_part_0 5 rfl) (dk_g tcX12_part_0 6 rfl) rfl
theorem dX12_part_7 : decode cX12_part 7 = .ok (.ifCond .ne 7, 3) := dk_2154 (dk_g tcX12_part_0 7 rfl) (dk_g tcX12_part_0 8 rfl) (dk_g tcX12_part_0 9 rfl) rfl rfl
theorem dX12_part_10 : decode cX12_part 10 = .ok (.iconst 1, 1) := dk_1004 (dk_g tcX12_part_0 10 rfl)
theorem tcX12_part_1 : (cX12_part.data.toList.drop 12).take 12 = [0, 24, 42, 27, 182, 1, 88, 153, 0, 11, 42, 28] := by decide +kernel
theorem dX12_part_11 : decode cX12_part 11 = .ok (.goto 24, 3) := dk_2167 (dk_g tcX12_part_0 11 rfl) (dk_g tcX12_part_1 0 rfl) (dk_g tcX12_part_1 1 rfl) rfl rfl
theorem dX12_part_14 : decode cX12_part 14 = .ok (.aload_n 0, 1) := dk_1042 (dk_g tcX12_part_1 2 rfl)
theorem dX12_part_15 : decode cX12_part 15 = .ok (.iload_n 1, 1) := dk_1027 (dk_g tcX12_part_1 3 rfl)
theorem dX12_part_16 : decode cX12_part 16 = .ok (.invokevirtual 344, 3) := dk_1182 (dk_g tcX12_part_1 4 rfl) (dk_g tcX12_part_1 5 rfl) (dk_g tcX12_part_1 6 rfl) rfl
theorem dX12_part_19 : decode cX12_part 19 = .ok (.ifCond .eq 11, 3) := dk_2153 (dk_g tcX12_part_1 7 rfl) (dk_g tcX12_part_1 8 rfl) (dk_g tcX12_part_1 9 rfl) rfl rfl
theorem dX12_part_22 : decode cX12_part 22 = .ok (.aload_n 0, 1) := dk_1042 (dk_g tcX12_part_1 10 rfl)
theorem dX12_part_23 : decode cX12_part 23 = .ok (.iload_n 2, 1) := dk_1028 (dk_g tcX12_part_1 11 rfl)
theorem tcX12_part_2 : (cX12_part.data.toList.drop 24).take 12 = [182, 1, 88, 154, 0, 7, 5, 167, 0, 4, 3, 182] := by decide +kernel
theorem dX12_part_24 : decode cX12_part 24 = .ok (.invokevirtual 344, 3) := dk_1182 (dk_g tcX12_part_2 0 rfl) (dk_g tcX12_part_2 1 rfl) (dk_g tcX12_part_2 2 rfl) rfl
theorem dX12_part_27 : decode cX12_part 27 = .ok (.ifCond .ne 7, 3) := dk_2154 (dk_g tcX12_part_2 3 rfl) (dk_g tcX12_part_2 4 rfl) (dk_g tcX12_part_2 5 rfl) rfl rfl
theorem dX12_part_30 : decode cX12_part 30 = .ok (.iconst 2, 1) := dk_1005 (dk_g tcX12_part_2 6 rfl)
theorem dX12_part_31 : decode cX12_part 31 = .ok (.goto 4, 3) := dk_2167 (dk_g tcX12_part_2 7 rfl) (dk_g tcX12_part_2 8 rfl) (dk_g tcX12_part_2 9 rfl) rfl rfl
theorem dX12_part_34 : decode cX12_part 34 = .ok (.iconst 0, 1) := dk_1003 (dk_g tcX12_part_2 10 rfl)
theorem tcX12_part_3 : (cX12_part.data.toList.drop 36).take 12 = [1, 53, 154, 0, 5, 2, 172, 42, 27, 182, 0, 209] := by decide +kernel
theorem dX12_part_35 : decode cX12_part 35 = .ok (.invokevirtual 309, 3) := dk_1182 (dk_g tcX12_part_2 11 rfl) (dk_g tcX12_part_3 0 rfl) (dk_g tcX12_part_3 1 rfl) rfl
theorem dX12_part_38 : decode cX12_part 38 = .ok (.ifCond .ne 5, 3) := dk_2154 (dk_g tcX12_part_3 2 rfl) (dk_g tcX12_part_3 3 rfl) (dk_g tcX12_part_3 4 rfl) rfl rfl
theorem dX12_part_41 : decode cX12_part 41 = .ok (.iconst (-1), 1) := dk_1002 (dk_g tcX12_part_3 5 rfl)
theorem dX12_part_42 : decode cX12_part 42 = .ok (.ireturn, 1) := dk_1172 (dk_g tcX12_part_3 6 rfl)
theorem dX12_part_43 : decode cX12_part 43 = .ok (.aload_n 0, 1) := dk_1042 (dk_g tcX12_part_3 7 rfl)
theorem dX12_part_44 : decode cX12_part 44 = .ok (.iload_n 1, 1) := dk_1027 (dk_g tcX12_part_3 8 rfl)
theorem dX12_part_45 : decode cX12_part 45 = .ok (.invokevirtual 209, 3) := dk_1182 (dk_g tcX12_part_3 9 rfl) (dk_g tcX12_part_3 10 rfl) (dk_g tcX12_part_3 11 rfl) rfl
theorem tcX12_part_4 : (cX12_part.data.toList.drop 48).take 12 = [42, 28, 182, 0, 209, 162, 0, 11, 42, 27, 182, 0] := by decide +kernel
theorem dX12_part_48 : decode cX12_part 48 = .ok (.aload_n 0, 1) := dk_1042 (dk_g tcX12_part_4 0 rfl)
theorem dX12_part_49 : decode cX12_part 49 = .ok (.iload_n 2, 1) := dk_1028 (dk_g tcX12_part_4 1 rfl)
theorem dX12_part_50 : decode cX12_part 50 = .ok (.invokevirtual 209, 3) := dk_1182 (dk_g tcX12_part_4 2 rfl) (dk_g tcX12_part_4 3 rfl) (dk_g tcX12_part_4 4 rfl) rfl
theorem dX12_part_53 : decode cX12_part 53 = .ok (.if_icmp .ge 11, 3) := dk_2162 (dk_g tcX12_part_4 5 rfl) (dk_g tcX12_part_4 6 rfl) (dk_g tcX12_part_4 7 rfl) rfl rfl
theorem dX12_part_56 : decode cX12_part 56 = .ok (.aload_n 0, 1) := dk_1042 (dk_g tcX12_part_4 8 rfl)
theorem dX12_part_57 : decode cX12_part 57 = .ok (.iload_n 1, 1) := dk_1027 (dk_g tcX12_part_4 9 rfl)
theorem tcX12_part_5 : (cX12_part.data.toList.drop 60).take 12 = [209, 167, 0, 8, 42, 28, 182, 0, 209, 54, 4, 42] := by decide +kernel
theorem dX12_part_58 : decode cX12_part 58 = .ok (.invokevirtual 209, 3) := dk_1182 (dk_g tcX12_part_4 10 rfl) (dk_g tcX12_part_4 11 rfl) (dk_g tcX12_part_5 0 rfl) rfl
theorem dX12_part_61 : decode cX12_part 61 = .ok (.goto 8, 3) := dk_2167 (dk_g tcX12_part_5 1 rfl) (dk_g tcX12_part_5 2 rfl) (dk_g tcX12_part_5 3 rfl) rfl rfl
theorem dX12_part_64 : decode cX12_part 64 = .ok (.aload_n 0, 1) := dk_1042 (dk_g tcX12_part_5 4 rfl)
theorem dX12_part_65 : decode cX12_part 65 = .ok (.iload_n 2, 1) := dk_1028 (dk_g tcX12_part_5 5 rfl)
theorem dX12_part_66 : decode cX12_part 66 = .ok (.invokevirtual 209, 3) := dk_1182 (dk_g tcX12_part_5 6 rfl) (dk_g tcX12_part_5 7 rfl) (dk_g tcX12_part_5 8 rfl) rfl
theorem dX12_part_69 : decode cX12_part 69 = .ok (.istore 4, 2) := dk_1054 (dk_g tcX12_part_5 9 rfl) (dk_g tcX12_part_5 10 rfl) rfl
theorem dX12_part_71 : decode cX12_part 71 = .ok (.aload_n 0, 1) := dk_1042 (dk_g tcX12_part_5 11 rfl)
theorem tcX12_part_6 : (cX12_part.data.toList.drop 72).take 12 = [27, 21, 4, 182, 0, 215, 42, 28, 21, 4, 182, 0] := by decide +kernel
theorem dX12_part_72 : decode cX12_part 72 = .ok (.iload_n 1, 1) := dk_1027 (dk_g tcX12_part_6 0 rfl)
theorem dX12_part_73 : decode cX12_part 73 = .ok (.iload 4, 2) := dk_1021 (dk_g tcX12_part_6 1 rfl) (dk_g tcX12_part_6 2 rfl) rfl
theorem dX12_part_75 : decode cX12_part 75 = .ok (.invokevirtual 215, 3) := dk_1182 (dk_g tcX12_part_6 3 rfl) (dk_g tcX12_part_6 4 rfl) (dk_g tcX12_part_6 5 rfl) rfl
theorem dX12_part_78 : decode cX12_part 78 = .ok (.aload_n 0, 1) := dk_1042 (dk_g tcX12_part_6 6 rfl)
theorem dX12_part_79 : decode cX12_part 79 = .ok (.iload_n 2, 1) := dk_1028 (dk_g tcX12_part_6 7 rfl)
theorem dX12_part_80 : decode cX12_part 80 = .ok (.iload 4, 2) := dk_1021 (dk_g tcX12_part_6 8 rfl) (dk_g tcX12_part_6 9 rfl) rfl
theorem tcX12_part_7 : (cX12_part.data.toList.drop 84).take 12 = [215, 160, 0, 32, 29, 4, 160, 0, 7, 3, 167, 0] := by decide +kernel
theorem dX12_part_82 : decode cX12_part 82 = .ok (.invokevirtual 215, 3) := dk_1182 (dk_g tcX12_part_6 10 rfl) (dk_g tcX12_part_6 11 rfl) (dk_g tcX12_part_7 0 rfl) rfl
theorem dX12_part_85 : decode cX12_part 85 = .ok (.if_icmp .ne 32, 3) := dk_2160 (dk_g tcX12_part_7 1 rfl) (dk_g tcX12_part_7 2 rfl) (dk_g tcX12_part_7 3 rfl) rfl rfl
theorem dX12_part_88 : decode cX12_part 88 = .ok (.iload_n 3, 1) := dk_1029 (dk_g tcX12_part_7 4 rfl)
theorem dX12_part_89 : decode cX12_part 89 = .ok (.iconst 1, 1) := dk_1004 (dk_g tcX12_part_7 5 rfl)
theorem dX12_part_90 : decode cX12_part 90 = .ok (.if_icmp .ne 7, 3) := dk_2160 (dk_g tcX12_part_7 6 rfl) (dk_g tcX12_part_7 7 rfl) (dk_g tcX12_part_7 8 rfl) rfl rfl
theorem dX12_part_93 : decode cX12_part 93 = .ok (.iconst 0, 1) := dk_1003 (dk_g tcX12_part_7 9 rfl)
theorem tcX12_part_8 : (cX12_part.data.toList.drop 96).take 12 = [22, 42, 27, 182, 0, 209, 42, 28, 182, 0, 209, 160] := by decide +kernel
theorem dX12_part_94 : decode cX12_part 94 = .ok (.goto 22, 3) := dk_2167 (dk_g tcX12_part_7 10 rfl) (dk_g tcX12_part_7 11 rfl) (dk_g tcX12_part_8 0 rfl) rfl rfl
theorem dX12_part_97 : decode cX12_part 97 = .ok (.aload_n 0, 1) := dk_1042 (dk_g tcX12_part_8 1 rfl)
theorem dX12_part_98 : decode cX12_part 98 = .ok (.iload_n 1, 1) := dk_1027 (dk_g tcX12_part_8 2 rfl)
theorem dX12_part_99 : decode cX12_part 99 = .ok (.invokevirtual 209, 3) := dk_1182 (dk_g tcX12_part_8 3 rfl) (dk_g tcX12_part_8 4 rfl) (dk_g tcX12_part_8 5 rfl) rfl
theorem dX12_part_102 : decode cX12_part 102 = .ok (.aload_n 0, 1) := dk_1042 (dk_g tcX12_part_8 6 rfl)
theorem dX12_part_103 : decode cX12_part 103 = .ok (.iload_n 2, 1) := dk_1028 (dk_g tcX12_part_8 7 rfl)
theorem dX12_part_104 : decode cX12_part 104 = .ok (.invokevirtual 209, 3) := dk_1182 (dk_g tcX12_part_8 8 rfl) (dk_g tcX12_part_8 9 rfl) (dk_g tcX12_part_8 10 rfl) rfl
theorem tcX12_part_9 : (cX12_part.data.toList.drop 108).take 12 = [0, 7, 2, 167, 0, 5, 21, 4, 172, 3, 54, 5] := by decide +kernel
theorem dX12_part_107 : decode cX12_part 107 = .ok (.if_icmp .ne 7, 3) := dk_2160 (dk_g tcX12_part_8 11 rfl) (dk_g tcX12_part_9 0 rfl) (dk_g tcX12_part_9 1 rfl) rfl rfl
theorem dX12_part_110 : decode cX12_part 110 = .ok (.iconst (-1), 1) := dk_1002 (dk_g tcX12_part_9 2 rfl)
theorem dX12_part_111 : decode cX12_part 111 = .ok (.goto 5, 3) := dk_2167 (dk_g tcX12_part_9 3 rfl) (dk_g tcX12_part_9 4 rfl) (dk_g tcX12_part_9 5 rfl) rfl rfl
theorem dX12_part_114 : decode cX12_part 114 = .ok (.iload 4, 2) := dk_1021 (dk_g tcX12_part_9 6 rfl) (dk_g tcX12_part_9 7 rfl) rfl
theorem dX12_part_116 : decode cX12_part 116 = .ok (.ireturn, 1) := dk_1172 (dk_g tcX12_part_9 8 rfl)
theorem dX12_part_117 : decode cX12_part 117 = .ok (.iconst 0, 1) := dk_1003 (dk_g tcX12_part_9 9 rfl)
theorem dX12_part_118 : decode cX12_part 118 = .ok (.istore 5, 2) := dk_1054 (dk_g tcX12_part_9 10 rfl) (dk_g tcX12_part_9 11 rfl) rfl
theorem tcX12_part_10 : (cX12_part.data.toList.drop 120).take 12 = [3, 54, 6, 21, 4, 4, 164, 0, 77, 21, 4, 184] := by decide +kernel
theorem dX12_part_120 : decode cX12_part 120 = .ok (.iconst 0, 1) := dk_1003 (dk_g tcX12_part_10 0 rfl)
theorem dX12_part_121 : decode cX12_part 121 = .ok (.istore 6, 2) := dk_1054 (dk_g tcX12_part_10 1 rfl) (dk_g tcX12_part_10 2 rfl) rfl
theorem dX12_part_123 : decode cX12_part 123 = .ok (.iload 4, 2) := dk_1021 (dk_g tcX12_part_10 3 rfl) (dk_g tcX12_part_10 4 rfl) rfl
theorem dX12_part_125 : decode cX12_part 125 = .ok (.iconst 1, 1) := dk_1004 (dk_g tcX12_part_10 5 rfl)
theorem dX12_part_126 : decode cX12_part 126 = .ok (.if_icmp .le 77, 3) := dk_2164 (dk_g tcX12_part_10 6 rfl) (dk_g tcX12_part_10 7 rfl) (dk_g tcX12_part_10 8 rfl) rfl rfl
theorem dX12_part_129 : decode cX12_part 129 = .ok (.iload 4, 2) := dk_1021 (dk_g tcX12_part_10 9 rfl) (dk_g tcX12_part_10 10 rfl) rfl
theorem tcX12_part_11 : (cX12_part.data.toList.drop 132).take 12 = [0, 128, 54, 7, 132, 6, 1, 42, 27, 21, 5, 21] := by decide +kernel
theorem dX12_part_131 : decode cX12_part 131 = .ok (.invokestatic 128, 3) := dk_1184 (dk_g tcX12_part_10 11 rfl) (dk_g tcX12_part_11 0 rfl) (dk_g tcX12_part_11 1 rfl) rfl
theorem dX12_part_134 : decode cX12_part 134 = .ok (.istore 7, 2) := dk_1054 (dk_g tcX12_part_11 2 rfl) (dk_g tcX12_part_11 3 rfl) rfl
theorem dX12_part_136 : decode cX12_part 136 = .ok (.iinc 6 1, 3) := dk_1132 (dk_g tcX12_part_11 4 rfl) (dk_g tcX12_part_11 5 rfl) (dk_g tcX12_part_11 6 rfl) rfl (by decide +kernel)
theorem dX12_part_139 : decode cX12_part 139 = .ok (.aload_n 0, 1) := dk_1042 (dk_g tcX12_part_11 7 rfl)
theorem dX12_part_140 : decode cX12_part 140 = .ok (.iload_n 1, 1) := dk_1027 (dk_g tcX12_part_11 8 rfl)
theorem dX12_part_141 : decode cX12_part 141 = .ok (.iload 5, 2) := dk_1021 (dk_g tcX12_part_11 9 rfl) (dk_g tcX12_part_11 10 rfl) rfl
theorem tcX12_part_12 : (cX12_part.data.toList.drop 144).take 12 = [7, 182, 0, 132, 42, 28, 21, 5, 21, 7, 182, 0] := by decide +kernel
theorem dX12_part_143 : decode cX12_part 143 = .ok (.iload 7, 2) := dk_1021 (dk_g tcX12_part_11 11 rfl) (dk_g tcX12_part_12 0 rfl) rfl
theorem dX12_part_145 : decode cX12_part 145 = .ok (.invokevirtual 132, 3) := dk_1182 (dk_g tcX12_part_12 1 rfl) (dk_g tcX12_part_12 2 rfl) (dk_g tcX12_part_12 3 rfl) rfl
theorem dX12_part_148 : decode cX12_part 148 = .ok (.aload_n 0, 1) := dk_1042 (dk_g tcX12_part_12 4 rfl)
theorem dX12_part_149 : decode cX12_part 149 = .ok (.iload_n 2, 1) := dk_1028 (dk_g tcX12_part_12 5 rfl)
theorem dX12_part_150 : decode cX12_part 150 = .ok (.iload 5, 2) := dk_1021 (dk_g tcX12_part_12 6 rfl) (dk_g tcX12_part_12 7 rfl) rfl
theorem dX12_part_152 : decode cX12_part 152 = .ok (.iload 7, 2) := dk_1021 (dk_g tcX12_part_12 8 rfl) (dk_g tcX12_part_12 9 rfl) rfl
theorem tcX12_part_13 : (cX12_part.data.toList.drop 156).take 12 = [132, 160, 0, 7, 4, 167, 0, 4, 3, 54, 8, 21] := by decide +kernel
theorem dX12_part_154 : decode cX12_part 154 = .ok (.invokevirtual 132, 3) := dk_1182 (dk_g tcX12_part_12 10 rfl) (dk_g tcX12_part_12 11 rfl) (dk_g tcX12_part_13 0 rfl) rfl
theorem dX12_part_157 : decode cX12_part 157 = .ok (.if_icmp .ne 7, 3) := dk_2160 (dk_g tcX12_part_13 1 rfl) (dk_g tcX12_part_13 2 rfl) (dk_g tcX12_part_13 3 rfl) rfl rfl
theorem dX12_part_160 : decode cX12_part 160 = .ok (.iconst 1, 1) := dk_1004 (dk_g tcX12_part_13 4 rfl)
theorem dX12_part_161 : decode cX12_part 161 = .ok (.goto 4, 3) := dk_2167 (dk_g tcX12_part_13 5 rfl) (dk_g tcX12_part_13 6 rfl) (dk_g tcX12_part_13 7 rfl) rfl rfl
theorem dX12_part_164 : decode cX12_part 164 = .ok (.iconst 0, 1) := dk_1003 (dk_g tcX12_part_13 8 rfl)
theorem dX12_part_165 : decode cX12_part 165 = .ok (.istore 8, 2) := dk_1054 (dk_g tcX12_part_13 9 rfl) (dk_g tcX12_part_13 10 rfl) rfl
theorem tcX12_part_14 : (cX12_part.data.toList.drop 168).take 12 = [5, 21, 8, 153, 0, 8, 21, 7, 167, 0, 4, 3] := by decide +kernel
theorem dX12_part_167 : decode cX12_part 167 = .ok (.iload 5, 2) := dk_1021 (dk_g tcX12_part_13 11 rfl) (dk_g tcX12_part_14 0 rfl) rfl
theorem dX12_part_169 : decode cX12_part 169 = .ok (.iload 8, 2) := dk_1021 (dk_g tcX12_part_14 1 rfl) (dk_g tcX12_part_14 2 rfl) rfl
theorem dX12_part_171 : decode cX12_part 171 = .ok (.ifCond .eq 8, 3) := dk_2153 (dk_g tcX12_part_14 3 rfl) (dk_g tcX12_part_14 4 rfl) (dk_g tcX12_part_14 5 rfl) rfl rfl
theorem dX12_part_174 : decode cX12_part 174 = .ok (.iload 7, 2) := dk_1021 (dk_g tcX12_part_14 6 rfl) (dk_g tcX12_part_14 7 rfl) rfl
theorem dX12_part_176 : decode cX12_part 176 = .ok (.goto 4, 3) := dk_2167 (dk_g tcX12_part_14 8 rfl) (dk_g tcX12_part_14 9 rfl) (dk_g tcX12_part_14 10 rfl) rfl rfl
theorem dX12_part_179 : decode cX12_part 179 = .ok (.iconst 0, 1) := dk_1003 (dk_g tcX12_part_14 11 rfl)
theorem tcX12_part_15 : (cX12_part.data.toList.drop 180).take 12 = [96, 54, 5, 21, 8, 153, 0, 11, 21, 4, 21, 7] := by decide +kernel
theorem dX12_part_180 : decode cX12_part 180 = .ok (.iadd, 1) := dk_1096 (dk_g tcX12_part_15 0 rfl)
theorem dX12_part_181 : decode cX12_part 181 = .ok (.istore 5, 2) := dk_1054 (dk_g tcX12_part_15 1 rfl) (dk_g tcX12_part_15 2 rfl) rfl
theorem dX12_part_183 : decode cX12_part 183 = .ok (.iload 8, 2) := dk_1021 (dk_g tcX12_part_15 3 rfl) (dk_g tcX12_part_15 4 rfl) rfl
theorem dX12_part_185 : decode cX12_part 185 = .ok (.ifCond .eq 11, 3) := dk_2153 (dk_g tcX12_part_15 5 rfl) (dk_g tcX12_part_15 6 rfl) (dk_g tcX12_part_15 7 rfl) rfl rfl
theorem dX12_part_188 : decode cX12_part 188 = .ok (.iload 4, 2) := dk_1021 (dk_g tcX12_part_15 8 rfl) (dk_g tcX12_part_15 9 rfl) rfl
theorem dX12_part_190 : decode cX12_part 190 = .ok (.iload 7, 2) := dk_1021 (dk_g tcX12_part_15 10 rfl) (dk_g tcX12_part_15 11 rfl) rfl
theorem tcX12_part_16 : (cX12_part.data.toList.drop 192).take 12 = [100, 167, 0, 5, 21, 7, 54, 4, 167, 255, 179, 29] := by decide +kernel
theorem dX12_part_192 : decode cX12_part 192 = .ok (.isub, 1) := dk_1100 (dk_g tcX12_part_16 0 rfl)
theorem dX12_part_193 : decode cX12_part 193 = .ok (.goto 5, 3) := dk_2167 (dk_g tcX12_part_16 1 rfl) (dk_g tcX12_part_16 2 rfl) (dk_g tcX12_part_16 3 rfl) rfl rfl
theorem dX12_part_196 : decode cX12_part 196 = .ok (.iload 7, 2) := dk_1021 (dk_g tcX12_part_16 4 rfl) (dk_g tcX12_part_16 5 rfl) rfl
theorem dX12_part_198 : decode cX12_part 198 = .ok (.istore 4, 2) := dk_1054 (dk_g tcX12_part_16 6 rfl) (dk_g tcX12_part_16 7 rfl) rfl
theorem dX12_part_200 : decode cX12_part 200 = .ok (.goto (-77), 3) := dk_1167 (dk_g tcX12_part_16 8 rfl) (dk_g tcX12_part_16 9 rfl) (dk_g tcX12_part_16 10 rfl) (by decide +kernel)
theorem dX12_part_203 : decode cX12_part 203 = .ok (.iload_n 3, 1) := dk_1029 (dk_g tcX12_part_16 11 rfl)
theorem tcX12_part_17 : (cX12_part.data.toList.drop 204).take 12 = [154, 0, 8, 21, 5, 167, 0, 5, 21, 6, 172] := by decide +kernel
theorem dX12_part_204 : decode cX12_part 204 = .ok (.ifCond .ne 8, 3) := dk_2154 (dk_g tcX12_part_17 0 rfl) (dk_g tcX12_part_17 1 rfl) (dk_g tcX12_part_17 2 rfl) rfl rfl
theorem dX12_part_207 : decode cX12_part 207 = .ok (.iload 5, 2) := dk_1021 (dk_g tcX12_part_17 3 rfl) (dk_g tcX12_part_17 4 rfl) rfl
theorem dX12_part_209 : decode cX12_part 209 = .ok (.goto 5, 3) := dk_2167 (dk_g tcX12_part_17 5 rfl) (dk_g tcX12_part_17 6 rfl) (dk_g tcX12_part_17 7 rfl) rfl rfl
theorem dX12_part_212 : decode cX12_part 212 = .ok (.iload 6, 2) := dk_1021 (dk_g tcX12_part_17 8 rfl) (dk_g tcX12_part_17 9 rfl) rfl
theorem dX12_part_214 : decode cX12_part 214 = .ok (.ireturn, 1) := dk_1172 (dk_g tcX12_part_17 10 rfl)
theorem tcX12_blame_0 : (cX12_blame.data.toList.drop 0).take 12 = [42, 28, 3, 5, 184, 0, 113, 154, 0, 7, 4, 167] := by decide +kernel
theorem dX12_blame_0 : decode cX12_blame 0 = .ok (.aload_n 0, 1) := dk_1042 (dk_g tcX12_blame_0 0 rfl)
theorem dX12_blame_1 : decode cX12_blame 1 = .ok (.iload_n 2, 1) := dk_1028 (dk_g tcX12_blame_0 1 rfl)
theorem dX12_blame_2 : decode cX12_blame 2 = .ok (.iconst 0, 1) := dk_1003 (dk_g tcX12_blame_0 2 rfl)
theorem dX12_blame_3 : decode cX12_blame 3 = .ok (.iconst 2, 1) := dk_1005 (dk_g tcX12_blame_0 3 rfl)
theorem dX12_blame_4 : decode cX12_blame 4 = .ok (.invokestatic 113, 3) := dk_1184 (dk_g tcX12_blame_0 4 rfl) (dk_g tcX12_blame_0 5 rfl) (dk_g tcX12_blame_0 6 rfl) rfl
theorem dX12_blame_7 : decode cX12_blame 7 = .ok (.ifCond .ne 7, 3) := dk_2154 (dk_g tcX12_blame_0 7 rfl) (dk_g tcX12_blame_0 8 rfl) (dk_g tcX12_blame_0 9 rfl) rfl rfl
theorem dX12_blame_10 : decode cX12_blame 10 = .ok (.iconst 1, 1) := dk_1004 (dk_g tcX12_blame_0 10 rfl)
theorem tcX12_blame_1 : (cX12_blame.data.toList.drop 12).take 12 = [0, 16, 42, 27, 182, 1, 88, 154, 0, 7, 5, 167] := by decide +kernel
theorem dX12_blame_11 : decode cX12_blame 11 = .ok (.goto 16, 3) := dk_2167 (dk_g tcX12_blame_0 11 rfl) (dk_g tcX12_blame_1 0 rfl) (dk_g tcX12_blame_1 1 rfl) rfl rfl
theorem dX12_blame_14 : decode cX12_blame 14 = .ok (.aload_n 0, 1) := dk_1042 (dk_g tcX12_blame_1 2 rfl)
theorem dX12_blame_15 : decode cX12_blame 15 = .ok (.iload_n 1, 1) := dk_1027 (dk_g tcX12_blame_1 3 rfl)
theorem dX12_blame_16 : decode cX12_blame 16 = .ok (.invokevirtual 344, 3) := dk_1182 (dk_g tcX12_blame_1 4 rfl) (dk_g tcX12_blame_1 5 rfl) (dk_g tcX12_blame_1 6 rfl) rfl
theorem dX12_blame_19 : decode cX12_blame 19 = .ok (.ifCond .ne 7, 3) := dk_2154 (dk_g tcX12_blame_1 7 rfl) (dk_g tcX12_blame_1 8 rfl) (dk_g tcX12_blame_1 9 rfl) rfl rfl
theorem dX12_blame_22 : decode cX12_blame 22 = .ok (.iconst 2, 1) := dk_1005 (dk_g tcX12_blame_1 10 rfl)
theorem tcX12_blame_2 : (cX12_blame.data.toList.drop 24).take 12 = [0, 4, 3, 182, 1, 53, 154, 0, 5, 2, 172, 2] := by decide +kernel
theorem dX12_blame_23 : decode cX12_blame 23 = .ok (.goto 4, 3) := dk_2167 (dk_g tcX12_blame_1 11 rfl) (dk_g tcX12_blame_2 0 rfl) (dk_g tcX12_blame_2 1 rfl) rfl rfl
theorem dX12_blame_26 : decode cX12_blame 26 = .ok (.iconst 0, 1) := dk_1003 (dk_g tcX12_blame_2 2 rfl)
theorem dX12_blame_27 : decode cX12_blame 27 = .ok (.invokevirtual 309, 3) := dk_1182 (dk_g tcX12_blame_2 3 rfl) (dk_g tcX12_blame_2 4 rfl) (dk_g tcX12_blame_2 5 rfl) rfl
theorem dX12_blame_30 : decode cX12_blame 30 = .ok (.ifCond .ne 5, 3) := dk_2154 (dk_g tcX12_blame_2 6 rfl) (dk_g tcX12_blame_2 7 rfl) (dk_g tcX12_blame_2 8 rfl) rfl rfl
theorem dX12_blame_33 : decode cX12_blame 33 = .ok (.iconst (-1), 1) := dk_1002 (dk_g tcX12_blame_2 9 rfl)
theorem dX12_blame_34 : decode cX12_blame 34 = .ok (.ireturn, 1) := dk_1172 (dk_g tcX12_blame_2 10 rfl)
theorem dX12_blame_35 : decode cX12_blame 35 = .ok (.iconst (-1), 1) := dk_1002 (dk_g tcX12_blame_2 11 rfl)
theorem tcX12_blame_3 : (cX12_blame.data.toList.drop 36).take 12 = [62, 3, 54, 4, 3, 54, 5, 21, 5, 42, 180, 0] := by decide +kernel
theorem dX12_blame_36 : decode cX12_blame 36 = .ok (.istore_n 3, 1) := dk_1062 (dk_g tcX12_blame_3 0 rfl)
theorem dX12_blame_37 : decode cX12_blame 37 = .ok (.iconst 0, 1) := dk_1003 (dk_g tcX12_blame_3 1 rfl)
theorem dX12_blame_38 : decode cX12_blame 38 = .ok (.istore 4, 2) := dk_1054 (dk_g tcX12_blame_3 2 rfl) (dk_g tcX12_blame_3 3 rfl) rfl
theorem dX12_blame_40 : decode cX12_blame 40 = .ok (.iconst 0, 1) := dk_1003 (dk_g tcX12_blame_3 4 rfl)
theorem dX12_blame_41 : decode cX12_blame 41 = .ok (.istore 5, 2) := dk_1054 (dk_g tcX12_blame_3 5 rfl) (dk_g tcX12_blame_3 6 rfl) rfl
theorem dX12_blame_43 : decode cX12_blame 43 = .ok (.iload 5, 2) := dk_1021 (dk_g tcX12_blame_3 7 rfl) (dk_g tcX12_blame_3 8 rfl) rfl
theorem dX12_blame_45 : decode cX12_blame 45 = .ok (.aload_n 0, 1) := dk_1042 (dk_g tcX12_blame_3 9 rfl)
theorem tcX12_blame_4 : (cX12_blame.data.toList.drop 48).take 12 = [7, 6, 46, 162, 0, 62, 42, 21, 5, 3, 182, 1] := by decide +kernel
theorem dX12_blame_46 : decode cX12_blame 46 = .ok (.getfield 7, 3) := dk_1180 (dk_g tcX12_blame_3 10 rfl) (dk_g tcX12_blame_3 11 rfl) (dk_g tcX12_blame_4 0 rfl) rfl
theorem dX12_blame_49 : decode cX12_blame 49 = .ok (.iconst 3, 1) := dk_1006 (dk_g tcX12_blame_4 1 rfl)
theorem dX12_blame_50 : decode cX12_blame 50 = .ok (.iaload, 1) := dk_1046 (dk_g tcX12_blame_4 2 rfl)
theorem dX12_blame_51 : decode cX12_blame 51 = .ok (.if_icmp .ge 62, 3) := dk_2162 (dk_g tcX12_blame_4 3 rfl) (dk_g tcX12_blame_4 4 rfl) (dk_g tcX12_blame_4 5 rfl) rfl rfl
theorem dX12_blame_54 : decode cX12_blame 54 = .ok (.aload_n 0, 1) := dk_1042 (dk_g tcX12_blame_4 6 rfl)
theorem dX12_blame_55 : decode cX12_blame 55 = .ok (.iload 5, 2) := dk_1021 (dk_g tcX12_blame_4 7 rfl) (dk_g tcX12_blame_4 8 rfl) rfl
theorem dX12_blame_57 : decode cX12_blame 57 = .ok (.iconst 0, 1) := dk_1003 (dk_g tcX12_blame_4 9 rfl)
theorem tcX12_blame_5 : (cX12_blame.data.toList.drop 60).take 12 = [94, 27, 160, 0, 45, 42, 21, 5, 182, 1, 97, 153] := by decide +kernel
theorem dX12_blame_58 : decode cX12_blame 58 = .ok (.invokevirtual 350, 3) := dk_1182 (dk_g tcX12_blame_4 10 rfl) (dk_g tcX12_blame_4 11 rfl) (dk_g tcX12_blame_5 0 rfl) rfl
theorem dX12_blame_61 : decode cX12_blame 61 = .ok (.iload_n 1, 1) := dk_1027 (dk_g tcX12_blame_5 1 rfl)
theorem dX12_blame_62 : decode cX12_blame 62 = .ok (.if_icmp .ne 45, 3) := dk_2160 (dk_g tcX12_blame_5 2 rfl) (dk_g tcX12_blame_5 3 rfl) (dk_g tcX12_blame_5 4 rfl) rfl rfl
theorem dX12_blame_65 : decode cX12_blame 65 = .ok (.aload_n 0, 1) := dk_1042 (dk_g tcX12_blame_5 5 rfl)
theorem dX12_blame_66 : decode cX12_blame 66 = .ok (.iload 5, 2) := dk_1021 (dk_g tcX12_blame_5 6 rfl) (dk_g tcX12_blame_5 7 rfl) rfl
theorem dX12_blame_68 : decode cX12_blame 68 = .ok (.invokevirtual 353, 3) := dk_1182 (dk_g tcX12_blame_5 8 rfl) (dk_g tcX12_blame_5 9 rfl) (dk_g tcX12_blame_5 10 rfl) rfl
theorem tcX12_blame_6 : (cX12_blame.data.toList.drop 72).take 12 = [0, 6, 167, 0, 33, 132, 4, 1, 29, 155, 0, 14] := by decide +kernel
theorem dX12_blame_71 : decode cX12_blame 71 = .ok (.ifCond .eq 6, 3) := dk_2153 (dk_g tcX12_blame_5 11 rfl) (dk_g tcX12_blame_6 0 rfl) (dk_g tcX12_blame_6 1 rfl) rfl rfl
theorem dX12_blame_74 : decode cX12_blame 74 = .ok (.goto 33, 3) := dk_2167 (dk_g tcX12_blame_6 2 rfl) (dk_g tcX12_blame_6 3 rfl) (dk_g tcX12_blame_6 4 rfl) rfl rfl
theorem dX12_blame_77 : decode cX12_blame 77 = .ok (.iinc 4 1, 3) := dk_1132 (dk_g tcX12_blame_6 5 rfl) (dk_g tcX12_blame_6 6 rfl) (dk_g tcX12_blame_6 7 rfl) rfl (by decide +kernel)
theorem dX12_blame_80 : decode cX12_blame 80 = .ok (.iload_n 3, 1) := dk_1029 (dk_g tcX12_blame_6 8 rfl)
theorem dX12_blame_81 : decode cX12_blame 81 = .ok (.ifCond .lt 14, 3) := dk_2155 (dk_g tcX12_blame_6 9 rfl) (dk_g tcX12_blame_6 10 rfl) (dk_g tcX12_blame_6 11 rfl) rfl rfl
theorem tcX12_blame_7 : (cX12_blame.data.toList.drop 84).take 12 = [42, 21, 5, 4, 182, 1, 94, 29, 162, 0, 13, 42] := by decide +kernel
theorem dX12_blame_84 : decode cX12_blame 84 = .ok (.aload_n 0, 1) := dk_1042 (dk_g tcX12_blame_7 0 rfl)
theorem dX12_blame_85 : decode cX12_blame 85 = .ok (.iload 5, 2) := dk_1021 (dk_g tcX12_blame_7 1 rfl) (dk_g tcX12_blame_7 2 rfl) rfl
theorem dX12_blame_87 : decode cX12_blame 87 = .ok (.iconst 1, 1) := dk_1004 (dk_g tcX12_blame_7 3 rfl)
theorem dX12_blame_88 : decode cX12_blame 88 = .ok (.invokevirtual 350, 3) := dk_1182 (dk_g tcX12_blame_7 4 rfl) (dk_g tcX12_blame_7 5 rfl) (dk_g tcX12_blame_7 6 rfl) rfl
theorem dX12_blame_91 : decode cX12_blame 91 = .ok (.iload_n 3, 1) := dk_1029 (dk_g tcX12_blame_7 7 rfl)
theorem dX12_blame_92 : decode cX12_blame 92 = .ok (.if_icmp .ge 13, 3) := dk_2162 (dk_g tcX12_blame_7 8 rfl) (dk_g tcX12_blame_7 9 rfl) (dk_g tcX12_blame_7 10 rfl) rfl rfl
theorem dX12_blame_95 : decode cX12_blame 95 = .ok (.aload_n 0, 1) := dk_1042 (dk_g tcX12_blame_7 11 rfl)
theorem tcX12_blame_8 : (cX12_blame.data.toList.drop 96).take 12 = [21, 5, 4, 182, 1, 94, 167, 0, 4, 29, 62, 132] := by decide +kernel
theorem dX12_blame_96 : decode cX12_blame 96 = .ok (.iload 5, 2) := dk_1021 (dk_g tcX12_blame_8 0 rfl) (dk_g tcX12_blame_8 1 rfl) rfl
theorem dX12_blame_98 : decode cX12_blame 98 = .ok (.iconst 1, 1) := dk_1004 (dk_g tcX12_blame_8 2 rfl)
theorem dX12_blame_99 : decode cX12_blame 99 = .ok (.invokevirtual 350, 3) := dk_1182 (dk_g tcX12_blame_8 3 rfl) (dk_g tcX12_blame_8 4 rfl) (dk_g tcX12_blame_8 5 rfl) rfl
theorem dX12_blame_102 : decode cX12_blame 102 = .ok (.goto 4, 3) := dk_2167 (dk_g tcX12_blame_8 6 rfl) (dk_g tcX12_blame_8 7 rfl) (dk_g tcX12_blame_8 8 rfl) rfl rfl
theorem dX12_blame_105 : decode cX12_blame 105 = .ok (.iload_n 3, 1) := dk_1029 (dk_g tcX12_blame_8 9 rfl)
theorem dX12_blame_106 : decode cX12_blame 106 = .ok (.istore_n 3, 1) := dk_1062 (dk_g tcX12_blame_8 10 rfl)
theorem tcX12_blame_9 : (cX12_blame.data.toList.drop 108).take 12 = [5, 1, 167, 255, 189, 29, 156, 0, 7, 2, 167, 0] := by decide +kernel
theorem dX12_blame_107 : decode cX12_blame 107 = .ok (.iinc 5 1, 3) := dk_1132 (dk_g tcX12_blame_8 11 rfl) (dk_g tcX12_blame_9 0 rfl) (dk_g tcX12_blame_9 1 rfl) rfl (by decide +kernel)
theorem dX12_blame_110 : decode cX12_blame 110 = .ok (.goto (-67), 3) := dk_1167 (dk_g tcX12_blame_9 2 rfl) (dk_g tcX12_blame_9 3 rfl) (dk_g tcX12_blame_9 4 rfl) (by decide +kernel)
theorem dX12_blame_113 : decode cX12_blame 113 = .ok (.iload_n 3, 1) := dk_1029 (dk_g tcX12_blame_9 5 rfl)
theorem dX12_blame_114 : decode cX12_blame 114 = .ok (.ifCond .ge 7, 3) := dk_2156 (dk_g tcX12_blame_9 6 rfl) (dk_g tcX12_blame_9 7 rfl) (dk_g tcX12_blame_9 8 rfl) rfl rfl
theorem dX12_blame_117 : decode cX12_blame 117 = .ok (.iconst (-1), 1) := dk_1002 (dk_g tcX12_blame_9 9 rfl)
theorem tcX12_blame_10 : (cX12_blame.data.toList.drop 120).take 12 = [4, 3, 54, 5, 3, 54, 6, 21, 6, 42, 180, 0] := by decide +kernel
theorem dX12_blame_118 : decode cX12_blame 118 = .ok (.goto 4, 3) := dk_2167 (dk_g tcX12_blame_9 10 rfl) (dk_g tcX12_blame_9 11 rfl) (dk_g tcX12_blame_10 0 rfl) rfl rfl
theorem dX12_blame_121 : decode cX12_blame 121 = .ok (.iconst 0, 1) := dk_1003 (dk_g tcX12_blame_10 1 rfl)
theorem dX12_blame_122 : decode cX12_blame 122 = .ok (.istore 5, 2) := dk_1054 (dk_g tcX12_blame_10 2 rfl) (dk_g tcX12_blame_10 3 rfl) rfl
theorem dX12_blame_124 : decode cX12_blame 124 = .ok (.iconst 0, 1) := dk_1003 (dk_g tcX12_blame_10 4 rfl)
theorem dX12_blame_125 : decode cX12_blame 125 = .ok (.istore 6, 2) := dk_1054 (dk_g tcX12_blame_10 5 rfl) (dk_g tcX12_blame_10 6 rfl) rfl
theorem dX12_blame_127 : decode cX12_blame 127 = .ok (.iload 6, 2) := dk_1021 (dk_g tcX12_blame_10 7 rfl) (dk_g tcX12_blame_10 8 rfl) rfl
theorem dX12_blame_129 : decode cX12_blame 129 = .ok (.aload_n 0, 1) := dk_1042 (dk_g tcX12_blame_10 9 rfl)
theorem tcX12_blame_11 : (cX12_blame.data.toList.drop 132).take 12 = [7, 6, 46, 162, 0, 61, 42, 21, 6, 3, 182, 1] := by decide +kernel
theorem dX12_blame_130 : decode cX12_blame 130 = .ok (.getfield 7, 3) := dk_1180 (dk_g tcX12_blame_10 10 rfl) (dk_g tcX12_blame_10 11 rfl) (dk_g tcX12_blame_11 0 rfl) rfl
theorem dX12_blame_133 : decode cX12_blame 133 = .ok (.iconst 3, 1) := dk_1006 (dk_g tcX12_blame_11 1 rfl)
theorem dX12_blame_134 : decode cX12_blame 134 = .ok (.iaload, 1) := dk_1046 (dk_g tcX12_blame_11 2 rfl)
theorem dX12_blame_135 : decode cX12_blame 135 = .ok (.if_icmp .ge 61, 3) := dk_2162 (dk_g tcX12_blame_11 3 rfl) (dk_g tcX12_blame_11 4 rfl) (dk_g tcX12_blame_11 5 rfl) rfl rfl
theorem dX12_blame_138 : decode cX12_blame 138 = .ok (.aload_n 0, 1) := dk_1042 (dk_g tcX12_blame_11 6 rfl)
theorem dX12_blame_139 : decode cX12_blame 139 = .ok (.iload 6, 2) := dk_1021 (dk_g tcX12_blame_11 7 rfl) (dk_g tcX12_blame_11 8 rfl) rfl
theorem dX12_blame_141 : decode cX12_blame 141 = .ok (.iconst 0, 1) := dk_1003 (dk_g tcX12_blame_11 9 rfl)
theorem tcX12_blame_12 : (cX12_blame.data.toList.drop 144).take 12 = [94, 27, 160, 0, 44, 42, 21, 6, 182, 1, 97, 153] := by decide +kernel
theorem dX12_blame_142 : decode cX12_blame 142 = .ok (.invokevirtual 350, 3) := dk_1182 (dk_g tcX12_blame_11 10 rfl) (dk_g tcX12_blame_11 11 rfl) (dk_g tcX12_blame_12 0 rfl) rfl
theorem dX12_blame_145 : decode cX12_blame 145 = .ok (.iload_n 1, 1) := dk_1027 (dk_g tcX12_blame_12 1 rfl)
theorem dX12_blame_146 : decode cX12_blame 146 = .ok (.if_icmp .ne 44, 3) := dk_2160 (dk_g tcX12_blame_12 2 rfl) (dk_g tcX12_blame_12 3 rfl) (dk_g tcX12_blame_12 4 rfl) rfl rfl
theorem dX12_blame_149 : decode cX12_blame 149 = .ok (.aload_n 0, 1) := dk_1042 (dk_g tcX12_blame_12 5 rfl)
theorem dX12_blame_150 : decode cX12_blame 150 = .ok (.iload 6, 2) := dk_1021 (dk_g tcX12_blame_12 6 rfl) (dk_g tcX12_blame_12 7 rfl) rfl
theorem dX12_blame_152 : decode cX12_blame 152 = .ok (.invokevirtual 353, 3) := dk_1182 (dk_g tcX12_blame_12 8 rfl) (dk_g tcX12_blame_12 9 rfl) (dk_g tcX12_blame_12 10 rfl) rfl
theorem tcX12_blame_13 : (cX12_blame.data.toList.drop 156).take 12 = [0, 35, 42, 21, 6, 4, 182, 1, 94, 29, 162, 0] := by decide +kernel
theorem dX12_blame_155 : decode cX12_blame 155 = .ok (.ifCond .eq 35, 3) := dk_2153 (dk_g tcX12_blame_12 11 rfl) (dk_g tcX12_blame_13 0 rfl) (dk_g tcX12_blame_13 1 rfl) rfl rfl
theorem dX12_blame_158 : decode cX12_blame 158 = .ok (.aload_n 0, 1) := dk_1042 (dk_g tcX12_blame_13 2 rfl)
theorem dX12_blame_159 : decode cX12_blame 159 = .ok (.iload 6, 2) := dk_1021 (dk_g tcX12_blame_13 3 rfl) (dk_g tcX12_blame_13 4 rfl) rfl
theorem dX12_blame_161 : decode cX12_blame 161 = .ok (.iconst 1, 1) := dk_1004 (dk_g tcX12_blame_13 5 rfl)
theorem dX12_blame_162 : decode cX12_blame 162 = .ok (.invokevirtual 350, 3) := dk_1182 (dk_g tcX12_blame_13 6 rfl) (dk_g tcX12_blame_13 7 rfl) (dk_g tcX12_blame_13 8 rfl) rfl
theorem dX12_blame_165 : decode cX12_blame 165 = .ok (.iload_n 3, 1) := dk_1029 (dk_g tcX12_blame_13 9 rfl)
theorem tcX12_blame_14 : (cX12_blame.data.toList.drop 168).take 12 = [24, 42, 21, 6, 4, 182, 1, 94, 21, 5, 164, 0] := by decide +kernel
theorem dX12_blame_166 : decode cX12_blame 166 = .ok (.if_icmp .ge 24, 3) := dk_2162 (dk_g tcX12_blame_13 10 rfl) (dk_g tcX12_blame_13 11 rfl) (dk_g tcX12_blame_14 0 rfl) rfl rfl
theorem dX12_blame_169 : decode cX12_blame 169 = .ok (.aload_n 0, 1) := dk_1042 (dk_g tcX12_blame_14 1 rfl)
theorem dX12_blame_170 : decode cX12_blame 170 = .ok (.iload 6, 2) := dk_1021 (dk_g tcX12_blame_14 2 rfl) (dk_g tcX12_blame_14 3 rfl) rfl
theorem dX12_blame_172 : decode cX12_blame 172 = .ok (.iconst 1, 1) := dk_1004 (dk_g tcX12_blame_14 4 rfl)
theorem dX12_blame_173 : decode cX12_blame 173 = .ok (.invokevirtual 350, 3) := dk_1182 (dk_g tcX12_blame_14 5 rfl) (dk_g tcX12_blame_14 6 rfl) (dk_g tcX12_blame_14 7 rfl) rfl
theorem dX12_blame_176 : decode cX12_blame 176 = .ok (.iload 5, 2) := dk_1021 (dk_g tcX12_blame_14 8 rfl) (dk_g tcX12_blame_14 9 rfl) rfl
theorem tcX12_blame_15 : (cX12_blame.data.toList.drop 180).take 12 = [12, 42, 21, 6, 4, 182, 1, 94, 54, 5, 132, 6] := by decide +kernel
theorem dX12_blame_178 : decode cX12_blame 178 = .ok (.if_icmp .le 12, 3) := dk_2164 (dk_g tcX12_blame_14 10 rfl) (dk_g tcX12_blame_14 11 rfl) (dk_g tcX12_blame_15 0 rfl) rfl rfl
theorem dX12_blame_181 : decode cX12_blame 181 = .ok (.aload_n 0, 1) := dk_1042 (dk_g tcX12_blame_15 1 rfl)
theorem dX12_blame_182 : decode cX12_blame 182 = .ok (.iload 6, 2) := dk_1021 (dk_g tcX12_blame_15 2 rfl) (dk_g tcX12_blame_15 3 rfl) rfl
theorem dX12_blame_184 : decode cX12_blame 184 = .ok (.iconst 1, 1) := dk_1004 (dk_g tcX12_blame_15 4 rfl)
theorem dX12_blame_185 : decode cX12_blame 185 = .ok (.invokevirtual 350, 3) := dk_1182 (dk_g tcX12_blame_15 5 rfl) (dk_g tcX12_blame_15 6 rfl) (dk_g tcX12_blame_15 7 rfl) rfl
theorem dX12_blame_188 : decode cX12_blame 188 = .ok (.istore 5, 2) := dk_1054 (dk_g tcX12_blame_15 8 rfl) (dk_g tcX12_blame_15 9 rfl) rfl
theorem tcX12_blame_16 : (cX12_blame.data.toList.drop 192).take 12 = [1, 167, 255, 190, 28, 154, 0, 7, 29, 167, 0, 15] := by decide +kernel
theorem dX12_blame_190 : decode cX12_blame 190 = .ok (.iinc 6 1, 3) := dk_1132 (dk_g tcX12_blame_15 10 rfl) (dk_g tcX12_blame_15 11 rfl) (dk_g tcX12_blame_16 0 rfl) rfl (by decide +kernel)
theorem dX12_blame_193 : decode cX12_blame 193 = .ok (.goto (-66), 3) := dk_1167 (dk_g tcX12_blame_16 1 rfl) (dk_g tcX12_blame_16 2 rfl) (dk_g tcX12_blame_16 3 rfl) (by decide +kernel)
theorem dX12_blame_196 : decode cX12_blame 196 = .ok (.iload_n 2, 1) := dk_1028 (dk_g tcX12_blame_16 4 rfl)
theorem dX12_blame_197 : decode cX12_blame 197 = .ok (.ifCond .ne 7, 3) := dk_2154 (dk_g tcX12_blame_16 5 rfl) (dk_g tcX12_blame_16 6 rfl) (dk_g tcX12_blame_16 7 rfl) rfl rfl
theorem dX12_blame_200 : decode cX12_blame 200 = .ok (.iload_n 3, 1) := dk_1029 (dk_g tcX12_blame_16 8 rfl)
theorem dX12_blame_201 : decode cX12_blame 201 = .ok (.goto 15, 3) := dk_2167 (dk_g tcX12_blame_16 9 rfl) (dk_g tcX12_blame_16 10 rfl) (dk_g tcX12_blame_16 11 rfl) rfl rfl
theorem tcX12_blame_17 : (cX12_blame.data.toList.drop 204).take 12 = [28, 4, 160, 0, 8, 21, 5, 167, 0, 5, 21, 4] := by decide +kernel
theorem dX12_blame_204 : decode cX12_blame 204 = .ok (.iload_n 2, 1) := dk_1028 (dk_g tcX12_blame_17 0 rfl)
theorem dX12_blame_205 : decode cX12_blame 205 = .ok (.iconst 1, 1) := dk_1004 (dk_g tcX12_blame_17 1 rfl)
theorem dX12_blame_206 : decode cX12_blame 206 = .ok (.if_icmp .ne 8, 3) := dk_2160 (dk_g tcX12_blame_17 2 rfl) (dk_g tcX12_blame_17 3 rfl) (dk_g tcX12_blame_17 4 rfl) rfl rfl
theorem dX12_blame_209 : decode cX12_blame 209 = .ok (.iload 5, 2) := dk_1021 (dk_g tcX12_blame_17 5 rfl) (dk_g tcX12_blame_17 6 rfl) rfl
theorem dX12_blame_211 : decode cX12_blame 211 = .ok (.goto 5, 3) := dk_2167 (dk_g tcX12_blame_17 7 rfl) (dk_g tcX12_blame_17 8 rfl) (dk_g tcX12_blame_17 9 rfl) rfl rfl
theorem dX12_blame_214 : decode cX12_blame 214 = .ok (.iload 4, 2) := dk_1021 (dk_g tcX12_blame_17 10 rfl) (dk_g tcX12_blame_17 11 rfl) rfl
theorem tcX12_blame_18 : (cX12_blame.data.toList.drop 216).take 12 = [172] := by decide +kernel
theorem dX12_blame_216 : decode cX12_blame 216 = .ok (.ireturn, 1) := dk_1172 (dk_g tcX12_blame_18 0 rfl)
theorem tcX12_weak_0 : (cX12_weak.data.toList.drop 0).take 12 = [42, 21, 4, 3, 4, 184, 0, 113, 154, 0, 7, 4] := by decide +kernel
theorem dX12_weak_0 : decode cX12_weak 0 = .ok (.aload_n 0, 1) := dk_1042 (dk_g tcX12_weak_0 0 rfl)
theorem dX12_weak_1 : decode cX12_weak 1 = .ok (.iload 4, 2) := dk_1021 (dk_g tcX12_weak_0 1 rfl) (dk_g tcX12_weak_0 2 rfl) rfl
theorem dX12_weak_3 : decode cX12_weak 3 = .ok (.iconst 0, 1) := dk_1003 (dk_g tcX12_weak_0 3 rfl)
theorem dX12_weak_4 : decode cX12_weak 4 = .ok (.iconst 1, 1) := dk_1004 (dk_g tcX12_weak_0 4 rfl)
theorem dX12_weak_5 : decode cX12_weak 5 = .ok (.invokestatic 113, 3) := dk_1184 (dk_g tcX12_weak_0 5 rfl) (dk_g tcX12_weak_0 6 rfl) (dk_g tcX12_weak_0 7 rfl) rfl
theorem dX12_weak_8 : decode cX12_weak 8 = .ok (.ifCond .ne 7, 3) := dk_2154 (dk_g tcX12_weak_0 8 rfl) (dk_g tcX12_weak_0 9 rfl) (dk_g tcX12_weak_0 10 rfl) rfl rfl
theorem dX12_weak_11 : decode cX12_weak 11 = .ok (.iconst 1, 1) := dk_1004 (dk_g tcX12_weak_0 11 rfl)
theorem tcX12_weak_1 : (cX12_weak.data.toList.drop 12).take 12 = [167, 0, 10, 42, 27, 28, 29, 182, 1, 106, 182, 1] := by decide +kernel
theorem dX12_weak_12 : decode cX12_weak 12 = .ok (.goto 10, 3) := dk_2167 (dk_g tcX12_weak_1 0 rfl) (dk_g tcX12_weak_1 1 rfl) (dk_g tcX12_weak_1 2 rfl) rfl rfl
theorem dX12_weak_15 : decode cX12_weak 15 = .ok (.aload_n 0, 1) := dk_1042 (dk_g tcX12_weak_1 3 rfl)
theorem dX12_weak_16 : decode cX12_weak 16 = .ok (.iload_n 1, 1) := dk_1027 (dk_g tcX12_weak_1 4 rfl)
theorem dX12_weak_17 : decode cX12_weak 17 = .ok (.iload_n 2, 1) := dk_1028 (dk_g tcX12_weak_1 5 rfl)
theorem dX12_weak_18 : decode cX12_weak 18 = .ok (.iload_n 3, 1) := dk_1029 (dk_g tcX12_weak_1 6 rfl)
theorem dX12_weak_19 : decode cX12_weak 19 = .ok (.invokevirtual 362, 3) := dk_1182 (dk_g tcX12_weak_1 7 rfl) (dk_g tcX12_weak_1 8 rfl) (dk_g tcX12_weak_1 9 rfl) rfl
theorem tcX12_weak_2 : (cX12_weak.data.toList.drop 24).take 12 = [53, 154, 0, 5, 2, 172, 42, 28, 29, 182, 0, 171] := by decide +kernel
theorem dX12_weak_22 : decode cX12_weak 22 = .ok (.invokevirtual 309, 3) := dk_1182 (dk_g tcX12_weak_1 10 rfl) (dk_g tcX12_weak_1 11 rfl) (dk_g tcX12_weak_2 0 rfl) rfl
theorem dX12_weak_25 : decode cX12_weak 25 = .ok (.ifCond .ne 5, 3) := dk_2154 (dk_g tcX12_weak_2 1 rfl) (dk_g tcX12_weak_2 2 rfl) (dk_g tcX12_weak_2 3 rfl) rfl rfl
theorem dX12_weak_28 : decode cX12_weak 28 = .ok (.iconst (-1), 1) := dk_1002 (dk_g tcX12_weak_2 4 rfl)
theorem dX12_weak_29 : decode cX12_weak 29 = .ok (.ireturn, 1) := dk_1172 (dk_g tcX12_weak_2 5 rfl)
theorem dX12_weak_30 : decode cX12_weak 30 = .ok (.aload_n 0, 1) := dk_1042 (dk_g tcX12_weak_2 6 rfl)
theorem dX12_weak_31 : decode cX12_weak 31 = .ok (.iload_n 2, 1) := dk_1028 (dk_g tcX12_weak_2 7 rfl)
theorem dX12_weak_32 : decode cX12_weak 32 = .ok (.iload_n 3, 1) := dk_1029 (dk_g tcX12_weak_2 8 rfl)
theorem dX12_weak_33 : decode cX12_weak 33 = .ok (.invokevirtual 171, 3) := dk_1182 (dk_g tcX12_weak_2 9 rfl) (dk_g tcX12_weak_2 10 rfl) (dk_g tcX12_weak_2 11 rfl) rfl
theorem tcX12_weak_3 : (cX12_weak.data.toList.drop 36).take 12 = [42, 27, 182, 0, 161, 42, 27, 28, 182, 0, 125, 54] := by decide +kernel
theorem dX12_weak_36 : decode cX12_weak 36 = .ok (.aload_n 0, 1) := dk_1042 (dk_g tcX12_weak_3 0 rfl)
theorem dX12_weak_37 : decode cX12_weak 37 = .ok (.iload_n 1, 1) := dk_1027 (dk_g tcX12_weak_3 1 rfl)
theorem dX12_weak_38 : decode cX12_weak 38 = .ok (.invokevirtual 161, 3) := dk_1182 (dk_g tcX12_weak_3 2 rfl) (dk_g tcX12_weak_3 3 rfl) (dk_g tcX12_weak_3 4 rfl) rfl
theorem dX12_weak_41 : decode cX12_weak 41 = .ok (.aload_n 0, 1) := dk_1042 (dk_g tcX12_weak_3 5 rfl)
theorem dX12_weak_42 : decode cX12_weak 42 = .ok (.iload_n 1, 1) := dk_1027 (dk_g tcX12_weak_3 6 rfl)
theorem dX12_weak_43 : decode cX12_weak 43 = .ok (.iload_n 2, 1) := dk_1028 (dk_g tcX12_weak_3 7 rfl)
theorem dX12_weak_44 : decode cX12_weak 44 = .ok (.invokevirtual 125, 3) := dk_1182 (dk_g tcX12_weak_3 8 rfl) (dk_g tcX12_weak_3 9 rfl) (dk_g tcX12_weak_3 10 rfl) rfl
theorem tcX12_weak_4 : (cX12_weak.data.toList.drop 48).take 12 = [5, 42, 27, 29, 182, 0, 215, 54, 6, 3, 54, 7] := by decide +kernel
theorem dX12_weak_47 : decode cX12_weak 47 = .ok (.istore 5, 2) := dk_1054 (dk_g tcX12_weak_3 11 rfl) (dk_g tcX12_weak_4 0 rfl) rfl
theorem dX12_weak_49 : decode cX12_weak 49 = .ok (.aload_n 0, 1) := dk_1042 (dk_g tcX12_weak_4 1 rfl)
theorem dX12_weak_50 : decode cX12_weak 50 = .ok (.iload_n 1, 1) := dk_1027 (dk_g tcX12_weak_4 2 rfl)
theorem dX12_weak_51 : decode cX12_weak 51 = .ok (.iload_n 3, 1) := dk_1029 (dk_g tcX12_weak_4 3 rfl)
theorem dX12_weak_52 : decode cX12_weak 52 = .ok (.invokevirtual 215, 3) := dk_1182 (dk_g tcX12_weak_4 4 rfl) (dk_g tcX12_weak_4 5 rfl) (dk_g tcX12_weak_4 6 rfl) rfl
theorem dX12_weak_55 : decode cX12_weak 55 = .ok (.istore 6, 2) := dk_1054 (dk_g tcX12_weak_4 7 rfl) (dk_g tcX12_weak_4 8 rfl) rfl
theorem dX12_weak_57 : decode cX12_weak 57 = .ok (.iconst 0, 1) := dk_1003 (dk_g tcX12_weak_4 9 rfl)
theorem dX12_weak_58 : decode cX12_weak 58 = .ok (.istore 7, 2) := dk_1054 (dk_g tcX12_weak_4 10 rfl) (dk_g tcX12_weak_4 11 rfl) rfl
theorem tcX12_weak_5 : (cX12_weak.data.toList.drop 60).take 12 = [2, 54, 8, 42, 180, 0, 7, 4, 46, 4, 100, 54] := by decide +kernel
theorem dX12_weak_60 : decode cX12_weak 60 = .ok (.iconst (-1), 1) := dk_1002 (dk_g tcX12_weak_5 0 rfl)
theorem dX12_weak_61 : decode cX12_weak 61 = .ok (.istore 8, 2) := dk_1054 (dk_g tcX12_weak_5 1 rfl) (dk_g tcX12_weak_5 2 rfl) rfl
theorem dX12_weak_63 : decode cX12_weak 63 = .ok (.aload_n 0, 1) := dk_1042 (dk_g tcX12_weak_5 3 rfl)
theorem dX12_weak_64 : decode cX12_weak 64 = .ok (.getfield 7, 3) := dk_1180 (dk_g tcX12_weak_5 4 rfl) (dk_g tcX12_weak_5 5 rfl) (dk_g tcX12_weak_5 6 rfl) rfl
theorem dX12_weak_67 : decode cX12_weak 67 = .ok (.iconst 1, 1) := dk_1004 (dk_g tcX12_weak_5 7 rfl)
theorem dX12_weak_68 : decode cX12_weak 68 = .ok (.iaload, 1) := dk_1046 (dk_g tcX12_weak_5 8 rfl)
theorem dX12_weak_69 : decode cX12_weak 69 = .ok (.iconst 1, 1) := dk_1004 (dk_g tcX12_weak_5 9 rfl)
theorem dX12_weak_70 : decode cX12_weak 70 = .ok (.isub, 1) := dk_1100 (dk_g tcX12_weak_5 10 rfl)
theorem tcX12_weak_6 : (cX12_weak.data.toList.drop 72).take 12 = [9, 21, 9, 155, 0, 39, 21, 9, 21, 5, 159, 0] := by decide +kernel
theorem dX12_weak_71 : decode cX12_weak 71 = .ok (.istore 9, 2) := dk_1054 (dk_g tcX12_weak_5 11 rfl) (dk_g tcX12_weak_6 0 rfl) rfl
theorem dX12_weak_73 : decode cX12_weak 73 = .ok (.iload 9, 2) := dk_1021 (dk_g tcX12_weak_6 1 rfl) (dk_g tcX12_weak_6 2 rfl) rfl
theorem dX12_weak_75 : decode cX12_weak 75 = .ok (.ifCond .lt 39, 3) := dk_2155 (dk_g tcX12_weak_6 3 rfl) (dk_g tcX12_weak_6 4 rfl) (dk_g tcX12_weak_6 5 rfl) rfl rfl
theorem dX12_weak_78 : decode cX12_weak 78 = .ok (.iload 9, 2) := dk_1021 (dk_g tcX12_weak_6 6 rfl) (dk_g tcX12_weak_6 7 rfl) rfl
theorem dX12_weak_80 : decode cX12_weak 80 = .ok (.iload 5, 2) := dk_1021 (dk_g tcX12_weak_6 8 rfl) (dk_g tcX12_weak_6 9 rfl) rfl
theorem tcX12_weak_7 : (cX12_weak.data.toList.drop 84).take 12 = [26, 42, 21, 9, 28, 29, 182, 0, 174, 21, 6, 159] := by decide +kernel
theorem dX12_weak_82 : decode cX12_weak 82 = .ok (.if_icmp .eq 26, 3) := dk_2159 (dk_g tcX12_weak_6 10 rfl) (dk_g tcX12_weak_6 11 rfl) (dk_g tcX12_weak_7 0 rfl) rfl rfl
theorem dX12_weak_85 : decode cX12_weak 85 = .ok (.aload_n 0, 1) := dk_1042 (dk_g tcX12_weak_7 1 rfl)
theorem dX12_weak_86 : decode cX12_weak 86 = .ok (.iload 9, 2) := dk_1021 (dk_g tcX12_weak_7 2 rfl) (dk_g tcX12_weak_7 3 rfl) rfl
theorem dX12_weak_88 : decode cX12_weak 88 = .ok (.iload_n 2, 1) := dk_1028 (dk_g tcX12_weak_7 4 rfl)
theorem dX12_weak_89 : decode cX12_weak 89 = .ok (.iload_n 3, 1) := dk_1029 (dk_g tcX12_weak_7 5 rfl)
theorem dX12_weak_90 : decode cX12_weak 90 = .ok (.invokevirtual 174, 3) := dk_1182 (dk_g tcX12_weak_7 6 rfl) (dk_g tcX12_weak_7 7 rfl) (dk_g tcX12_weak_7 8 rfl) rfl
theorem dX12_weak_93 : decode cX12_weak 93 = .ok (.iload 6, 2) := dk_1021 (dk_g tcX12_weak_7 9 rfl) (dk_g tcX12_weak_7 10 rfl) rfl
theorem tcX12_weak_8 : (cX12_weak.data.toList.drop 96).take 12 = [0, 6, 167, 0, 10, 132, 7, 1, 21, 9, 54, 8] := by decide +kernel
theorem dX12_weak_95 : decode cX12_weak 95 = .ok (.if_icmp .eq 6, 3) := dk_2159 (dk_g tcX12_weak_7 11 rfl) (dk_g tcX12_weak_8 0 rfl) (dk_g tcX12_weak_8 1 rfl) rfl rfl
theorem dX12_weak_98 : decode cX12_weak 98 = .ok (.goto 10, 3) := dk_2167 (dk_g tcX12_weak_8 2 rfl) (dk_g tcX12_weak_8 3 rfl) (dk_g tcX12_weak_8 4 rfl) rfl rfl
theorem dX12_weak_101 : decode cX12_weak 101 = .ok (.iinc 7 1, 3) := dk_1132 (dk_g tcX12_weak_8 5 rfl) (dk_g tcX12_weak_8 6 rfl) (dk_g tcX12_weak_8 7 rfl) rfl (by decide +kernel)
theorem dX12_weak_104 : decode cX12_weak 104 = .ok (.iload 9, 2) := dk_1021 (dk_g tcX12_weak_8 8 rfl) (dk_g tcX12_weak_8 9 rfl) rfl
theorem dX12_weak_106 : decode cX12_weak 106 = .ok (.istore 8, 2) := dk_1054 (dk_g tcX12_weak_8 10 rfl) (dk_g tcX12_weak_8 11 rfl) rfl
theorem tcX12_weak_9 : (cX12_weak.data.toList.drop 108).take 12 = [132, 9, 255, 167, 255, 218, 21, 4, 154, 0, 8, 21] := by decide +kernel
theorem dX12_weak_108 : decode cX12_weak 108 = .ok (.iinc 9 (-1), 3) := dk_1132 (dk_g tcX12_weak_9 0 rfl) (dk_g tcX12_weak_9 1 rfl) (dk_g tcX12_weak_9 2 rfl) rfl (by decide +kernel)
theorem dX12_weak_111 : decode cX12_weak 111 = .ok (.goto (-38), 3) := dk_1167 (dk_g tcX12_weak_9 3 rfl) (dk_g tcX12_weak_9 4 rfl) (dk_g tcX12_weak_9 5 rfl) (by decide +kernel)
theorem dX12_weak_114 : decode cX12_weak 114 = .ok (.iload 4, 2) := dk_1021 (dk_g tcX12_weak_9 6 rfl) (dk_g tcX12_weak_9 7 rfl) rfl
theorem dX12_weak_116 : decode cX12_weak 116 = .ok (.ifCond .ne 8, 3) := dk_2154 (dk_g tcX12_weak_9 8 rfl) (dk_g tcX12_weak_9 9 rfl) (dk_g tcX12_weak_9 10 rfl) rfl rfl
theorem tcX12_weak_10 : (cX12_weak.data.toList.drop 120).take 12 = [7, 167, 0, 18, 21, 8, 156, 0, 11, 42, 8, 182] := by decide +kernel
theorem dX12_weak_119 : decode cX12_weak 119 = .ok (.iload 7, 2) := dk_1021 (dk_g tcX12_weak_9 11 rfl) (dk_g tcX12_weak_10 0 rfl) rfl
theorem dX12_weak_121 : decode cX12_weak 121 = .ok (.goto 18, 3) := dk_2167 (dk_g tcX12_weak_10 1 rfl) (dk_g tcX12_weak_10 2 rfl) (dk_g tcX12_weak_10 3 rfl) rfl rfl
theorem dX12_weak_124 : decode cX12_weak 124 = .ok (.iload 8, 2) := dk_1021 (dk_g tcX12_weak_10 4 rfl) (dk_g tcX12_weak_10 5 rfl) rfl
theorem dX12_weak_126 : decode cX12_weak 126 = .ok (.ifCond .ge 11, 3) := dk_2156 (dk_g tcX12_weak_10 6 rfl) (dk_g tcX12_weak_10 7 rfl) (dk_g tcX12_weak_10 8 rfl) rfl rfl
theorem dX12_weak_129 : decode cX12_weak 129 = .ok (.aload_n 0, 1) := dk_1042 (dk_g tcX12_weak_10 9 rfl)
theorem dX12_weak_130 : decode cX12_weak 130 = .ok (.iconst 5, 1) := dk_1008 (dk_g tcX12_weak_10 10 rfl)
theorem tcX12_weak_11 : (cX12_weak.data.toList.drop 132).take 12 = [0, 212, 167, 0, 5, 21, 8, 172] := by decide +kernel
theorem dX12_weak_131 : decode cX12_weak 131 = .ok (.invokevirtual 212, 3) := dk_1182 (dk_g tcX12_weak_10 11 rfl) (dk_g tcX12_weak_11 0 rfl) (dk_g tcX12_weak_11 1 rfl) rfl
theorem dX12_weak_134 : decode cX12_weak 134 = .ok (.goto 5, 3) := dk_2167 (dk_g tcX12_weak_11 2 rfl) (dk_g tcX12_weak_11 3 rfl) (dk_g tcX12_weak_11 4 rfl) rfl rfl
theorem dX12_weak_137 : decode cX12_weak 137 = .ok (.iload 8, 2) := dk_1021 (dk_g tcX12_weak_11 5 rfl) (dk_g tcX12_weak_11 6 rfl) rfl
theorem dX12_weak_139 : decode cX12_weak 139 = .ok (.ireturn, 1) := dk_1172 (dk_g tcX12_weak_11 7 rfl)
theorem tcX12_stepsIn_0 : (cX12_stepsIn.data.toList.drop 0).take 12 = [29, 4, 160, 0, 5, 27, 172, 29, 184, 0, 128, 54] := by decide +kernel
theorem dX12_stepsIn_0 : decode cX12_stepsIn 0 = .ok (.iload_n 3, 1) := dk_1029 (dk_g tcX12_stepsIn_0 0 rfl)
theorem dX12_stepsIn_1 : decode cX12_stepsIn 1 = .ok (.iconst 1, 1) := dk_1004 (dk_g tcX12_stepsIn_0 1 rfl)
theorem dX12_stepsIn_2 : decode cX12_stepsIn 2 = .ok (.if_icmp .ne 5, 3) := dk_2160 (dk_g tcX12_stepsIn_0 2 rfl) (dk_g tcX12_stepsIn_0 3 rfl) (dk_g tcX12_stepsIn_0 4 rfl) rfl rfl
theorem dX12_stepsIn_5 : decode cX12_stepsIn 5 = .ok (.iload_n 1, 1) := dk_1027 (dk_g tcX12_stepsIn_0 5 rfl)
theorem dX12_stepsIn_6 : decode cX12_stepsIn 6 = .ok (.ireturn, 1) := dk_1172 (dk_g tcX12_stepsIn_0 6 rfl)
theorem dX12_stepsIn_7 : decode cX12_stepsIn 7 = .ok (.iload_n 3, 1) := dk_1029 (dk_g tcX12_stepsIn_0 7 rfl)
theorem dX12_stepsIn_8 : decode cX12_stepsIn 8 = .ok (.invokestatic 128, 3) := dk_1184 (dk_g tcX12_stepsIn_0 8 rfl) (dk_g tcX12_stepsIn_0 9 rfl) (dk_g tcX12_stepsIn_0 10 rfl) rfl
theorem tcX12_stepsIn_1 : (cX12_stepsIn.data.toList.drop 12).take 12 = [4, 28, 21, 4, 162, 0, 14, 42, 27, 28, 21, 4] := by decide +kernel
theorem dX12_stepsIn_11 : decode cX12_stepsIn 11 = .ok (.istore 4, 2) := dk_1054 (dk_g tcX12_stepsIn_0 11 rfl) (dk_g tcX12_stepsIn_1 0 rfl) rfl
theorem dX12_stepsIn_13 : decode cX12_stepsIn 13 = .ok (.iload_n 2, 1) := dk_1028 (dk_g tcX12_stepsIn_1 1 rfl)
theorem dX12_stepsIn_14 : decode cX12_stepsIn 14 = .ok (.iload 4, 2) := dk_1021 (dk_g tcX12_stepsIn_1 2 rfl) (dk_g tcX12_stepsIn_1 3 rfl) rfl
theorem dX12_stepsIn_16 : decode cX12_stepsIn 16 = .ok (.if_icmp .ge 14, 3) := dk_2162 (dk_g tcX12_stepsIn_1 4 rfl) (dk_g tcX12_stepsIn_1 5 rfl) (dk_g tcX12_stepsIn_1 6 rfl) rfl rfl
theorem dX12_stepsIn_19 : decode cX12_stepsIn 19 = .ok (.aload_n 0, 1) := dk_1042 (dk_g tcX12_stepsIn_1 7 rfl)
theorem dX12_stepsIn_20 : decode cX12_stepsIn 20 = .ok (.iload_n 1, 1) := dk_1027 (dk_g tcX12_stepsIn_1 8 rfl)
theorem dX12_stepsIn_21 : decode cX12_stepsIn 21 = .ok (.iload_n 2, 1) := dk_1028 (dk_g tcX12_stepsIn_1 9 rfl)
theorem dX12_stepsIn_22 : decode cX12_stepsIn 22 = .ok (.iload 4, 2) := dk_1021 (dk_g tcX12_stepsIn_1 10 rfl) (dk_g tcX12_stepsIn_1 11 rfl) rfl
theorem tcX12_stepsIn_2 : (cX12_stepsIn.data.toList.drop 24).take 12 = [182, 1, 152, 167, 0, 16, 42, 27, 28, 21, 4, 100] := by decide +kernel
theorem dX12_stepsIn_24 : decode cX12_stepsIn 24 = .ok (.invokevirtual 408, 3) := dk_1182 (dk_g tcX12_stepsIn_2 0 rfl) (dk_g tcX12_stepsIn_2 1 rfl) (dk_g tcX12_stepsIn_2 2 rfl) rfl
theorem dX12_stepsIn_27 : decode cX12_stepsIn 27 = .ok (.goto 16, 3) := dk_2167 (dk_g tcX12_stepsIn_2 3 rfl) (dk_g tcX12_stepsIn_2 4 rfl) (dk_g tcX12_stepsIn_2 5 rfl) rfl rfl
theorem dX12_stepsIn_30 : decode cX12_stepsIn 30 = .ok (.aload_n 0, 1) := dk_1042 (dk_g tcX12_stepsIn_2 6 rfl)
theorem dX12_stepsIn_31 : decode cX12_stepsIn 31 = .ok (.iload_n 1, 1) := dk_1027 (dk_g tcX12_stepsIn_2 7 rfl)
theorem dX12_stepsIn_32 : decode cX12_stepsIn 32 = .ok (.iload_n 2, 1) := dk_1028 (dk_g tcX12_stepsIn_2 8 rfl)
theorem dX12_stepsIn_33 : decode cX12_stepsIn 33 = .ok (.iload 4, 2) := dk_1021 (dk_g tcX12_stepsIn_2 9 rfl) (dk_g tcX12_stepsIn_2 10 rfl) rfl
theorem dX12_stepsIn_35 : decode cX12_stepsIn 35 = .ok (.isub, 1) := dk_1100 (dk_g tcX12_stepsIn_2 11 rfl)
theorem tcX12_stepsIn_3 : (cX12_stepsIn.data.toList.drop 36).take 12 = [29, 21, 4, 100, 182, 1, 152, 54, 5, 42, 180, 0] := by decide +kernel
theorem dX12_stepsIn_36 : decode cX12_stepsIn 36 = .ok (.iload_n 3, 1) := dk_1029 (dk_g tcX12_stepsIn_3 0 rfl)
theorem dX12_stepsIn_37 : decode cX12_stepsIn 37 = .ok (.iload 4, 2) := dk_1021 (dk_g tcX12_stepsIn_3 1 rfl) (dk_g tcX12_stepsIn_3 2 rfl) rfl
theorem dX12_stepsIn_39 : decode cX12_stepsIn 39 = .ok (.isub, 1) := dk_1100 (dk_g tcX12_stepsIn_3 3 rfl)
theorem dX12_stepsIn_40 : decode cX12_stepsIn 40 = .ok (.invokevirtual 408, 3) := dk_1182 (dk_g tcX12_stepsIn_3 4 rfl) (dk_g tcX12_stepsIn_3 5 rfl) (dk_g tcX12_stepsIn_3 6 rfl) rfl
theorem dX12_stepsIn_43 : decode cX12_stepsIn 43 = .ok (.istore 5, 2) := dk_1054 (dk_g tcX12_stepsIn_3 7 rfl) (dk_g tcX12_stepsIn_3 8 rfl) rfl
theorem dX12_stepsIn_45 : decode cX12_stepsIn 45 = .ok (.aload_n 0, 1) := dk_1042 (dk_g tcX12_stepsIn_3 9 rfl)
theorem tcX12_stepsIn_4 : (cX12_stepsIn.data.toList.drop 48).take 12 = [76, 42, 180, 1, 155, 28, 21, 4, 162, 0, 8, 21] := by decide +kernel
theorem dX12_stepsIn_46 : decode cX12_stepsIn 46 = .ok (.getfield 76, 3) := dk_1180 (dk_g tcX12_stepsIn_3 10 rfl) (dk_g tcX12_stepsIn_3 11 rfl) (dk_g tcX12_stepsIn_4 0 rfl) rfl
theorem dX12_stepsIn_49 : decode cX12_stepsIn 49 = .ok (.aload_n 0, 1) := dk_1042 (dk_g tcX12_stepsIn_4 1 rfl)
theorem dX12_stepsIn_50 : decode cX12_stepsIn 50 = .ok (.getfield 411, 3) := dk_1180 (dk_g tcX12_stepsIn_4 2 rfl) (dk_g tcX12_stepsIn_4 3 rfl) (dk_g tcX12_stepsIn_4 4 rfl) rfl
theorem dX12_stepsIn_53 : decode cX12_stepsIn 53 = .ok (.iload_n 2, 1) := dk_1028 (dk_g tcX12_stepsIn_4 5 rfl)
theorem dX12_stepsIn_54 : decode cX12_stepsIn 54 = .ok (.iload 4, 2) := dk_1021 (dk_g tcX12_stepsIn_4 6 rfl) (dk_g tcX12_stepsIn_4 7 rfl) rfl
theorem dX12_stepsIn_56 : decode cX12_stepsIn 56 = .ok (.if_icmp .ge 8, 3) := dk_2162 (dk_g tcX12_stepsIn_4 8 rfl) (dk_g tcX12_stepsIn_4 9 rfl) (dk_g tcX12_stepsIn_4 10 rfl) rfl rfl
theorem tcX12_stepsIn_5 : (cX12_stepsIn.data.toList.drop 60).take 12 = [5, 167, 0, 12, 42, 180, 0, 22, 42, 180, 1, 155] := by decide +kernel
theorem dX12_stepsIn_59 : decode cX12_stepsIn 59 = .ok (.iload 5, 2) := dk_1021 (dk_g tcX12_stepsIn_4 11 rfl) (dk_g tcX12_stepsIn_5 0 rfl) rfl
theorem dX12_stepsIn_61 : decode cX12_stepsIn 61 = .ok (.goto 12, 3) := dk_2167 (dk_g tcX12_stepsIn_5 1 rfl) (dk_g tcX12_stepsIn_5 2 rfl) (dk_g tcX12_stepsIn_5 3 rfl) rfl rfl
theorem dX12_stepsIn_64 : decode cX12_stepsIn 64 = .ok (.aload_n 0, 1) := dk_1042 (dk_g tcX12_stepsIn_5 4 rfl)
theorem dX12_stepsIn_65 : decode cX12_stepsIn 65 = .ok (.getfield 22, 3) := dk_1180 (dk_g tcX12_stepsIn_5 5 rfl) (dk_g tcX12_stepsIn_5 6 rfl) (dk_g tcX12_stepsIn_5 7 rfl) rfl
theorem dX12_stepsIn_68 : decode cX12_stepsIn 68 = .ok (.aload_n 0, 1) := dk_1042 (dk_g tcX12_stepsIn_5 8 rfl)
theorem dX12_stepsIn_69 : decode cX12_stepsIn 69 = .ok (.getfield 411, 3) := dk_1180 (dk_g tcX12_stepsIn_5 9 rfl) (dk_g tcX12_stepsIn_5 10 rfl) (dk_g tcX12_stepsIn_5 11 rfl) rfl
theorem tcX12_stepsIn_6 : (cX12_stepsIn.data.toList.drop 72).take 12 = [46, 79, 42, 180, 0, 79, 42, 180, 1, 155, 28, 21] := by decide +kernel
theorem dX12_stepsIn_72 : decode cX12_stepsIn 72 = .ok (.iaload, 1) := dk_1046 (dk_g tcX12_stepsIn_6 0 rfl)
theorem dX12_stepsIn_73 : decode cX12_stepsIn 73 = .ok (.iastore, 1) := dk_1079 (dk_g tcX12_stepsIn_6 1 rfl)
theorem dX12_stepsIn_74 : decode cX12_stepsIn 74 = .ok (.aload_n 0, 1) := dk_1042 (dk_g tcX12_stepsIn_6 2 rfl)
theorem dX12_stepsIn_75 : decode cX12_stepsIn 75 = .ok (.getfield 79, 3) := dk_1180 (dk_g tcX12_stepsIn_6 3 rfl) (dk_g tcX12_stepsIn_6 4 rfl) (dk_g tcX12_stepsIn_6 5 rfl) rfl
theorem dX12_stepsIn_78 : decode cX12_stepsIn 78 = .ok (.aload_n 0, 1) := dk_1042 (dk_g tcX12_stepsIn_6 6 rfl)
theorem dX12_stepsIn_79 : decode cX12_stepsIn 79 = .ok (.getfield 411, 3) := dk_1180 (dk_g tcX12_stepsIn_6 7 rfl) (dk_g tcX12_stepsIn_6 8 rfl) (dk_g tcX12_stepsIn_6 9 rfl) rfl
theorem dX12_stepsIn_82 : decode cX12_stepsIn 82 = .ok (.iload_n 2, 1) := dk_1028 (dk_g tcX12_stepsIn_6 10 rfl)
theorem tcX12_stepsIn_7 : (cX12_stepsIn.data.toList.drop 84).take 12 = [4, 162, 0, 15, 42, 180, 0, 22, 42, 180, 1, 155] := by decide +kernel
theorem dX12_stepsIn_83 : decode cX12_stepsIn 83 = .ok (.iload 4, 2) := dk_1021 (dk_g tcX12_stepsIn_6 11 rfl) (dk_g tcX12_stepsIn_7 0 rfl) rfl
theorem dX12_stepsIn_85 : decode cX12_stepsIn 85 = .ok (.if_icmp .ge 15, 3) := dk_2162 (dk_g tcX12_stepsIn_7 1 rfl) (dk_g tcX12_stepsIn_7 2 rfl) (dk_g tcX12_stepsIn_7 3 rfl) rfl rfl
theorem dX12_stepsIn_88 : decode cX12_stepsIn 88 = .ok (.aload_n 0, 1) := dk_1042 (dk_g tcX12_stepsIn_7 4 rfl)
theorem dX12_stepsIn_89 : decode cX12_stepsIn 89 = .ok (.getfield 22, 3) := dk_1180 (dk_g tcX12_stepsIn_7 5 rfl) (dk_g tcX12_stepsIn_7 6 rfl) (dk_g tcX12_stepsIn_7 7 rfl) rfl
theorem dX12_stepsIn_92 : decode cX12_stepsIn 92 = .ok (.aload_n 0, 1) := dk_1042 (dk_g tcX12_stepsIn_7 8 rfl)
theorem dX12_stepsIn_93 : decode cX12_stepsIn 93 = .ok (.getfield 411, 3) := dk_1180 (dk_g tcX12_stepsIn_7 9 rfl) (dk_g tcX12_stepsIn_7 10 rfl) (dk_g tcX12_stepsIn_7 11 rfl) rfl
theorem tcX12_stepsIn_8 : (cX12_stepsIn.data.toList.drop 96).take 12 = [46, 167, 0, 5, 21, 5, 79, 42, 180, 0, 82, 42] := by decide +kernel
theorem dX12_stepsIn_96 : decode cX12_stepsIn 96 = .ok (.iaload, 1) := dk_1046 (dk_g tcX12_stepsIn_8 0 rfl)
theorem dX12_stepsIn_97 : decode cX12_stepsIn 97 = .ok (.goto 5, 3) := dk_2167 (dk_g tcX12_stepsIn_8 1 rfl) (dk_g tcX12_stepsIn_8 2 rfl) (dk_g tcX12_stepsIn_8 3 rfl) rfl rfl
theorem dX12_stepsIn_100 : decode cX12_stepsIn 100 = .ok (.iload 5, 2) := dk_1021 (dk_g tcX12_stepsIn_8 4 rfl) (dk_g tcX12_stepsIn_8 5 rfl) rfl
theorem dX12_stepsIn_102 : decode cX12_stepsIn 102 = .ok (.iastore, 1) := dk_1079 (dk_g tcX12_stepsIn_8 6 rfl)
theorem dX12_stepsIn_103 : decode cX12_stepsIn 103 = .ok (.aload_n 0, 1) := dk_1042 (dk_g tcX12_stepsIn_8 7 rfl)
theorem dX12_stepsIn_104 : decode cX12_stepsIn 104 = .ok (.getfield 82, 3) := dk_1180 (dk_g tcX12_stepsIn_8 8 rfl) (dk_g tcX12_stepsIn_8 9 rfl) (dk_g tcX12_stepsIn_8 10 rfl) rfl
theorem dX12_stepsIn_107 : decode cX12_stepsIn 107 = .ok (.aload_n 0, 1) := dk_1042 (dk_g tcX12_stepsIn_8 11 rfl)
theorem tcX12_stepsIn_9 : (cX12_stepsIn.data.toList.drop 108).take 12 = [180, 1, 155, 42, 42, 180, 0, 76, 42, 180, 1, 155] := by decide +kernel
theorem dX12_stepsIn_108 : decode cX12_stepsIn 108 = .ok (.getfield 411, 3) := dk_1180 (dk_g tcX12_stepsIn_9 0 rfl) (dk_g tcX12_stepsIn_9 1 rfl) (dk_g tcX12_stepsIn_9 2 rfl) rfl
theorem dX12_stepsIn_111 : decode cX12_stepsIn 111 = .ok (.aload_n 0, 1) := dk_1042 (dk_g tcX12_stepsIn_9 3 rfl)
theorem dX12_stepsIn_112 : decode cX12_stepsIn 112 = .ok (.aload_n 0, 1) := dk_1042 (dk_g tcX12_stepsIn_9 4 rfl)
theorem dX12_stepsIn_113 : decode cX12_stepsIn 113 = .ok (.getfield 76, 3) := dk_1180 (dk_g tcX12_stepsIn_9 5 rfl) (dk_g tcX12_stepsIn_9 6 rfl) (dk_g tcX12_stepsIn_9 7 rfl) rfl
theorem dX12_stepsIn_116 : decode cX12_stepsIn 116 = .ok (.aload_n 0, 1) := dk_1042 (dk_g tcX12_stepsIn_9 8 rfl)
theorem dX12_stepsIn_117 : decode cX12_stepsIn 117 = .ok (.getfield 411, 3) := dk_1180 (dk_g tcX12_stepsIn_9 9 rfl) (dk_g tcX12_stepsIn_9 10 rfl) (dk_g tcX12_stepsIn_9 11 rfl) rfl
theorem tcX12_stepsIn_10 : (cX12_stepsIn.data.toList.drop 120).take 12 = [46, 42, 180, 0, 79, 42, 180, 1, 155, 46, 182, 0] := by decide +kernel
theorem dX12_stepsIn_120 : decode cX12_stepsIn 120 = .ok (.iaload, 1) := dk_1046 (dk_g tcX12_stepsIn_10 0 rfl)
theorem dX12_stepsIn_121 : decode cX12_stepsIn 121 = .ok (.aload_n 0, 1) := dk_1042 (dk_g tcX12_stepsIn_10 1 rfl)
theorem dX12_stepsIn_122 : decode cX12_stepsIn 122 = .ok (.getfield 79, 3) := dk_1180 (dk_g tcX12_stepsIn_10 2 rfl) (dk_g tcX12_stepsIn_10 3 rfl) (dk_g tcX12_stepsIn_10 4 rfl) rfl
theorem dX12_stepsIn_125 : decode cX12_stepsIn 125 = .ok (.aload_n 0, 1) := dk_1042 (dk_g tcX12_stepsIn_10 5 rfl)
theorem dX12_stepsIn_126 : decode cX12_stepsIn 126 = .ok (.getfield 411, 3) := dk_1180 (dk_g tcX12_stepsIn_10 6 rfl) (dk_g tcX12_stepsIn_10 7 rfl) (dk_g tcX12_stepsIn_10 8 rfl) rfl
theorem dX12_stepsIn_129 : decode cX12_stepsIn 129 = .ok (.iaload, 1) := dk_1046 (dk_g tcX12_stepsIn_10 9 rfl)
theorem tcX12_stepsIn_11 : (cX12_stepsIn.data.toList.drop 132).take 12 = [136, 79, 42, 89, 180, 1, 155, 4, 96, 181, 1, 155] := by decide +kernel
theorem dX12_stepsIn_130 : decode cX12_stepsIn 130 = .ok (.invokevirtual 136, 3) := dk_1182 (dk_g tcX12_stepsIn_10 10 rfl) (dk_g tcX12_stepsIn_10 11 rfl) (dk_g tcX12_stepsIn_11 0 rfl) rfl
theorem dX12_stepsIn_133 : decode cX12_stepsIn 133 = .ok (.iastore, 1) := dk_1079 (dk_g tcX12_stepsIn_11 1 rfl)
theorem dX12_stepsIn_134 : decode cX12_stepsIn 134 = .ok (.aload_n 0, 1) := dk_1042 (dk_g tcX12_stepsIn_11 2 rfl)
theorem dX12_stepsIn_135 : decode cX12_stepsIn 135 = .ok (.dup, 1) := dk_1089 (dk_g tcX12_stepsIn_11 3 rfl)
theorem dX12_stepsIn_136 : decode cX12_stepsIn 136 = .ok (.getfield 411, 3) := dk_1180 (dk_g tcX12_stepsIn_11 4 rfl) (dk_g tcX12_stepsIn_11 5 rfl) (dk_g tcX12_stepsIn_11 6 rfl) rfl
theorem dX12_stepsIn_139 : decode cX12_stepsIn 139 = .ok (.iconst 1, 1) := dk_1004 (dk_g tcX12_stepsIn_11 7 rfl)
theorem dX12_stepsIn_140 : decode cX12_stepsIn 140 = .ok (.iadd, 1) := dk_1096 (dk_g tcX12_stepsIn_11 8 rfl)
theorem dX12_stepsIn_141 : decode cX12_stepsIn 141 = .ok (.putfield 411, 3) := dk_1181 (dk_g tcX12_stepsIn_11 9 rfl) (dk_g tcX12_stepsIn_11 10 rfl) (dk_g tcX12_stepsIn_11 11 rfl) rfl
theorem tcX12_stepsIn_12 : (cX12_stepsIn.data.toList.drop 144).take 12 = [42, 180, 0, 82, 42, 180, 1, 155, 4, 100, 46, 172] := by decide +kernel
theorem dX12_stepsIn_144 : decode cX12_stepsIn 144 = .ok (.aload_n 0, 1) := dk_1042 (dk_g tcX12_stepsIn_12 0 rfl)
theorem dX12_stepsIn_145 : decode cX12_stepsIn 145 = .ok (.getfield 82, 3) := dk_1180 (dk_g tcX12_stepsIn_12 1 rfl) (dk_g tcX12_stepsIn_12 2 rfl) (dk_g tcX12_stepsIn_12 3 rfl) rfl
theorem dX12_stepsIn_148 : decode cX12_stepsIn 148 = .ok (.aload_n 0, 1) := dk_1042 (dk_g tcX12_stepsIn_12 4 rfl)
theorem dX12_stepsIn_149 : decode cX12_stepsIn 149 = .ok (.getfield 411, 3) := dk_1180 (dk_g tcX12_stepsIn_12 5 rfl) (dk_g tcX12_stepsIn_12 6 rfl) (dk_g tcX12_stepsIn_12 7 rfl) rfl
theorem dX12_stepsIn_152 : decode cX12_stepsIn 152 = .ok (.iconst 1, 1) := dk_1004 (dk_g tcX12_stepsIn_12 8 rfl)
theorem dX12_stepsIn_153 : decode cX12_stepsIn 153 = .ok (.isub, 1) := dk_1100 (dk_g tcX12_stepsIn_12 9 rfl)
theorem dX12_stepsIn_154 : decode cX12_stepsIn 154 = .ok (.iaload, 1) := dk_1046 (dk_g tcX12_stepsIn_12 10 rfl)
theorem dX12_stepsIn_155 : decode cX12_stepsIn 155 = .ok (.ireturn, 1) := dk_1172 (dk_g tcX12_stepsIn_12 11 rfl)
theorem tcX12_clash_0 : (cX12_clash.data.toList.drop 0).take 12 = [42, 21, 5, 3, 7, 184, 0, 113, 153, 0, 12, 42] := by decide +kernel
theorem dX12_clash_0 : decode cX12_clash 0 = .ok (.aload_n 0, 1) := dk_1042 (dk_g tcX12_clash_0 0 rfl)
theorem dX12_clash_1 : decode cX12_clash 1 = .ok (.iload 5, 2) := dk_1021 (dk_g tcX12_clash_0 1 rfl) (dk_g tcX12_clash_0 2 rfl) rfl
theorem dX12_clash_3 : decode cX12_clash 3 = .ok (.iconst 0, 1) := dk_1003 (dk_g tcX12_clash_0 3 rfl)
theorem dX12_clash_4 : decode cX12_clash 4 = .ok (.iconst 4, 1) := dk_1007 (dk_g tcX12_clash_0 4 rfl)
theorem dX12_clash_5 : decode cX12_clash 5 = .ok (.invokestatic 113, 3) := dk_1184 (dk_g tcX12_clash_0 5 rfl) (dk_g tcX12_clash_0 6 rfl) (dk_g tcX12_clash_0 7 rfl) rfl
theorem dX12_clash_8 : decode cX12_clash 8 = .ok (.ifCond .eq 12, 3) := dk_2153 (dk_g tcX12_clash_0 8 rfl) (dk_g tcX12_clash_0 9 rfl) (dk_g tcX12_clash_0 10 rfl) rfl rfl
theorem dX12_clash_11 : decode cX12_clash 11 = .ok (.aload_n 0, 1) := dk_1042 (dk_g tcX12_clash_0 11 rfl)
theorem tcX12_clash_1 : (cX12_clash.data.toList.drop 12).take 12 = [21, 4, 182, 1, 65, 154, 0, 7, 4, 167, 0, 10] := by decide +kernel
theorem dX12_clash_12 : decode cX12_clash 12 = .ok (.iload 4, 2) := dk_1021 (dk_g tcX12_clash_1 0 rfl) (dk_g tcX12_clash_1 1 rfl) rfl
theorem dX12_clash_14 : decode cX12_clash 14 = .ok (.invokevirtual 321, 3) := dk_1182 (dk_g tcX12_clash_1 2 rfl) (dk_g tcX12_clash_1 3 rfl) (dk_g tcX12_clash_1 4 rfl) rfl
theorem dX12_clash_17 : decode cX12_clash 17 = .ok (.ifCond .ne 7, 3) := dk_2154 (dk_g tcX12_clash_1 5 rfl) (dk_g tcX12_clash_1 6 rfl) (dk_g tcX12_clash_1 7 rfl) rfl rfl
theorem dX12_clash_20 : decode cX12_clash 20 = .ok (.iconst 1, 1) := dk_1004 (dk_g tcX12_clash_1 8 rfl)
theorem dX12_clash_21 : decode cX12_clash 21 = .ok (.goto 10, 3) := dk_2167 (dk_g tcX12_clash_1 9 rfl) (dk_g tcX12_clash_1 10 rfl) (dk_g tcX12_clash_1 11 rfl) rfl rfl
theorem tcX12_clash_2 : (cX12_clash.data.toList.drop 24).take 12 = [42, 27, 28, 29, 182, 1, 106, 182, 1, 53, 154, 0] := by decide +kernel
theorem dX12_clash_24 : decode cX12_clash 24 = .ok (.aload_n 0, 1) := dk_1042 (dk_g tcX12_clash_2 0 rfl)
theorem dX12_clash_25 : decode cX12_clash 25 = .ok (.iload_n 1, 1) := dk_1027 (dk_g tcX12_clash_2 1 rfl)
theorem dX12_clash_26 : decode cX12_clash 26 = .ok (.iload_n 2, 1) := dk_1028 (dk_g tcX12_clash_2 2 rfl)
theorem dX12_clash_27 : decode cX12_clash 27 = .ok (.iload_n 3, 1) := dk_1029 (dk_g tcX12_clash_2 3 rfl)
theorem dX12_clash_28 : decode cX12_clash 28 = .ok (.invokevirtual 362, 3) := dk_1182 (dk_g tcX12_clash_2 4 rfl) (dk_g tcX12_clash_2 5 rfl) (dk_g tcX12_clash_2 6 rfl) rfl
theorem dX12_clash_31 : decode cX12_clash 31 = .ok (.invokevirtual 309, 3) := dk_1182 (dk_g tcX12_clash_2 7 rfl) (dk_g tcX12_clash_2 8 rfl) (dk_g tcX12_clash_2 9 rfl) rfl
theorem tcX12_clash_3 : (cX12_clash.data.toList.drop 36).take 12 = [5, 2, 172, 42, 42, 182, 1, 128, 21, 4, 28, 29] := by decide +kernel
theorem dX12_clash_34 : decode cX12_clash 34 = .ok (.ifCond .ne 5, 3) := dk_2154 (dk_g tcX12_clash_2 10 rfl) (dk_g tcX12_clash_2 11 rfl) (dk_g tcX12_clash_3 0 rfl) rfl rfl
theorem dX12_clash_37 : decode cX12_clash 37 = .ok (.iconst (-1), 1) := dk_1002 (dk_g tcX12_clash_3 1 rfl)
theorem dX12_clash_38 : decode cX12_clash 38 = .ok (.ireturn, 1) := dk_1172 (dk_g tcX12_clash_3 2 rfl)
theorem dX12_clash_39 : decode cX12_clash 39 = .ok (.aload_n 0, 1) := dk_1042 (dk_g tcX12_clash_3 3 rfl)
theorem dX12_clash_40 : decode cX12_clash 40 = .ok (.aload_n 0, 1) := dk_1042 (dk_g tcX12_clash_3 4 rfl)
theorem dX12_clash_41 : decode cX12_clash 41 = .ok (.invokevirtual 384, 3) := dk_1182 (dk_g tcX12_clash_3 5 rfl) (dk_g tcX12_clash_3 6 rfl) (dk_g tcX12_clash_3 7 rfl) rfl
theorem dX12_clash_44 : decode cX12_clash 44 = .ok (.iload 4, 2) := dk_1021 (dk_g tcX12_clash_3 8 rfl) (dk_g tcX12_clash_3 9 rfl) rfl
theorem dX12_clash_46 : decode cX12_clash 46 = .ok (.iload_n 2, 1) := dk_1028 (dk_g tcX12_clash_3 10 rfl)
theorem dX12_clash_47 : decode cX12_clash 47 = .ok (.iload_n 3, 1) := dk_1029 (dk_g tcX12_clash_3 11 rfl)
theorem tcX12_clash_4 : (cX12_clash.data.toList.drop 48).take 12 = [42, 27, 29, 182, 0, 215, 182, 1, 76, 158, 0, 9] := by decide +kernel
theorem dX12_clash_48 : decode cX12_clash 48 = .ok (.aload_n 0, 1) := dk_1042 (dk_g tcX12_clash_4 0 rfl)
theorem dX12_clash_49 : decode cX12_clash 49 = .ok (.iload_n 1, 1) := dk_1027 (dk_g tcX12_clash_4 1 rfl)
theorem dX12_clash_50 : decode cX12_clash 50 = .ok (.iload_n 3, 1) := dk_1029 (dk_g tcX12_clash_4 2 rfl)
theorem dX12_clash_51 : decode cX12_clash 51 = .ok (.invokevirtual 215, 3) := dk_1182 (dk_g tcX12_clash_4 3 rfl) (dk_g tcX12_clash_4 4 rfl) (dk_g tcX12_clash_4 5 rfl) rfl
theorem dX12_clash_54 : decode cX12_clash 54 = .ok (.invokevirtual 332, 3) := dk_1182 (dk_g tcX12_clash_4 6 rfl) (dk_g tcX12_clash_4 7 rfl) (dk_g tcX12_clash_4 8 rfl) rfl
theorem dX12_clash_57 : decode cX12_clash 57 = .ok (.ifCond .le 9, 3) := dk_2158 (dk_g tcX12_clash_4 9 rfl) (dk_g tcX12_clash_4 10 rfl) (dk_g tcX12_clash_4 11 rfl) rfl rfl
theorem tcX12_clash_5 : (cX12_clash.data.toList.drop 60).take 12 = [42, 8, 182, 0, 212, 172, 42, 3, 181, 1, 155, 42] := by decide +kernel
theorem dX12_clash_60 : decode cX12_clash 60 = .ok (.aload_n 0, 1) := dk_1042 (dk_g tcX12_clash_5 0 rfl)
theorem dX12_clash_61 : decode cX12_clash 61 = .ok (.iconst 5, 1) := dk_1008 (dk_g tcX12_clash_5 1 rfl)
theorem dX12_clash_62 : decode cX12_clash 62 = .ok (.invokevirtual 212, 3) := dk_1182 (dk_g tcX12_clash_5 2 rfl) (dk_g tcX12_clash_5 3 rfl) (dk_g tcX12_clash_5 4 rfl) rfl
theorem dX12_clash_65 : decode cX12_clash 65 = .ok (.ireturn, 1) := dk_1172 (dk_g tcX12_clash_5 5 rfl)
theorem dX12_clash_66 : decode cX12_clash 66 = .ok (.aload_n 0, 1) := dk_1042 (dk_g tcX12_clash_5 6 rfl)
theorem dX12_clash_67 : decode cX12_clash 67 = .ok (.iconst 0, 1) := dk_1003 (dk_g tcX12_clash_5 7 rfl)
theorem dX12_clash_68 : decode cX12_clash 68 = .ok (.putfield 411, 3) := dk_1181 (dk_g tcX12_clash_5 8 rfl) (dk_g tcX12_clash_5 9 rfl) (dk_g tcX12_clash_5 10 rfl) rfl
theorem dX12_clash_71 : decode cX12_clash 71 = .ok (.aload_n 0, 1) := dk_1042 (dk_g tcX12_clash_5 11 rfl)
theorem tcX12_clash_6 : (cX12_clash.data.toList.drop 72).take 12 = [21, 4, 28, 29, 182, 1, 152, 87, 3, 54, 6, 21] := by decide +kernel
theorem dX12_clash_72 : decode cX12_clash 72 = .ok (.iload 4, 2) := dk_1021 (dk_g tcX12_clash_6 0 rfl) (dk_g tcX12_clash_6 1 rfl) rfl
theorem dX12_clash_74 : decode cX12_clash 74 = .ok (.iload_n 2, 1) := dk_1028 (dk_g tcX12_clash_6 2 rfl)
theorem dX12_clash_75 : decode cX12_clash 75 = .ok (.iload_n 3, 1) := dk_1029 (dk_g tcX12_clash_6 3 rfl)
theorem dX12_clash_76 : decode cX12_clash 76 = .ok (.invokevirtual 408, 3) := dk_1182 (dk_g tcX12_clash_6 4 rfl) (dk_g tcX12_clash_6 5 rfl) (dk_g tcX12_clash_6 6 rfl) rfl
theorem dX12_clash_79 : decode cX12_clash 79 = .ok (.pop, 1) := dk_1087 (dk_g tcX12_clash_6 7 rfl)
theorem dX12_clash_80 : decode cX12_clash 80 = .ok (.iconst 0, 1) := dk_1003 (dk_g tcX12_clash_6 8 rfl)
theorem dX12_clash_81 : decode cX12_clash 81 = .ok (.istore 6, 2) := dk_1054 (dk_g tcX12_clash_6 9 rfl) (dk_g tcX12_clash_6 10 rfl) rfl
theorem tcX12_clash_7 : (cX12_clash.data.toList.drop 84).take 12 = [6, 42, 180, 1, 155, 162, 0, 51, 42, 180, 0, 85] := by decide +kernel
theorem dX12_clash_83 : decode cX12_clash 83 = .ok (.iload 6, 2) := dk_1021 (dk_g tcX12_clash_6 11 rfl) (dk_g tcX12_clash_7 0 rfl) rfl
theorem dX12_clash_85 : decode cX12_clash 85 = .ok (.aload_n 0, 1) := dk_1042 (dk_g tcX12_clash_7 1 rfl)
theorem dX12_clash_86 : decode cX12_clash 86 = .ok (.getfield 411, 3) := dk_1180 (dk_g tcX12_clash_7 2 rfl) (dk_g tcX12_clash_7 3 rfl) (dk_g tcX12_clash_7 4 rfl) rfl
theorem dX12_clash_89 : decode cX12_clash 89 = .ok (.if_icmp .ge 51, 3) := dk_2162 (dk_g tcX12_clash_7 5 rfl) (dk_g tcX12_clash_7 6 rfl) (dk_g tcX12_clash_7 7 rfl) rfl rfl
theorem dX12_clash_92 : decode cX12_clash 92 = .ok (.aload_n 0, 1) := dk_1042 (dk_g tcX12_clash_7 8 rfl)
theorem dX12_clash_93 : decode cX12_clash 93 = .ok (.getfield 85, 3) := dk_1180 (dk_g tcX12_clash_7 9 rfl) (dk_g tcX12_clash_7 10 rfl) (dk_g tcX12_clash_7 11 rfl) rfl
theorem tcX12_clash_8 : (cX12_clash.data.toList.drop 96).take 12 = [21, 6, 42, 180, 0, 76, 21, 6, 46, 79, 42, 180] := by decide +kernel
theorem dX12_clash_96 : decode cX12_clash 96 = .ok (.iload 6, 2) := dk_1021 (dk_g tcX12_clash_8 0 rfl) (dk_g tcX12_clash_8 1 rfl) rfl
theorem dX12_clash_98 : decode cX12_clash 98 = .ok (.aload_n 0, 1) := dk_1042 (dk_g tcX12_clash_8 2 rfl)
theorem dX12_clash_99 : decode cX12_clash 99 = .ok (.getfield 76, 3) := dk_1180 (dk_g tcX12_clash_8 3 rfl) (dk_g tcX12_clash_8 4 rfl) (dk_g tcX12_clash_8 5 rfl) rfl
theorem dX12_clash_102 : decode cX12_clash 102 = .ok (.iload 6, 2) := dk_1021 (dk_g tcX12_clash_8 6 rfl) (dk_g tcX12_clash_8 7 rfl) rfl
theorem dX12_clash_104 : decode cX12_clash 104 = .ok (.iaload, 1) := dk_1046 (dk_g tcX12_clash_8 8 rfl)
theorem dX12_clash_105 : decode cX12_clash 105 = .ok (.iastore, 1) := dk_1079 (dk_g tcX12_clash_8 9 rfl)
theorem dX12_clash_106 : decode cX12_clash 106 = .ok (.aload_n 0, 1) := dk_1042 (dk_g tcX12_clash_8 10 rfl)
theorem tcX12_clash_9 : (cX12_clash.data.toList.drop 108).take 12 = [0, 88, 21, 6, 42, 180, 0, 79, 21, 6, 46, 79] := by decide +kernel
theorem dX12_clash_107 : decode cX12_clash 107 = .ok (.getfield 88, 3) := dk_1180 (dk_g tcX12_clash_8 11 rfl) (dk_g tcX12_clash_9 0 rfl) (dk_g tcX12_clash_9 1 rfl) rfl
theorem dX12_clash_110 : decode cX12_clash 110 = .ok (.iload 6, 2) := dk_1021 (dk_g tcX12_clash_9 2 rfl) (dk_g tcX12_clash_9 3 rfl) rfl
theorem dX12_clash_112 : decode cX12_clash 112 = .ok (.aload_n 0, 1) := dk_1042 (dk_g tcX12_clash_9 4 rfl)
theorem dX12_clash_113 : decode cX12_clash 113 = .ok (.getfield 79, 3) := dk_1180 (dk_g tcX12_clash_9 5 rfl) (dk_g tcX12_clash_9 6 rfl) (dk_g tcX12_clash_9 7 rfl) rfl
theorem dX12_clash_116 : decode cX12_clash 116 = .ok (.iload 6, 2) := dk_1021 (dk_g tcX12_clash_9 8 rfl) (dk_g tcX12_clash_9 9 rfl) rfl
theorem dX12_clash_118 : decode cX12_clash 118 = .ok (.iaload, 1) := dk_1046 (dk_g tcX12_clash_9 10 rfl)
theorem dX12_clash_119 : decode cX12_clash 119 = .ok (.iastore, 1) := dk_1079 (dk_g tcX12_clash_9 11 rfl)
theorem tcX12_clash_10 : (cX12_clash.data.toList.drop 120).take 12 = [42, 180, 0, 91, 21, 6, 42, 180, 0, 82, 21, 6] := by decide +kernel
theorem dX12_clash_120 : decode cX12_clash 120 = .ok (.aload_n 0, 1) := dk_1042 (dk_g tcX12_clash_10 0 rfl)
theorem dX12_clash_121 : decode cX12_clash 121 = .ok (.getfield 91, 3) := dk_1180 (dk_g tcX12_clash_10 1 rfl) (dk_g tcX12_clash_10 2 rfl) (dk_g tcX12_clash_10 3 rfl) rfl
theorem dX12_clash_124 : decode cX12_clash 124 = .ok (.iload 6, 2) := dk_1021 (dk_g tcX12_clash_10 4 rfl) (dk_g tcX12_clash_10 5 rfl) rfl
theorem dX12_clash_126 : decode cX12_clash 126 = .ok (.aload_n 0, 1) := dk_1042 (dk_g tcX12_clash_10 6 rfl)
theorem dX12_clash_127 : decode cX12_clash 127 = .ok (.getfield 82, 3) := dk_1180 (dk_g tcX12_clash_10 7 rfl) (dk_g tcX12_clash_10 8 rfl) (dk_g tcX12_clash_10 9 rfl) rfl
theorem dX12_clash_130 : decode cX12_clash 130 = .ok (.iload 6, 2) := dk_1021 (dk_g tcX12_clash_10 10 rfl) (dk_g tcX12_clash_10 11 rfl) rfl
theorem tcX12_clash_11 : (cX12_clash.data.toList.drop 132).take 12 = [46, 79, 132, 6, 1, 167, 255, 202, 42, 28, 29, 182] := by decide +kernel
theorem dX12_clash_132 : decode cX12_clash 132 = .ok (.iaload, 1) := dk_1046 (dk_g tcX12_clash_11 0 rfl)
theorem dX12_clash_133 : decode cX12_clash 133 = .ok (.iastore, 1) := dk_1079 (dk_g tcX12_clash_11 1 rfl)
theorem dX12_clash_134 : decode cX12_clash 134 = .ok (.iinc 6 1, 3) := dk_1132 (dk_g tcX12_clash_11 2 rfl) (dk_g tcX12_clash_11 3 rfl) (dk_g tcX12_clash_11 4 rfl) rfl (by decide +kernel)
theorem dX12_clash_137 : decode cX12_clash 137 = .ok (.goto (-54), 3) := dk_1167 (dk_g tcX12_clash_11 5 rfl) (dk_g tcX12_clash_11 6 rfl) (dk_g tcX12_clash_11 7 rfl) (by decide +kernel)
theorem dX12_clash_140 : decode cX12_clash 140 = .ok (.aload_n 0, 1) := dk_1042 (dk_g tcX12_clash_11 8 rfl)
theorem dX12_clash_141 : decode cX12_clash 141 = .ok (.iload_n 2, 1) := dk_1028 (dk_g tcX12_clash_11 9 rfl)
theorem dX12_clash_142 : decode cX12_clash 142 = .ok (.iload_n 3, 1) := dk_1029 (dk_g tcX12_clash_11 10 rfl)
theorem tcX12_clash_12 : (cX12_clash.data.toList.drop 144).take 12 = [0, 171, 42, 27, 182, 0, 161, 42, 3, 181, 1, 155] := by decide +kernel
theorem dX12_clash_143 : decode cX12_clash 143 = .ok (.invokevirtual 171, 3) := dk_1182 (dk_g tcX12_clash_11 11 rfl) (dk_g tcX12_clash_12 0 rfl) (dk_g tcX12_clash_12 1 rfl) rfl
theorem dX12_clash_146 : decode cX12_clash 146 = .ok (.aload_n 0, 1) := dk_1042 (dk_g tcX12_clash_12 2 rfl)
theorem dX12_clash_147 : decode cX12_clash 147 = .ok (.iload_n 1, 1) := dk_1027 (dk_g tcX12_clash_12 3 rfl)
theorem dX12_clash_148 : decode cX12_clash 148 = .ok (.invokevirtual 161, 3) := dk_1182 (dk_g tcX12_clash_12 4 rfl) (dk_g tcX12_clash_12 5 rfl) (dk_g tcX12_clash_12 6 rfl) rfl
theorem dX12_clash_151 : decode cX12_clash 151 = .ok (.aload_n 0, 1) := dk_1042 (dk_g tcX12_clash_12 7 rfl)
theorem dX12_clash_152 : decode cX12_clash 152 = .ok (.iconst 0, 1) := dk_1003 (dk_g tcX12_clash_12 8 rfl)
theorem dX12_clash_153 : decode cX12_clash 153 = .ok (.putfield 411, 3) := dk_1181 (dk_g tcX12_clash_12 9 rfl) (dk_g tcX12_clash_12 10 rfl) (dk_g tcX12_clash_12 11 rfl) rfl
theorem tcX12_clash_13 : (cX12_clash.data.toList.drop 156).take 12 = [42, 42, 27, 28, 182, 0, 125, 28, 29, 182, 1, 152] := by decide +kernel
theorem dX12_clash_156 : decode cX12_clash 156 = .ok (.aload_n 0, 1) := dk_1042 (dk_g tcX12_clash_13 0 rfl)
theorem dX12_clash_157 : decode cX12_clash 157 = .ok (.aload_n 0, 1) := dk_1042 (dk_g tcX12_clash_13 1 rfl)
theorem dX12_clash_158 : decode cX12_clash 158 = .ok (.iload_n 1, 1) := dk_1027 (dk_g tcX12_clash_13 2 rfl)
theorem dX12_clash_159 : decode cX12_clash 159 = .ok (.iload_n 2, 1) := dk_1028 (dk_g tcX12_clash_13 3 rfl)
theorem dX12_clash_160 : decode cX12_clash 160 = .ok (.invokevirtual 125, 3) := dk_1182 (dk_g tcX12_clash_13 4 rfl) (dk_g tcX12_clash_13 5 rfl) (dk_g tcX12_clash_13 6 rfl) rfl
theorem dX12_clash_163 : decode cX12_clash 163 = .ok (.iload_n 2, 1) := dk_1028 (dk_g tcX12_clash_13 7 rfl)
theorem dX12_clash_164 : decode cX12_clash 164 = .ok (.iload_n 3, 1) := dk_1029 (dk_g tcX12_clash_13 8 rfl)
theorem dX12_clash_165 : decode cX12_clash 165 = .ok (.invokevirtual 408, 3) := dk_1182 (dk_g tcX12_clash_13 9 rfl) (dk_g tcX12_clash_13 10 rfl) (dk_g tcX12_clash_13 11 rfl) rfl
theorem tcX12_clash_14 : (cX12_clash.data.toList.drop 168).take 12 = [87, 3, 54, 6, 21, 6, 42, 180, 1, 155, 162, 0] := by decide +kernel
theorem dX12_clash_168 : decode cX12_clash 168 = .ok (.pop, 1) := dk_1087 (dk_g tcX12_clash_14 0 rfl)
theorem dX12_clash_169 : decode cX12_clash 169 = .ok (.iconst 0, 1) := dk_1003 (dk_g tcX12_clash_14 1 rfl)
theorem dX12_clash_170 : decode cX12_clash 170 = .ok (.istore 6, 2) := dk_1054 (dk_g tcX12_clash_14 2 rfl) (dk_g tcX12_clash_14 3 rfl) rfl
theorem dX12_clash_172 : decode cX12_clash 172 = .ok (.iload 6, 2) := dk_1021 (dk_g tcX12_clash_14 4 rfl) (dk_g tcX12_clash_14 5 rfl) rfl
theorem dX12_clash_174 : decode cX12_clash 174 = .ok (.aload_n 0, 1) := dk_1042 (dk_g tcX12_clash_14 6 rfl)
theorem dX12_clash_175 : decode cX12_clash 175 = .ok (.getfield 411, 3) := dk_1180 (dk_g tcX12_clash_14 7 rfl) (dk_g tcX12_clash_14 8 rfl) (dk_g tcX12_clash_14 9 rfl) rfl
theorem tcX12_clash_15 : (cX12_clash.data.toList.drop 180).take 12 = [129, 42, 180, 0, 82, 21, 6, 46, 42, 180, 0, 91] := by decide +kernel
theorem dX12_clash_178 : decode cX12_clash 178 = .ok (.if_icmp .ge 129, 3) := dk_2162 (dk_g tcX12_clash_14 10 rfl) (dk_g tcX12_clash_14 11 rfl) (dk_g tcX12_clash_15 0 rfl) rfl rfl
theorem dX12_clash_181 : decode cX12_clash 181 = .ok (.aload_n 0, 1) := dk_1042 (dk_g tcX12_clash_15 1 rfl)
theorem dX12_clash_182 : decode cX12_clash 182 = .ok (.getfield 82, 3) := dk_1180 (dk_g tcX12_clash_15 2 rfl) (dk_g tcX12_clash_15 3 rfl) (dk_g tcX12_clash_15 4 rfl) rfl
theorem dX12_clash_185 : decode cX12_clash 185 = .ok (.iload 6, 2) := dk_1021 (dk_g tcX12_clash_15 5 rfl) (dk_g tcX12_clash_15 6 rfl) rfl
theorem dX12_clash_187 : decode cX12_clash 187 = .ok (.iaload, 1) := dk_1046 (dk_g tcX12_clash_15 7 rfl)
theorem dX12_clash_188 : decode cX12_clash 188 = .ok (.aload_n 0, 1) := dk_1042 (dk_g tcX12_clash_15 8 rfl)
theorem dX12_clash_189 : decode cX12_clash 189 = .ok (.getfield 91, 3) := dk_1180 (dk_g tcX12_clash_15 9 rfl) (dk_g tcX12_clash_15 10 rfl) (dk_g tcX12_clash_15 11 rfl) rfl
set_option maxRecDepth 100000 in
noncomputable def tzcX12_clash_1 : { l : List UInt8 // List.drop 192 (cX12_clash.data.toList) = l } := by
  constructor
  conv => lhs; whnf
theorem tycX12_clash_1 : cX12_clash.data.toList.drop 192 = tzcX12_clash_1.1 := tzcX12_clash_1.2
theorem tcX12_clash_16 : (cX12_clash.data.toList.drop 192).take 12 = [21, 6, 46, 160, 0, 106, 42, 180, 0, 76, 21, 6] := dk_h tycX12_clash_1 0 (by decide +kernel)
theorem dX12_clash_192 : decode cX12_clash 192 = .ok (.iload 6, 2) := dk_1021 (dk_g tcX12_clash_16 0 rfl) (dk_g tcX12_clash_16 1 rfl) rfl
theorem dX12_clash_194 : decode cX12_clash 194 = .ok (.iaload, 1) := dk_1046 (dk_g tcX12_clash_16 2 rfl)
theorem dX12_clash_195 : decode cX12_clash 195 = .ok (.if_icmp .ne 106, 3) := dk_2160 (dk_g tcX12_clash_16 3 rfl) (dk_g tcX12_clash_16 4 rfl) (dk_g tcX12_clash_16 5 rfl) rfl rfl
theorem dX12_clash_198 : decode cX12_clash 198 = .ok (.aload_n 0, 1) := dk_1042 (dk_g tcX12_clash_16 6 rfl)
theorem dX12_clash_199 : decode cX12_clash 199 = .ok (.getfield 76, 3) := dk_1180 (dk_g tcX12_clash_16 7 rfl) (dk_g tcX12_clash_16 8 rfl) (dk_g tcX12_clash_16 9 rfl) rfl
theorem dX12_clash_202 : decode cX12_clash 202 = .ok (.iload 6, 2) := dk_1021 (dk_g tcX12_clash_16 10 rfl) (dk_g tcX12_clash_16 11 rfl) rfl
theorem tcX12_clash_17 : (cX12_clash.data.toList.drop 204).take 12 = [46, 42, 180, 0, 85, 21, 6, 46, 160, 0, 23, 42] := dk_h tycX12_clash_1 12 (by decide +kernel)
theorem dX12_clash_204 : decode cX12_clash 204 = .ok (.iaload, 1) := dk_1046 (dk_g tcX12_clash_17 0 rfl)
theorem dX12_clash_205 : decode cX12_clash 205 = .ok (.aload_n 0, 1) := dk_1042 (dk_g tcX12_clash_17 1 rfl)
theorem dX12_clash_206 : decode cX12_clash 206 = .ok (.getfield 85, 3) := dk_1180 (dk_g tcX12_clash_17 2 rfl) (dk_g tcX12_clash_17 3 rfl) (dk_g tcX12_clash_17 4 rfl) rfl
theorem dX12_clash_209 : decode cX12_clash 209 = .ok (.iload 6, 2) := dk_1021 (dk_g tcX12_clash_17 5 rfl) (dk_g tcX12_clash_17 6 rfl) rfl
theorem dX12_clash_211 : decode cX12_clash 211 = .ok (.iaload, 1) := dk_1046 (dk_g tcX12_clash_17 7 rfl)
theorem dX12_clash_212 : decode cX12_clash 212 = .ok (.if_icmp .ne 23, 3) := dk_2160 (dk_g tcX12_clash_17 8 rfl) (dk_g tcX12_clash_17 9 rfl) (dk_g tcX12_clash_17 10 rfl) rfl rfl
theorem dX12_clash_215 : decode cX12_clash 215 = .ok (.aload_n 0, 1) := dk_1042 (dk_g tcX12_clash_17 11 rfl)
theorem tcX12_clash_18 : (cX12_clash.data.toList.drop 216).take 12 = [180, 0, 79, 21, 6, 46, 42, 180, 0, 88, 21, 6] := dk_h tycX12_clash_1 24 (by decide +kernel)
theorem dX12_clash_216 : decode cX12_clash 216 = .ok (.getfield 79, 3) := dk_1180 (dk_g tcX12_clash_18 0 rfl) (dk_g tcX12_clash_18 1 rfl) (dk_g tcX12_clash_18 2 rfl) rfl
theorem dX12_clash_219 : decode cX12_clash 219 = .ok (.iload 6, 2) := dk_1021 (dk_g tcX12_clash_18 3 rfl) (dk_g tcX12_clash_18 4 rfl) rfl
theorem dX12_clash_221 : decode cX12_clash 221 = .ok (.iaload, 1) := dk_1046 (dk_g tcX12_clash_18 5 rfl)
theorem dX12_clash_222 : decode cX12_clash 222 = .ok (.aload_n 0, 1) := dk_1042 (dk_g tcX12_clash_18 6 rfl)
theorem dX12_clash_223 : decode cX12_clash 223 = .ok (.getfield 88, 3) := dk_1180 (dk_g tcX12_clash_18 7 rfl) (dk_g tcX12_clash_18 8 rfl) (dk_g tcX12_clash_18 9 rfl) rfl
theorem dX12_clash_226 : decode cX12_clash 226 = .ok (.iload 6, 2) := dk_1021 (dk_g tcX12_clash_18 10 rfl) (dk_g tcX12_clash_18 11 rfl) rfl
theorem tcX12_clash_19 : (cX12_clash.data.toList.drop 228).take 12 = [46, 160, 0, 6, 167, 0, 69, 21, 5, 154, 0, 8] := dk_h tycX12_clash_1 36 (by decide +kernel)
theorem dX12_clash_228 : decode cX12_clash 228 = .ok (.iaload, 1) := dk_1046 (dk_g tcX12_clash_19 0 rfl)
theorem dX12_clash_229 : decode cX12_clash 229 = .ok (.if_icmp .ne 6, 3) := dk_2160 (dk_g tcX12_clash_19 1 rfl) (dk_g tcX12_clash_19 2 rfl) (dk_g tcX12_clash_19 3 rfl) rfl rfl
theorem dX12_clash_232 : decode cX12_clash 232 = .ok (.goto 69, 3) := dk_2167 (dk_g tcX12_clash_19 4 rfl) (dk_g tcX12_clash_19 5 rfl) (dk_g tcX12_clash_19 6 rfl) rfl rfl
theorem dX12_clash_235 : decode cX12_clash 235 = .ok (.iload 5, 2) := dk_1021 (dk_g tcX12_clash_19 7 rfl) (dk_g tcX12_clash_19 8 rfl) rfl
theorem dX12_clash_237 : decode cX12_clash 237 = .ok (.ifCond .ne 8, 3) := dk_2154 (dk_g tcX12_clash_19 9 rfl) (dk_g tcX12_clash_19 10 rfl) (dk_g tcX12_clash_19 11 rfl) rfl rfl
theorem tcX12_clash_20 : (cX12_clash.data.toList.drop 240).take 12 = [21, 6, 167, 0, 58, 21, 5, 4, 160, 0, 13, 42] := dk_h tycX12_clash_1 48 (by decide +kernel)
theorem dX12_clash_240 : decode cX12_clash 240 = .ok (.iload 6, 2) := dk_1021 (dk_g tcX12_clash_20 0 rfl) (dk_g tcX12_clash_20 1 rfl) rfl
theorem dX12_clash_242 : decode cX12_clash 242 = .ok (.goto 58, 3) := dk_2167 (dk_g tcX12_clash_20 2 rfl) (dk_g tcX12_clash_20 3 rfl) (dk_g tcX12_clash_20 4 rfl) rfl rfl
theorem dX12_clash_245 : decode cX12_clash 245 = .ok (.iload 5, 2) := dk_1021 (dk_g tcX12_clash_20 5 rfl) (dk_g tcX12_clash_20 6 rfl) rfl
theorem dX12_clash_247 : decode cX12_clash 247 = .ok (.iconst 1, 1) := dk_1004 (dk_g tcX12_clash_20 7 rfl)
theorem dX12_clash_248 : decode cX12_clash 248 = .ok (.if_icmp .ne 13, 3) := dk_2160 (dk_g tcX12_clash_20 8 rfl) (dk_g tcX12_clash_20 9 rfl) (dk_g tcX12_clash_20 10 rfl) rfl rfl
theorem dX12_clash_251 : decode cX12_clash 251 = .ok (.aload_n 0, 1) := dk_1042 (dk_g tcX12_clash_20 11 rfl)
theorem tcX12_clash_21 : (cX12_clash.data.toList.drop 252).take 12 = [180, 0, 76, 21, 6, 46, 167, 0, 42, 21, 5, 5] := dk_h tycX12_clash_1 60 (by decide +kernel)
theorem dX12_clash_252 : decode cX12_clash 252 = .ok (.getfield 76, 3) := dk_1180 (dk_g tcX12_clash_21 0 rfl) (dk_g tcX12_clash_21 1 rfl) (dk_g tcX12_clash_21 2 rfl) rfl
theorem dX12_clash_255 : decode cX12_clash 255 = .ok (.iload 6, 2) := dk_1021 (dk_g tcX12_clash_21 3 rfl) (dk_g tcX12_clash_21 4 rfl) rfl
theorem dX12_clash_257 : decode cX12_clash 257 = .ok (.iaload, 1) := dk_1046 (dk_g tcX12_clash_21 5 rfl)
theorem dX12_clash_258 : decode cX12_clash 258 = .ok (.goto 42, 3) := dk_2167 (dk_g tcX12_clash_21 6 rfl) (dk_g tcX12_clash_21 7 rfl) (dk_g tcX12_clash_21 8 rfl) rfl rfl
theorem dX12_clash_261 : decode cX12_clash 261 = .ok (.iload 5, 2) := dk_1021 (dk_g tcX12_clash_21 9 rfl) (dk_g tcX12_clash_21 10 rfl) rfl
theorem dX12_clash_263 : decode cX12_clash 263 = .ok (.iconst 2, 1) := dk_1005 (dk_g tcX12_clash_21 11 rfl)
theorem tcX12_clash_22 : (cX12_clash.data.toList.drop 264).take 12 = [160, 0, 13, 42, 180, 0, 79, 21, 6, 46, 167, 0] := dk_h tycX12_clash_1 72 (by decide +kernel)
theorem dX12_clash_264 : decode cX12_clash 264 = .ok (.if_icmp .ne 13, 3) := dk_2160 (dk_g tcX12_clash_22 0 rfl) (dk_g tcX12_clash_22 1 rfl) (dk_g tcX12_clash_22 2 rfl) rfl rfl
theorem dX12_clash_267 : decode cX12_clash 267 = .ok (.aload_n 0, 1) := dk_1042 (dk_g tcX12_clash_22 3 rfl)
theorem dX12_clash_268 : decode cX12_clash 268 = .ok (.getfield 79, 3) := dk_1180 (dk_g tcX12_clash_22 4 rfl) (dk_g tcX12_clash_22 5 rfl) (dk_g tcX12_clash_22 6 rfl) rfl
theorem dX12_clash_271 : decode cX12_clash 271 = .ok (.iload 6, 2) := dk_1021 (dk_g tcX12_clash_22 7 rfl) (dk_g tcX12_clash_22 8 rfl) rfl
theorem dX12_clash_273 : decode cX12_clash 273 = .ok (.iaload, 1) := dk_1046 (dk_g tcX12_clash_22 9 rfl)
theorem tcX12_clash_23 : (cX12_clash.data.toList.drop 276).take 12 = [26, 21, 5, 6, 160, 0, 13, 42, 180, 0, 85, 21] := dk_h tycX12_clash_1 84 (by decide +kernel)
theorem dX12_clash_274 : decode cX12_clash 274 = .ok (.goto 26, 3) := dk_2167 (dk_g tcX12_clash_22 10 rfl) (dk_g tcX12_clash_22 11 rfl) (dk_g tcX12_clash_23 0 rfl) rfl rfl
theorem dX12_clash_277 : decode cX12_clash 277 = .ok (.iload 5, 2) := dk_1021 (dk_g tcX12_clash_23 1 rfl) (dk_g tcX12_clash_23 2 rfl) rfl
theorem dX12_clash_279 : decode cX12_clash 279 = .ok (.iconst 3, 1) := dk_1006 (dk_g tcX12_clash_23 3 rfl)
theorem dX12_clash_280 : decode cX12_clash 280 = .ok (.if_icmp .ne 13, 3) := dk_2160 (dk_g tcX12_clash_23 4 rfl) (dk_g tcX12_clash_23 5 rfl) (dk_g tcX12_clash_23 6 rfl) rfl rfl
theorem dX12_clash_283 : decode cX12_clash 283 = .ok (.aload_n 0, 1) := dk_1042 (dk_g tcX12_clash_23 7 rfl)
theorem dX12_clash_284 : decode cX12_clash 284 = .ok (.getfield 85, 3) := dk_1180 (dk_g tcX12_clash_23 8 rfl) (dk_g tcX12_clash_23 9 rfl) (dk_g tcX12_clash_23 10 rfl) rfl
theorem tcX12_clash_24 : (cX12_clash.data.toList.drop 288).take 12 = [6, 46, 167, 0, 10, 42, 180, 0, 88, 21, 6, 46] := dk_h tycX12_clash_1 96 (by decide +kernel)
theorem dX12_clash_287 : decode cX12_clash 287 = .ok (.iload 6, 2) := dk_1021 (dk_g tcX12_clash_23 11 rfl) (dk_g tcX12_clash_24 0 rfl) rfl
theorem dX12_clash_289 : decode cX12_clash 289 = .ok (.iaload, 1) := dk_1046 (dk_g tcX12_clash_24 1 rfl)
theorem dX12_clash_290 : decode cX12_clash 290 = .ok (.goto 10, 3) := dk_2167 (dk_g tcX12_clash_24 2 rfl) (dk_g tcX12_clash_24 3 rfl) (dk_g tcX12_clash_24 4 rfl) rfl rfl
theorem dX12_clash_293 : decode cX12_clash 293 = .ok (.aload_n 0, 1) := dk_1042 (dk_g tcX12_clash_24 5 rfl)
theorem dX12_clash_294 : decode cX12_clash 294 = .ok (.getfield 88, 3) := dk_1180 (dk_g tcX12_clash_24 6 rfl) (dk_g tcX12_clash_24 7 rfl) (dk_g tcX12_clash_24 8 rfl) rfl
theorem dX12_clash_297 : decode cX12_clash 297 = .ok (.iload 6, 2) := dk_1021 (dk_g tcX12_clash_24 9 rfl) (dk_g tcX12_clash_24 10 rfl) rfl
theorem dX12_clash_299 : decode cX12_clash 299 = .ok (.iaload, 1) := dk_1046 (dk_g tcX12_clash_24 11 rfl)
theorem tcX12_clash_25 : (cX12_clash.data.toList.drop 300).take 12 = [172, 132, 6, 1, 167, 255, 124, 42, 8, 182, 0, 212] := dk_h tycX12_clash_1 108 (by decide +kernel)
theorem dX12_clash_300 : decode cX12_clash 300 = .ok (.ireturn, 1) := dk_1172 (dk_g tcX12_clash_25 0 rfl)
theorem dX12_clash_301 : decode cX12_clash 301 = .ok (.iinc 6 1, 3) := dk_1132 (dk_g tcX12_clash_25 1 rfl) (dk_g tcX12_clash_25 2 rfl) (dk_g tcX12_clash_25 3 rfl) rfl (by decide +kernel)
theorem dX12_clash_304 : decode cX12_clash 304 = .ok (.goto (-132), 3) := dk_1167 (dk_g tcX12_clash_25 4 rfl) (dk_g tcX12_clash_25 5 rfl) (dk_g tcX12_clash_25 6 rfl) (by decide +kernel)
theorem dX12_clash_307 : decode cX12_clash 307 = .ok (.aload_n 0, 1) := dk_1042 (dk_g tcX12_clash_25 7 rfl)
theorem dX12_clash_308 : decode cX12_clash 308 = .ok (.iconst 5, 1) := dk_1008 (dk_g tcX12_clash_25 8 rfl)
theorem dX12_clash_309 : decode cX12_clash 309 = .ok (.invokevirtual 212, 3) := dk_1182 (dk_g tcX12_clash_25 9 rfl) (dk_g tcX12_clash_25 10 rfl) (dk_g tcX12_clash_25 11 rfl) rfl
theorem tcX12_clash_26 : (cX12_clash.data.toList.drop 312).take 12 = [172] := dk_h tycX12_clash_1 120 (by decide +kernel)
theorem dX12_clash_312 : decode cX12_clash 312 = .ok (.ireturn, 1) := dk_1172 (dk_g tcX12_clash_26 0 rfl)
theorem tcX12_forge_0 : (cX12_forge.data.toList.drop 0).take 12 = [42, 42, 28, 29, 182, 1, 125, 153, 0, 29, 21, 5] := by decide +kernel
theorem dX12_forge_0 : decode cX12_forge 0 = .ok (.aload_n 0, 1) := dk_1042 (dk_g tcX12_forge_0 0 rfl)
theorem dX12_forge_1 : decode cX12_forge 1 = .ok (.aload_n 0, 1) := dk_1042 (dk_g tcX12_forge_0 1 rfl)
theorem dX12_forge_2 : decode cX12_forge 2 = .ok (.iload_n 2, 1) := dk_1028 (dk_g tcX12_forge_0 2 rfl)
theorem dX12_forge_3 : decode cX12_forge 3 = .ok (.iload_n 3, 1) := dk_1029 (dk_g tcX12_forge_0 3 rfl)
theorem dX12_forge_4 : decode cX12_forge 4 = .ok (.invokevirtual 381, 3) := dk_1182 (dk_g tcX12_forge_0 4 rfl) (dk_g tcX12_forge_0 5 rfl) (dk_g tcX12_forge_0 6 rfl) rfl
theorem dX12_forge_7 : decode cX12_forge 7 = .ok (.ifCond .eq 29, 3) := dk_2153 (dk_g tcX12_forge_0 7 rfl) (dk_g tcX12_forge_0 8 rfl) (dk_g tcX12_forge_0 9 rfl) rfl rfl
theorem dX12_forge_10 : decode cX12_forge 10 = .ok (.iload 5, 2) := dk_1021 (dk_g tcX12_forge_0 10 rfl) (dk_g tcX12_forge_0 11 rfl) rfl
theorem tcX12_forge_1 : (cX12_forge.data.toList.drop 12).take 12 = [155, 0, 24, 42, 27, 182, 1, 65, 153, 0, 16, 42] := by decide +kernel
theorem dX12_forge_12 : decode cX12_forge 12 = .ok (.ifCond .lt 24, 3) := dk_2155 (dk_g tcX12_forge_1 0 rfl) (dk_g tcX12_forge_1 1 rfl) (dk_g tcX12_forge_1 2 rfl) rfl rfl
theorem dX12_forge_15 : decode cX12_forge 15 = .ok (.aload_n 0, 1) := dk_1042 (dk_g tcX12_forge_1 3 rfl)
theorem dX12_forge_16 : decode cX12_forge 16 = .ok (.iload_n 1, 1) := dk_1027 (dk_g tcX12_forge_1 4 rfl)
theorem dX12_forge_17 : decode cX12_forge 17 = .ok (.invokevirtual 321, 3) := dk_1182 (dk_g tcX12_forge_1 5 rfl) (dk_g tcX12_forge_1 6 rfl) (dk_g tcX12_forge_1 7 rfl) rfl
theorem dX12_forge_20 : decode cX12_forge 20 = .ok (.ifCond .eq 16, 3) := dk_2153 (dk_g tcX12_forge_1 8 rfl) (dk_g tcX12_forge_1 9 rfl) (dk_g tcX12_forge_1 10 rfl) rfl rfl
theorem dX12_forge_23 : decode cX12_forge 23 = .ok (.aload_n 0, 1) := dk_1042 (dk_g tcX12_forge_1 11 rfl)
theorem tcX12_forge_2 : (cX12_forge.data.toList.drop 24).take 12 = [21, 4, 182, 1, 65, 153, 0, 7, 3, 167, 0, 4] := by decide +kernel
theorem dX12_forge_24 : decode cX12_forge 24 = .ok (.iload 4, 2) := dk_1021 (dk_g tcX12_forge_2 0 rfl) (dk_g tcX12_forge_2 1 rfl) rfl
theorem dX12_forge_26 : decode cX12_forge 26 = .ok (.invokevirtual 321, 3) := dk_1182 (dk_g tcX12_forge_2 2 rfl) (dk_g tcX12_forge_2 3 rfl) (dk_g tcX12_forge_2 4 rfl) rfl
theorem dX12_forge_29 : decode cX12_forge 29 = .ok (.ifCond .eq 7, 3) := dk_2153 (dk_g tcX12_forge_2 5 rfl) (dk_g tcX12_forge_2 6 rfl) (dk_g tcX12_forge_2 7 rfl) rfl rfl
theorem dX12_forge_32 : decode cX12_forge 32 = .ok (.iconst 0, 1) := dk_1003 (dk_g tcX12_forge_2 8 rfl)
theorem dX12_forge_33 : decode cX12_forge 33 = .ok (.goto 4, 3) := dk_2167 (dk_g tcX12_forge_2 9 rfl) (dk_g tcX12_forge_2 10 rfl) (dk_g tcX12_forge_2 11 rfl) rfl rfl
theorem tcX12_forge_3 : (cX12_forge.data.toList.drop 36).take 12 = [4, 182, 1, 53, 154, 0, 5, 2, 172, 42, 28, 29] := by decide +kernel
theorem dX12_forge_36 : decode cX12_forge 36 = .ok (.iconst 1, 1) := dk_1004 (dk_g tcX12_forge_3 0 rfl)
theorem dX12_forge_37 : decode cX12_forge 37 = .ok (.invokevirtual 309, 3) := dk_1182 (dk_g tcX12_forge_3 1 rfl) (dk_g tcX12_forge_3 2 rfl) (dk_g tcX12_forge_3 3 rfl) rfl
theorem dX12_forge_40 : decode cX12_forge 40 = .ok (.ifCond .ne 5, 3) := dk_2154 (dk_g tcX12_forge_3 4 rfl) (dk_g tcX12_forge_3 5 rfl) (dk_g tcX12_forge_3 6 rfl) rfl rfl
theorem dX12_forge_43 : decode cX12_forge 43 = .ok (.iconst (-1), 1) := dk_1002 (dk_g tcX12_forge_3 7 rfl)
theorem dX12_forge_44 : decode cX12_forge 44 = .ok (.ireturn, 1) := dk_1172 (dk_g tcX12_forge_3 8 rfl)
theorem dX12_forge_45 : decode cX12_forge 45 = .ok (.aload_n 0, 1) := dk_1042 (dk_g tcX12_forge_3 9 rfl)
theorem dX12_forge_46 : decode cX12_forge 46 = .ok (.iload_n 2, 1) := dk_1028 (dk_g tcX12_forge_3 10 rfl)
theorem dX12_forge_47 : decode cX12_forge 47 = .ok (.iload_n 3, 1) := dk_1029 (dk_g tcX12_forge_3 11 rfl)
theorem tcX12_forge_4 : (cX12_forge.data.toList.drop 48).take 12 = [182, 0, 171, 42, 182, 1, 128, 42, 180, 0, 139, 160] := by decide +kernel
theorem dX12_forge_48 : decode cX12_forge 48 = .ok (.invokevirtual 171, 3) := dk_1182 (dk_g tcX12_forge_4 0 rfl) (dk_g tcX12_forge_4 1 rfl) (dk_g tcX12_forge_4 2 rfl) rfl
theorem dX12_forge_51 : decode cX12_forge 51 = .ok (.aload_n 0, 1) := dk_1042 (dk_g tcX12_forge_4 3 rfl)
theorem dX12_forge_52 : decode cX12_forge 52 = .ok (.invokevirtual 384, 3) := dk_1182 (dk_g tcX12_forge_4 4 rfl) (dk_g tcX12_forge_4 5 rfl) (dk_g tcX12_forge_4 6 rfl) rfl
theorem dX12_forge_55 : decode cX12_forge 55 = .ok (.aload_n 0, 1) := dk_1042 (dk_g tcX12_forge_4 7 rfl)
theorem dX12_forge_56 : decode cX12_forge 56 = .ok (.getfield 139, 3) := dk_1180 (dk_g tcX12_forge_4 8 rfl) (dk_g tcX12_forge_4 9 rfl) (dk_g tcX12_forge_4 10 rfl) rfl
theorem tcX12_forge_5 : (cX12_forge.data.toList.drop 60).take 12 = [0, 12, 21, 5, 42, 180, 0, 139, 161, 0, 9, 42] := by decide +kernel
theorem dX12_forge_59 : decode cX12_forge 59 = .ok (.if_icmp .ne 12, 3) := dk_2160 (dk_g tcX12_forge_4 11 rfl) (dk_g tcX12_forge_5 0 rfl) (dk_g tcX12_forge_5 1 rfl) rfl rfl
theorem dX12_forge_62 : decode cX12_forge 62 = .ok (.iload 5, 2) := dk_1021 (dk_g tcX12_forge_5 2 rfl) (dk_g tcX12_forge_5 3 rfl) rfl
theorem dX12_forge_64 : decode cX12_forge 64 = .ok (.aload_n 0, 1) := dk_1042 (dk_g tcX12_forge_5 4 rfl)
theorem dX12_forge_65 : decode cX12_forge 65 = .ok (.getfield 139, 3) := dk_1180 (dk_g tcX12_forge_5 5 rfl) (dk_g tcX12_forge_5 6 rfl) (dk_g tcX12_forge_5 7 rfl) rfl
theorem dX12_forge_68 : decode cX12_forge 68 = .ok (.if_icmp .lt 9, 3) := dk_2161 (dk_g tcX12_forge_5 8 rfl) (dk_g tcX12_forge_5 9 rfl) (dk_g tcX12_forge_5 10 rfl) rfl rfl
theorem dX12_forge_71 : decode cX12_forge 71 = .ok (.aload_n 0, 1) := dk_1042 (dk_g tcX12_forge_5 11 rfl)
theorem tcX12_forge_6 : (cX12_forge.data.toList.drop 72).take 12 = [8, 182, 0, 212, 172, 3, 54, 6, 21, 6, 42, 180] := by decide +kernel
theorem dX12_forge_72 : decode cX12_forge 72 = .ok (.iconst 5, 1) := dk_1008 (dk_g tcX12_forge_6 0 rfl)
theorem dX12_forge_73 : decode cX12_forge 73 = .ok (.invokevirtual 212, 3) := dk_1182 (dk_g tcX12_forge_6 1 rfl) (dk_g tcX12_forge_6 2 rfl) (dk_g tcX12_forge_6 3 rfl) rfl
theorem dX12_forge_76 : decode cX12_forge 76 = .ok (.ireturn, 1) := dk_1172 (dk_g tcX12_forge_6 4 rfl)
theorem dX12_forge_77 : decode cX12_forge 77 = .ok (.iconst 0, 1) := dk_1003 (dk_g tcX12_forge_6 5 rfl)
theorem dX12_forge_78 : decode cX12_forge 78 = .ok (.istore 6, 2) := dk_1054 (dk_g tcX12_forge_6 6 rfl) (dk_g tcX12_forge_6 7 rfl) rfl
theorem dX12_forge_80 : decode cX12_forge 80 = .ok (.iload 6, 2) := dk_1021 (dk_g tcX12_forge_6 8 rfl) (dk_g tcX12_forge_6 9 rfl) rfl
theorem dX12_forge_82 : decode cX12_forge 82 = .ok (.aload_n 0, 1) := dk_1042 (dk_g tcX12_forge_6 10 rfl)
theorem tcX12_forge_7 : (cX12_forge.data.toList.drop 84).take 12 = [0, 7, 4, 46, 162, 0, 33, 42, 180, 0, 22, 21] := by decide +kernel
theorem dX12_forge_83 : decode cX12_forge 83 = .ok (.getfield 7, 3) := dk_1180 (dk_g tcX12_forge_6 11 rfl) (dk_g tcX12_forge_7 0 rfl) (dk_g tcX12_forge_7 1 rfl) rfl
theorem dX12_forge_86 : decode cX12_forge 86 = .ok (.iconst 1, 1) := dk_1004 (dk_g tcX12_forge_7 2 rfl)
theorem dX12_forge_87 : decode cX12_forge 87 = .ok (.iaload, 1) := dk_1046 (dk_g tcX12_forge_7 3 rfl)
theorem dX12_forge_88 : decode cX12_forge 88 = .ok (.if_icmp .ge 33, 3) := dk_2162 (dk_g tcX12_forge_7 4 rfl) (dk_g tcX12_forge_7 5 rfl) (dk_g tcX12_forge_7 6 rfl) rfl rfl
theorem dX12_forge_91 : decode cX12_forge 91 = .ok (.aload_n 0, 1) := dk_1042 (dk_g tcX12_forge_7 7 rfl)
theorem dX12_forge_92 : decode cX12_forge 92 = .ok (.getfield 22, 3) := dk_1180 (dk_g tcX12_forge_7 8 rfl) (dk_g tcX12_forge_7 9 rfl) (dk_g tcX12_forge_7 10 rfl) rfl
theorem tcX12_forge_8 : (cX12_forge.data.toList.drop 96).take 12 = [5, 21, 6, 79, 42, 27, 28, 29, 182, 0, 174, 21] := by decide +kernel
theorem dX12_forge_95 : decode cX12_forge 95 = .ok (.iload 5, 2) := dk_1021 (dk_g tcX12_forge_7 11 rfl) (dk_g tcX12_forge_8 0 rfl) rfl
theorem dX12_forge_97 : decode cX12_forge 97 = .ok (.iload 6, 2) := dk_1021 (dk_g tcX12_forge_8 1 rfl) (dk_g tcX12_forge_8 2 rfl) rfl
theorem dX12_forge_99 : decode cX12_forge 99 = .ok (.iastore, 1) := dk_1079 (dk_g tcX12_forge_8 3 rfl)
theorem dX12_forge_100 : decode cX12_forge 100 = .ok (.aload_n 0, 1) := dk_1042 (dk_g tcX12_forge_8 4 rfl)
theorem dX12_forge_101 : decode cX12_forge 101 = .ok (.iload_n 1, 1) := dk_1027 (dk_g tcX12_forge_8 5 rfl)
theorem dX12_forge_102 : decode cX12_forge 102 = .ok (.iload_n 2, 1) := dk_1028 (dk_g tcX12_forge_8 6 rfl)
theorem dX12_forge_103 : decode cX12_forge 103 = .ok (.iload_n 3, 1) := dk_1029 (dk_g tcX12_forge_8 7 rfl)
theorem dX12_forge_104 : decode cX12_forge 104 = .ok (.invokevirtual 174, 3) := dk_1182 (dk_g tcX12_forge_8 8 rfl) (dk_g tcX12_forge_8 9 rfl) (dk_g tcX12_forge_8 10 rfl) rfl
theorem tcX12_forge_9 : (cX12_forge.data.toList.drop 108).take 12 = [4, 160, 0, 6, 21, 6, 172, 132, 6, 1, 167, 255] := by decide +kernel
theorem dX12_forge_107 : decode cX12_forge 107 = .ok (.iload 4, 2) := dk_1021 (dk_g tcX12_forge_8 11 rfl) (dk_g tcX12_forge_9 0 rfl) rfl
theorem dX12_forge_109 : decode cX12_forge 109 = .ok (.if_icmp .ne 6, 3) := dk_2160 (dk_g tcX12_forge_9 1 rfl) (dk_g tcX12_forge_9 2 rfl) (dk_g tcX12_forge_9 3 rfl) rfl rfl
theorem dX12_forge_112 : decode cX12_forge 112 = .ok (.iload 6, 2) := dk_1021 (dk_g tcX12_forge_9 4 rfl) (dk_g tcX12_forge_9 5 rfl) rfl
theorem dX12_forge_114 : decode cX12_forge 114 = .ok (.ireturn, 1) := dk_1172 (dk_g tcX12_forge_9 6 rfl)
theorem dX12_forge_115 : decode cX12_forge 115 = .ok (.iinc 6 1, 3) := dk_1132 (dk_g tcX12_forge_9 7 rfl) (dk_g tcX12_forge_9 8 rfl) (dk_g tcX12_forge_9 9 rfl) rfl (by decide +kernel)
theorem tcX12_forge_10 : (cX12_forge.data.toList.drop 120).take 12 = [218, 42, 8, 182, 0, 212, 172] := by decide +kernel
theorem dX12_forge_118 : decode cX12_forge 118 = .ok (.goto (-38), 3) := dk_1167 (dk_g tcX12_forge_9 10 rfl) (dk_g tcX12_forge_9 11 rfl) (dk_g tcX12_forge_10 0 rfl) (by decide +kernel)
theorem dX12_forge_121 : decode cX12_forge 121 = .ok (.aload_n 0, 1) := dk_1042 (dk_g tcX12_forge_10 1 rfl)
theorem dX12_forge_122 : decode cX12_forge 122 = .ok (.iconst 5, 1) := dk_1008 (dk_g tcX12_forge_10 2 rfl)
theorem dX12_forge_123 : decode cX12_forge 123 = .ok (.invokevirtual 212, 3) := dk_1182 (dk_g tcX12_forge_10 3 rfl) (dk_g tcX12_forge_10 4 rfl) (dk_g tcX12_forge_10 5 rfl) rfl
theorem dX12_forge_126 : decode cX12_forge 126 = .ok (.ireturn, 1) := dk_1172 (dk_g tcX12_forge_10 6 rfl)
theorem tcX12_trace_0 : (cX12_trace.data.toList.drop 0).take 12 = [42, 42, 28, 29, 182, 1, 125, 153, 0, 20, 21, 4] := by decide +kernel
theorem dX12_trace_0 : decode cX12_trace 0 = .ok (.aload_n 0, 1) := dk_1042 (dk_g tcX12_trace_0 0 rfl)
theorem dX12_trace_1 : decode cX12_trace 1 = .ok (.aload_n 0, 1) := dk_1042 (dk_g tcX12_trace_0 1 rfl)
theorem dX12_trace_2 : decode cX12_trace 2 = .ok (.iload_n 2, 1) := dk_1028 (dk_g tcX12_trace_0 2 rfl)
theorem dX12_trace_3 : decode cX12_trace 3 = .ok (.iload_n 3, 1) := dk_1029 (dk_g tcX12_trace_0 3 rfl)
theorem dX12_trace_4 : decode cX12_trace 4 = .ok (.invokevirtual 381, 3) := dk_1182 (dk_g tcX12_trace_0 4 rfl) (dk_g tcX12_trace_0 5 rfl) (dk_g tcX12_trace_0 6 rfl) rfl
theorem dX12_trace_7 : decode cX12_trace 7 = .ok (.ifCond .eq 20, 3) := dk_2153 (dk_g tcX12_trace_0 7 rfl) (dk_g tcX12_trace_0 8 rfl) (dk_g tcX12_trace_0 9 rfl) rfl rfl
theorem dX12_trace_10 : decode cX12_trace 10 = .ok (.iload 4, 2) := dk_1021 (dk_g tcX12_trace_0 10 rfl) (dk_g tcX12_trace_0 11 rfl) rfl
theorem tcX12_trace_1 : (cX12_trace.data.toList.drop 12).take 12 = [155, 0, 15, 42, 27, 182, 1, 65, 153, 0, 7, 3] := by decide +kernel
theorem dX12_trace_12 : decode cX12_trace 12 = .ok (.ifCond .lt 15, 3) := dk_2155 (dk_g tcX12_trace_1 0 rfl) (dk_g tcX12_trace_1 1 rfl) (dk_g tcX12_trace_1 2 rfl) rfl rfl
theorem dX12_trace_15 : decode cX12_trace 15 = .ok (.aload_n 0, 1) := dk_1042 (dk_g tcX12_trace_1 3 rfl)
theorem dX12_trace_16 : decode cX12_trace 16 = .ok (.iload_n 1, 1) := dk_1027 (dk_g tcX12_trace_1 4 rfl)
theorem dX12_trace_17 : decode cX12_trace 17 = .ok (.invokevirtual 321, 3) := dk_1182 (dk_g tcX12_trace_1 5 rfl) (dk_g tcX12_trace_1 6 rfl) (dk_g tcX12_trace_1 7 rfl) rfl
theorem dX12_trace_20 : decode cX12_trace 20 = .ok (.ifCond .eq 7, 3) := dk_2153 (dk_g tcX12_trace_1 8 rfl) (dk_g tcX12_trace_1 9 rfl) (dk_g tcX12_trace_1 10 rfl) rfl rfl
theorem dX12_trace_23 : decode cX12_trace 23 = .ok (.iconst 0, 1) := dk_1003 (dk_g tcX12_trace_1 11 rfl)
theorem tcX12_trace_2 : (cX12_trace.data.toList.drop 24).take 12 = [167, 0, 4, 4, 182, 1, 53, 154, 0, 5, 2, 172] := by decide +kernel
theorem dX12_trace_24 : decode cX12_trace 24 = .ok (.goto 4, 3) := dk_2167 (dk_g tcX12_trace_2 0 rfl) (dk_g tcX12_trace_2 1 rfl) (dk_g tcX12_trace_2 2 rfl) rfl rfl
theorem dX12_trace_27 : decode cX12_trace 27 = .ok (.iconst 1, 1) := dk_1004 (dk_g tcX12_trace_2 3 rfl)
theorem dX12_trace_28 : decode cX12_trace 28 = .ok (.invokevirtual 309, 3) := dk_1182 (dk_g tcX12_trace_2 4 rfl) (dk_g tcX12_trace_2 5 rfl) (dk_g tcX12_trace_2 6 rfl) rfl
theorem dX12_trace_31 : decode cX12_trace 31 = .ok (.ifCond .ne 5, 3) := dk_2154 (dk_g tcX12_trace_2 7 rfl) (dk_g tcX12_trace_2 8 rfl) (dk_g tcX12_trace_2 9 rfl) rfl rfl
theorem dX12_trace_34 : decode cX12_trace 34 = .ok (.iconst (-1), 1) := dk_1002 (dk_g tcX12_trace_2 10 rfl)
theorem dX12_trace_35 : decode cX12_trace 35 = .ok (.ireturn, 1) := dk_1172 (dk_g tcX12_trace_2 11 rfl)
theorem tcX12_trace_3 : (cX12_trace.data.toList.drop 36).take 12 = [42, 28, 29, 182, 0, 171, 21, 4, 42, 180, 0, 139] := by decide +kernel
theorem dX12_trace_36 : decode cX12_trace 36 = .ok (.aload_n 0, 1) := dk_1042 (dk_g tcX12_trace_3 0 rfl)
theorem dX12_trace_37 : decode cX12_trace 37 = .ok (.iload_n 2, 1) := dk_1028 (dk_g tcX12_trace_3 1 rfl)
theorem dX12_trace_38 : decode cX12_trace 38 = .ok (.iload_n 3, 1) := dk_1029 (dk_g tcX12_trace_3 2 rfl)
theorem dX12_trace_39 : decode cX12_trace 39 = .ok (.invokevirtual 171, 3) := dk_1182 (dk_g tcX12_trace_3 3 rfl) (dk_g tcX12_trace_3 4 rfl) (dk_g tcX12_trace_3 5 rfl) rfl
theorem dX12_trace_42 : decode cX12_trace 42 = .ok (.iload 4, 2) := dk_1021 (dk_g tcX12_trace_3 6 rfl) (dk_g tcX12_trace_3 7 rfl) rfl
theorem dX12_trace_44 : decode cX12_trace 44 = .ok (.aload_n 0, 1) := dk_1042 (dk_g tcX12_trace_3 8 rfl)
theorem dX12_trace_45 : decode cX12_trace 45 = .ok (.getfield 139, 3) := dk_1180 (dk_g tcX12_trace_3 9 rfl) (dk_g tcX12_trace_3 10 rfl) (dk_g tcX12_trace_3 11 rfl) rfl
theorem tcX12_trace_4 : (cX12_trace.data.toList.drop 48).take 12 = [163, 0, 12, 21, 4, 42, 182, 1, 128, 164, 0, 9] := by decide +kernel
theorem dX12_trace_48 : decode cX12_trace 48 = .ok (.if_icmp .gt 12, 3) := dk_2163 (dk_g tcX12_trace_4 0 rfl) (dk_g tcX12_trace_4 1 rfl) (dk_g tcX12_trace_4 2 rfl) rfl rfl
theorem dX12_trace_51 : decode cX12_trace 51 = .ok (.iload 4, 2) := dk_1021 (dk_g tcX12_trace_4 3 rfl) (dk_g tcX12_trace_4 4 rfl) rfl
theorem dX12_trace_53 : decode cX12_trace 53 = .ok (.aload_n 0, 1) := dk_1042 (dk_g tcX12_trace_4 5 rfl)
theorem dX12_trace_54 : decode cX12_trace 54 = .ok (.invokevirtual 384, 3) := dk_1182 (dk_g tcX12_trace_4 6 rfl) (dk_g tcX12_trace_4 7 rfl) (dk_g tcX12_trace_4 8 rfl) rfl
theorem dX12_trace_57 : decode cX12_trace 57 = .ok (.if_icmp .le 9, 3) := dk_2164 (dk_g tcX12_trace_4 9 rfl) (dk_g tcX12_trace_4 10 rfl) (dk_g tcX12_trace_4 11 rfl) rfl rfl
theorem tcX12_trace_5 : (cX12_trace.data.toList.drop 60).take 12 = [42, 8, 182, 0, 212, 172, 42, 182, 1, 128, 54, 5] := by decide +kernel
theorem dX12_trace_60 : decode cX12_trace 60 = .ok (.aload_n 0, 1) := dk_1042 (dk_g tcX12_trace_5 0 rfl)
theorem dX12_trace_61 : decode cX12_trace 61 = .ok (.iconst 5, 1) := dk_1008 (dk_g tcX12_trace_5 1 rfl)
theorem dX12_trace_62 : decode cX12_trace 62 = .ok (.invokevirtual 212, 3) := dk_1182 (dk_g tcX12_trace_5 2 rfl) (dk_g tcX12_trace_5 3 rfl) (dk_g tcX12_trace_5 4 rfl) rfl
theorem dX12_trace_65 : decode cX12_trace 65 = .ok (.ireturn, 1) := dk_1172 (dk_g tcX12_trace_5 5 rfl)
theorem dX12_trace_66 : decode cX12_trace 66 = .ok (.aload_n 0, 1) := dk_1042 (dk_g tcX12_trace_5 6 rfl)
theorem dX12_trace_67 : decode cX12_trace 67 = .ok (.invokevirtual 384, 3) := dk_1182 (dk_g tcX12_trace_5 7 rfl) (dk_g tcX12_trace_5 8 rfl) (dk_g tcX12_trace_5 9 rfl) rfl
theorem dX12_trace_70 : decode cX12_trace 70 = .ok (.istore 5, 2) := dk_1054 (dk_g tcX12_trace_5 10 rfl) (dk_g tcX12_trace_5 11 rfl) rfl
theorem tcX12_trace_6 : (cX12_trace.data.toList.drop 72).take 12 = [21, 5, 42, 180, 0, 139, 162, 0, 17, 42, 180, 0] := by decide +kernel
theorem dX12_trace_72 : decode cX12_trace 72 = .ok (.iload 5, 2) := dk_1021 (dk_g tcX12_trace_6 0 rfl) (dk_g tcX12_trace_6 1 rfl) rfl
theorem dX12_trace_74 : decode cX12_trace 74 = .ok (.aload_n 0, 1) := dk_1042 (dk_g tcX12_trace_6 2 rfl)
theorem dX12_trace_75 : decode cX12_trace 75 = .ok (.getfield 139, 3) := dk_1180 (dk_g tcX12_trace_6 3 rfl) (dk_g tcX12_trace_6 4 rfl) (dk_g tcX12_trace_6 5 rfl) rfl
theorem dX12_trace_78 : decode cX12_trace 78 = .ok (.if_icmp .ge 17, 3) := dk_2162 (dk_g tcX12_trace_6 6 rfl) (dk_g tcX12_trace_6 7 rfl) (dk_g tcX12_trace_6 8 rfl) rfl rfl
theorem dX12_trace_81 : decode cX12_trace 81 = .ok (.aload_n 0, 1) := dk_1042 (dk_g tcX12_trace_6 9 rfl)
theorem tcX12_trace_7 : (cX12_trace.data.toList.drop 84).take 12 = [22, 21, 5, 3, 79, 132, 5, 1, 167, 255, 236, 42] := by decide +kernel
theorem dX12_trace_82 : decode cX12_trace 82 = .ok (.getfield 22, 3) := dk_1180 (dk_g tcX12_trace_6 10 rfl) (dk_g tcX12_trace_6 11 rfl) (dk_g tcX12_trace_7 0 rfl) rfl
theorem dX12_trace_85 : decode cX12_trace 85 = .ok (.iload 5, 2) := dk_1021 (dk_g tcX12_trace_7 1 rfl) (dk_g tcX12_trace_7 2 rfl) rfl
theorem dX12_trace_87 : decode cX12_trace 87 = .ok (.iconst 0, 1) := dk_1003 (dk_g tcX12_trace_7 3 rfl)
theorem dX12_trace_88 : decode cX12_trace 88 = .ok (.iastore, 1) := dk_1079 (dk_g tcX12_trace_7 4 rfl)
theorem dX12_trace_89 : decode cX12_trace 89 = .ok (.iinc 5 1, 3) := dk_1132 (dk_g tcX12_trace_7 5 rfl) (dk_g tcX12_trace_7 6 rfl) (dk_g tcX12_trace_7 7 rfl) rfl (by decide +kernel)
theorem dX12_trace_92 : decode cX12_trace 92 = .ok (.goto (-20), 3) := dk_1167 (dk_g tcX12_trace_7 8 rfl) (dk_g tcX12_trace_7 9 rfl) (dk_g tcX12_trace_7 10 rfl) (by decide +kernel)
theorem dX12_trace_95 : decode cX12_trace 95 = .ok (.aload_n 0, 1) := dk_1042 (dk_g tcX12_trace_7 11 rfl)
theorem tcX12_trace_8 : (cX12_trace.data.toList.drop 96).take 12 = [3, 181, 1, 155, 42, 27, 28, 29, 182, 1, 152, 87] := by decide +kernel
theorem dX12_trace_96 : decode cX12_trace 96 = .ok (.iconst 0, 1) := dk_1003 (dk_g tcX12_trace_8 0 rfl)
theorem dX12_trace_97 : decode cX12_trace 97 = .ok (.putfield 411, 3) := dk_1181 (dk_g tcX12_trace_8 1 rfl) (dk_g tcX12_trace_8 2 rfl) (dk_g tcX12_trace_8 3 rfl) rfl
theorem dX12_trace_100 : decode cX12_trace 100 = .ok (.aload_n 0, 1) := dk_1042 (dk_g tcX12_trace_8 4 rfl)
theorem dX12_trace_101 : decode cX12_trace 101 = .ok (.iload_n 1, 1) := dk_1027 (dk_g tcX12_trace_8 5 rfl)
theorem dX12_trace_102 : decode cX12_trace 102 = .ok (.iload_n 2, 1) := dk_1028 (dk_g tcX12_trace_8 6 rfl)
theorem dX12_trace_103 : decode cX12_trace 103 = .ok (.iload_n 3, 1) := dk_1029 (dk_g tcX12_trace_8 7 rfl)
theorem dX12_trace_104 : decode cX12_trace 104 = .ok (.invokevirtual 408, 3) := dk_1182 (dk_g tcX12_trace_8 8 rfl) (dk_g tcX12_trace_8 9 rfl) (dk_g tcX12_trace_8 10 rfl) rfl
theorem dX12_trace_107 : decode cX12_trace 107 = .ok (.pop, 1) := dk_1087 (dk_g tcX12_trace_8 11 rfl)
theorem tcX12_trace_9 : (cX12_trace.data.toList.drop 108).take 12 = [21, 4, 154, 0, 7, 27, 167, 0, 12, 42, 180, 0] := by decide +kernel
theorem dX12_trace_108 : decode cX12_trace 108 = .ok (.iload 4, 2) := dk_1021 (dk_g tcX12_trace_9 0 rfl) (dk_g tcX12_trace_9 1 rfl) rfl
theorem dX12_trace_110 : decode cX12_trace 110 = .ok (.ifCond .ne 7, 3) := dk_2154 (dk_g tcX12_trace_9 2 rfl) (dk_g tcX12_trace_9 3 rfl) (dk_g tcX12_trace_9 4 rfl) rfl rfl
theorem dX12_trace_113 : decode cX12_trace 113 = .ok (.iload_n 1, 1) := dk_1027 (dk_g tcX12_trace_9 5 rfl)
theorem dX12_trace_114 : decode cX12_trace 114 = .ok (.goto 12, 3) := dk_2167 (dk_g tcX12_trace_9 6 rfl) (dk_g tcX12_trace_9 7 rfl) (dk_g tcX12_trace_9 8 rfl) rfl rfl
theorem dX12_trace_117 : decode cX12_trace 117 = .ok (.aload_n 0, 1) := dk_1042 (dk_g tcX12_trace_9 9 rfl)
theorem tcX12_trace_10 : (cX12_trace.data.toList.drop 120).take 12 = [82, 21, 4, 4, 100, 46, 172] := by decide +kernel
theorem dX12_trace_118 : decode cX12_trace 118 = .ok (.getfield 82, 3) := dk_1180 (dk_g tcX12_trace_9 10 rfl) (dk_g tcX12_trace_9 11 rfl) (dk_g tcX12_trace_10 0 rfl) rfl
theorem dX12_trace_121 : decode cX12_trace 121 = .ok (.iload 4, 2) := dk_1021 (dk_g tcX12_trace_10 1 rfl) (dk_g tcX12_trace_10 2 rfl) rfl
theorem dX12_trace_123 : decode cX12_trace 123 = .ok (.iconst 1, 1) := dk_1004 (dk_g tcX12_trace_10 3 rfl)
theorem dX12_trace_124 : decode cX12_trace 124 = .ok (.isub, 1) := dk_1100 (dk_g tcX12_trace_10 4 rfl)
theorem dX12_trace_125 : decode cX12_trace 125 = .ok (.iaload, 1) := dk_1046 (dk_g tcX12_trace_10 5 rfl)
theorem dX12_trace_126 : decode cX12_trace 126 = .ok (.ireturn, 1) := dk_1172 (dk_g tcX12_trace_10 6 rfl)
theorem tcX12_wayAt_0 : (cX12_wayAt.data.toList.drop 0).take 12 = [27, 42, 180, 0, 139, 161, 0, 11, 42, 8, 182, 0] := by decide +kernel
theorem dX12_wayAt_0 : decode cX12_wayAt 0 = .ok (.iload_n 1, 1) := dk_1027 (dk_g tcX12_wayAt_0 0 rfl)
theorem dX12_wayAt_1 : decode cX12_wayAt 1 = .ok (.aload_n 0, 1) := dk_1042 (dk_g tcX12_wayAt_0 1 rfl)
theorem dX12_wayAt_2 : decode cX12_wayAt 2 = .ok (.getfield 139, 3) := dk_1180 (dk_g tcX12_wayAt_0 2 rfl) (dk_g tcX12_wayAt_0 3 rfl) (dk_g tcX12_wayAt_0 4 rfl) rfl
theorem dX12_wayAt_5 : decode cX12_wayAt 5 = .ok (.if_icmp .lt 11, 3) := dk_2161 (dk_g tcX12_wayAt_0 5 rfl) (dk_g tcX12_wayAt_0 6 rfl) (dk_g tcX12_wayAt_0 7 rfl) rfl rfl
theorem dX12_wayAt_8 : decode cX12_wayAt 8 = .ok (.aload_n 0, 1) := dk_1042 (dk_g tcX12_wayAt_0 8 rfl)
theorem dX12_wayAt_9 : decode cX12_wayAt 9 = .ok (.iconst 5, 1) := dk_1008 (dk_g tcX12_wayAt_0 9 rfl)
theorem tcX12_wayAt_1 : (cX12_wayAt.data.toList.drop 12).take 12 = [212, 167, 0, 22, 28, 154, 0, 12, 42, 180, 0, 16] := by decide +kernel
theorem dX12_wayAt_10 : decode cX12_wayAt 10 = .ok (.invokevirtual 212, 3) := dk_1182 (dk_g tcX12_wayAt_0 10 rfl) (dk_g tcX12_wayAt_0 11 rfl) (dk_g tcX12_wayAt_1 0 rfl) rfl
theorem dX12_wayAt_13 : decode cX12_wayAt 13 = .ok (.goto 22, 3) := dk_2167 (dk_g tcX12_wayAt_1 1 rfl) (dk_g tcX12_wayAt_1 2 rfl) (dk_g tcX12_wayAt_1 3 rfl) rfl rfl
theorem dX12_wayAt_16 : decode cX12_wayAt 16 = .ok (.iload_n 2, 1) := dk_1028 (dk_g tcX12_wayAt_1 4 rfl)
theorem dX12_wayAt_17 : decode cX12_wayAt 17 = .ok (.ifCond .ne 12, 3) := dk_2154 (dk_g tcX12_wayAt_1 5 rfl) (dk_g tcX12_wayAt_1 6 rfl) (dk_g tcX12_wayAt_1 7 rfl) rfl rfl
theorem dX12_wayAt_20 : decode cX12_wayAt 20 = .ok (.aload_n 0, 1) := dk_1042 (dk_g tcX12_wayAt_1 8 rfl)
theorem dX12_wayAt_21 : decode cX12_wayAt 21 = .ok (.getfield 16, 3) := dk_1180 (dk_g tcX12_wayAt_1 9 rfl) (dk_g tcX12_wayAt_1 10 rfl) (dk_g tcX12_wayAt_1 11 rfl) rfl
theorem tcX12_wayAt_2 : (cX12_wayAt.data.toList.drop 24).take 12 = [27, 46, 167, 0, 9, 42, 180, 0, 19, 27, 46, 172] := by decide +kernel
theorem dX12_wayAt_24 : decode cX12_wayAt 24 = .ok (.iload_n 1, 1) := dk_1027 (dk_g tcX12_wayAt_2 0 rfl)
theorem dX12_wayAt_25 : decode cX12_wayAt 25 = .ok (.iaload, 1) := dk_1046 (dk_g tcX12_wayAt_2 1 rfl)
theorem dX12_wayAt_26 : decode cX12_wayAt 26 = .ok (.goto 9, 3) := dk_2167 (dk_g tcX12_wayAt_2 2 rfl) (dk_g tcX12_wayAt_2 3 rfl) (dk_g tcX12_wayAt_2 4 rfl) rfl rfl
theorem dX12_wayAt_29 : decode cX12_wayAt 29 = .ok (.aload_n 0, 1) := dk_1042 (dk_g tcX12_wayAt_2 5 rfl)
theorem dX12_wayAt_30 : decode cX12_wayAt 30 = .ok (.getfield 19, 3) := dk_1180 (dk_g tcX12_wayAt_2 6 rfl) (dk_g tcX12_wayAt_2 7 rfl) (dk_g tcX12_wayAt_2 8 rfl) rfl
theorem dX12_wayAt_33 : decode cX12_wayAt 33 = .ok (.iload_n 1, 1) := dk_1027 (dk_g tcX12_wayAt_2 9 rfl)
theorem dX12_wayAt_34 : decode cX12_wayAt 34 = .ok (.iaload, 1) := dk_1046 (dk_g tcX12_wayAt_2 10 rfl)
theorem dX12_wayAt_35 : decode cX12_wayAt 35 = .ok (.ireturn, 1) := dk_1172 (dk_g tcX12_wayAt_2 11 rfl)
theorem tcX12_span_0 : (cX12_span.data.toList.drop 0).take 12 = [42, 42, 27, 28, 182, 1, 125, 153, 0, 21, 29, 155] := by decide +kernel
theorem dX12_span_0 : decode cX12_span 0 = .ok (.aload_n 0, 1) := dk_1042 (dk_g tcX12_span_0 0 rfl)
theorem dX12_span_1 : decode cX12_span 1 = .ok (.aload_n 0, 1) := dk_1042 (dk_g tcX12_span_0 1 rfl)
theorem dX12_span_2 : decode cX12_span 2 = .ok (.iload_n 1, 1) := dk_1027 (dk_g tcX12_span_0 2 rfl)
theorem dX12_span_3 : decode cX12_span 3 = .ok (.iload_n 2, 1) := dk_1028 (dk_g tcX12_span_0 3 rfl)
theorem dX12_span_4 : decode cX12_span 4 = .ok (.invokevirtual 381, 3) := dk_1182 (dk_g tcX12_span_0 4 rfl) (dk_g tcX12_span_0 5 rfl) (dk_g tcX12_span_0 6 rfl) rfl
theorem dX12_span_7 : decode cX12_span 7 = .ok (.ifCond .eq 21, 3) := dk_2153 (dk_g tcX12_span_0 7 rfl) (dk_g tcX12_span_0 8 rfl) (dk_g tcX12_span_0 9 rfl) rfl rfl
theorem dX12_span_10 : decode cX12_span 10 = .ok (.iload_n 3, 1) := dk_1029 (dk_g tcX12_span_0 10 rfl)
theorem tcX12_span_1 : (cX12_span.data.toList.drop 12).take 12 = [0, 17, 21, 4, 3, 4, 184, 0, 113, 153, 0, 7] := by decide +kernel
theorem dX12_span_11 : decode cX12_span 11 = .ok (.ifCond .lt 17, 3) := dk_2155 (dk_g tcX12_span_0 11 rfl) (dk_g tcX12_span_1 0 rfl) (dk_g tcX12_span_1 1 rfl) rfl rfl
theorem dX12_span_14 : decode cX12_span 14 = .ok (.iload 4, 2) := dk_1021 (dk_g tcX12_span_1 2 rfl) (dk_g tcX12_span_1 3 rfl) rfl
theorem dX12_span_16 : decode cX12_span 16 = .ok (.iconst 0, 1) := dk_1003 (dk_g tcX12_span_1 4 rfl)
theorem dX12_span_17 : decode cX12_span 17 = .ok (.iconst 1, 1) := dk_1004 (dk_g tcX12_span_1 5 rfl)
theorem dX12_span_18 : decode cX12_span 18 = .ok (.invokestatic 113, 3) := dk_1184 (dk_g tcX12_span_1 6 rfl) (dk_g tcX12_span_1 7 rfl) (dk_g tcX12_span_1 8 rfl) rfl
theorem dX12_span_21 : decode cX12_span 21 = .ok (.ifCond .eq 7, 3) := dk_2153 (dk_g tcX12_span_1 9 rfl) (dk_g tcX12_span_1 10 rfl) (dk_g tcX12_span_1 11 rfl) rfl rfl
theorem tcX12_span_2 : (cX12_span.data.toList.drop 24).take 12 = [3, 167, 0, 4, 4, 182, 1, 53, 154, 0, 5, 2] := by decide +kernel
theorem dX12_span_24 : decode cX12_span 24 = .ok (.iconst 0, 1) := dk_1003 (dk_g tcX12_span_2 0 rfl)
theorem dX12_span_25 : decode cX12_span 25 = .ok (.goto 4, 3) := dk_2167 (dk_g tcX12_span_2 1 rfl) (dk_g tcX12_span_2 2 rfl) (dk_g tcX12_span_2 3 rfl) rfl rfl
theorem dX12_span_28 : decode cX12_span 28 = .ok (.iconst 1, 1) := dk_1004 (dk_g tcX12_span_2 4 rfl)
theorem dX12_span_29 : decode cX12_span 29 = .ok (.invokevirtual 309, 3) := dk_1182 (dk_g tcX12_span_2 5 rfl) (dk_g tcX12_span_2 6 rfl) (dk_g tcX12_span_2 7 rfl) rfl
theorem dX12_span_32 : decode cX12_span 32 = .ok (.ifCond .ne 5, 3) := dk_2154 (dk_g tcX12_span_2 8 rfl) (dk_g tcX12_span_2 9 rfl) (dk_g tcX12_span_2 10 rfl) rfl rfl
theorem dX12_span_35 : decode cX12_span 35 = .ok (.iconst (-1), 1) := dk_1002 (dk_g tcX12_span_2 11 rfl)
theorem tcX12_span_3 : (cX12_span.data.toList.drop 36).take 12 = [172, 42, 27, 28, 182, 0, 171, 42, 29, 21, 4, 182] := by decide +kernel
theorem dX12_span_36 : decode cX12_span 36 = .ok (.ireturn, 1) := dk_1172 (dk_g tcX12_span_3 0 rfl)
theorem dX12_span_37 : decode cX12_span 37 = .ok (.aload_n 0, 1) := dk_1042 (dk_g tcX12_span_3 1 rfl)
theorem dX12_span_38 : decode cX12_span 38 = .ok (.iload_n 1, 1) := dk_1027 (dk_g tcX12_span_3 2 rfl)
theorem dX12_span_39 : decode cX12_span 39 = .ok (.iload_n 2, 1) := dk_1028 (dk_g tcX12_span_3 3 rfl)
theorem dX12_span_40 : decode cX12_span 40 = .ok (.invokevirtual 171, 3) := dk_1182 (dk_g tcX12_span_3 4 rfl) (dk_g tcX12_span_3 5 rfl) (dk_g tcX12_span_3 6 rfl) rfl
theorem dX12_span_43 : decode cX12_span 43 = .ok (.aload_n 0, 1) := dk_1042 (dk_g tcX12_span_3 7 rfl)
theorem dX12_span_44 : decode cX12_span 44 = .ok (.iload_n 3, 1) := dk_1029 (dk_g tcX12_span_3 8 rfl)
theorem dX12_span_45 : decode cX12_span 45 = .ok (.iload 4, 2) := dk_1021 (dk_g tcX12_span_3 9 rfl) (dk_g tcX12_span_3 10 rfl) rfl
theorem tcX12_span_4 : (cX12_span.data.toList.drop 48).take 12 = [1, 158, 172] := by decide +kernel
theorem dX12_span_47 : decode cX12_span 47 = .ok (.invokevirtual 414, 3) := dk_1182 (dk_g tcX12_span_3 11 rfl) (dk_g tcX12_span_4 0 rfl) (dk_g tcX12_span_4 1 rfl) rfl
theorem dX12_span_50 : decode cX12_span 50 = .ok (.ireturn, 1) := dk_1172 (dk_g tcX12_span_4 2 rfl)
theorem tcX12_rise_0 : (cX12_rise.data.toList.drop 0).take 12 = [42, 27, 155, 0, 26, 27, 28, 163, 0, 21, 29, 155] := by decide +kernel
theorem dX12_rise_0 : decode cX12_rise 0 = .ok (.aload_n 0, 1) := dk_1042 (dk_g tcX12_rise_0 0 rfl)
theorem dX12_rise_1 : decode cX12_rise 1 = .ok (.iload_n 1, 1) := dk_1027 (dk_g tcX12_rise_0 1 rfl)
theorem dX12_rise_2 : decode cX12_rise 2 = .ok (.ifCond .lt 26, 3) := dk_2155 (dk_g tcX12_rise_0 2 rfl) (dk_g tcX12_rise_0 3 rfl) (dk_g tcX12_rise_0 4 rfl) rfl rfl
theorem dX12_rise_5 : decode cX12_rise 5 = .ok (.iload_n 1, 1) := dk_1027 (dk_g tcX12_rise_0 5 rfl)
theorem dX12_rise_6 : decode cX12_rise 6 = .ok (.iload_n 2, 1) := dk_1028 (dk_g tcX12_rise_0 6 rfl)
theorem dX12_rise_7 : decode cX12_rise 7 = .ok (.if_icmp .gt 21, 3) := dk_2163 (dk_g tcX12_rise_0 7 rfl) (dk_g tcX12_rise_0 8 rfl) (dk_g tcX12_rise_0 9 rfl) rfl rfl
theorem dX12_rise_10 : decode cX12_rise 10 = .ok (.iload_n 3, 1) := dk_1029 (dk_g tcX12_rise_0 10 rfl)
theorem tcX12_rise_1 : (cX12_rise.data.toList.drop 12).take 12 = [0, 17, 21, 4, 3, 4, 184, 0, 113, 153, 0, 7] := by decide +kernel
theorem dX12_rise_11 : decode cX12_rise 11 = .ok (.ifCond .lt 17, 3) := dk_2155 (dk_g tcX12_rise_0 11 rfl) (dk_g tcX12_rise_1 0 rfl) (dk_g tcX12_rise_1 1 rfl) rfl rfl
theorem dX12_rise_14 : decode cX12_rise 14 = .ok (.iload 4, 2) := dk_1021 (dk_g tcX12_rise_1 2 rfl) (dk_g tcX12_rise_1 3 rfl) rfl
theorem dX12_rise_16 : decode cX12_rise 16 = .ok (.iconst 0, 1) := dk_1003 (dk_g tcX12_rise_1 4 rfl)
theorem dX12_rise_17 : decode cX12_rise 17 = .ok (.iconst 1, 1) := dk_1004 (dk_g tcX12_rise_1 5 rfl)
theorem dX12_rise_18 : decode cX12_rise 18 = .ok (.invokestatic 113, 3) := dk_1184 (dk_g tcX12_rise_1 6 rfl) (dk_g tcX12_rise_1 7 rfl) (dk_g tcX12_rise_1 8 rfl) rfl
theorem dX12_rise_21 : decode cX12_rise 21 = .ok (.ifCond .eq 7, 3) := dk_2153 (dk_g tcX12_rise_1 9 rfl) (dk_g tcX12_rise_1 10 rfl) (dk_g tcX12_rise_1 11 rfl) rfl rfl
theorem tcX12_rise_2 : (cX12_rise.data.toList.drop 24).take 12 = [3, 167, 0, 4, 4, 182, 1, 53, 154, 0, 5, 2] := by decide +kernel
theorem dX12_rise_24 : decode cX12_rise 24 = .ok (.iconst 0, 1) := dk_1003 (dk_g tcX12_rise_2 0 rfl)
theorem dX12_rise_25 : decode cX12_rise 25 = .ok (.goto 4, 3) := dk_2167 (dk_g tcX12_rise_2 1 rfl) (dk_g tcX12_rise_2 2 rfl) (dk_g tcX12_rise_2 3 rfl) rfl rfl
theorem dX12_rise_28 : decode cX12_rise 28 = .ok (.iconst 1, 1) := dk_1004 (dk_g tcX12_rise_2 4 rfl)
theorem dX12_rise_29 : decode cX12_rise 29 = .ok (.invokevirtual 309, 3) := dk_1182 (dk_g tcX12_rise_2 5 rfl) (dk_g tcX12_rise_2 6 rfl) (dk_g tcX12_rise_2 7 rfl) rfl
theorem dX12_rise_32 : decode cX12_rise 32 = .ok (.ifCond .ne 5, 3) := dk_2154 (dk_g tcX12_rise_2 8 rfl) (dk_g tcX12_rise_2 9 rfl) (dk_g tcX12_rise_2 10 rfl) rfl rfl
theorem dX12_rise_35 : decode cX12_rise 35 = .ok (.iconst (-1), 1) := dk_1002 (dk_g tcX12_rise_2 11 rfl)
theorem tcX12_rise_3 : (cX12_rise.data.toList.drop 36).take 12 = [172, 42, 27, 28, 182, 0, 190, 42, 29, 21, 4, 182] := by decide +kernel
theorem dX12_rise_36 : decode cX12_rise 36 = .ok (.ireturn, 1) := dk_1172 (dk_g tcX12_rise_3 0 rfl)
theorem dX12_rise_37 : decode cX12_rise 37 = .ok (.aload_n 0, 1) := dk_1042 (dk_g tcX12_rise_3 1 rfl)
theorem dX12_rise_38 : decode cX12_rise 38 = .ok (.iload_n 1, 1) := dk_1027 (dk_g tcX12_rise_3 2 rfl)
theorem dX12_rise_39 : decode cX12_rise 39 = .ok (.iload_n 2, 1) := dk_1028 (dk_g tcX12_rise_3 3 rfl)
theorem dX12_rise_40 : decode cX12_rise 40 = .ok (.invokevirtual 190, 3) := dk_1182 (dk_g tcX12_rise_3 4 rfl) (dk_g tcX12_rise_3 5 rfl) (dk_g tcX12_rise_3 6 rfl) rfl
theorem dX12_rise_43 : decode cX12_rise 43 = .ok (.aload_n 0, 1) := dk_1042 (dk_g tcX12_rise_3 7 rfl)
theorem dX12_rise_44 : decode cX12_rise 44 = .ok (.iload_n 3, 1) := dk_1029 (dk_g tcX12_rise_3 8 rfl)
theorem dX12_rise_45 : decode cX12_rise 45 = .ok (.iload 4, 2) := dk_1021 (dk_g tcX12_rise_3 9 rfl) (dk_g tcX12_rise_3 10 rfl) rfl
theorem tcX12_rise_4 : (cX12_rise.data.toList.drop 48).take 12 = [1, 158, 172] := by decide +kernel
theorem dX12_rise_47 : decode cX12_rise 47 = .ok (.invokevirtual 414, 3) := dk_1182 (dk_g tcX12_rise_3 11 rfl) (dk_g tcX12_rise_4 0 rfl) (dk_g tcX12_rise_4 1 rfl) rfl
theorem dX12_rise_50 : decode cX12_rise 50 = .ok (.ireturn, 1) := dk_1172 (dk_g tcX12_rise_4 2 rfl)
theorem tcX12_had_0 : (cX12_had.data.toList.drop 0).take 12 = [3, 62, 29, 42, 180, 1, 161, 162, 0, 31, 42, 180] := by decide +kernel
theorem dX12_had_0 : decode cX12_had 0 = .ok (.iconst 0, 1) := dk_1003 (dk_g tcX12_had_0 0 rfl)
theorem dX12_had_1 : decode cX12_had 1 = .ok (.istore_n 3, 1) := dk_1062 (dk_g tcX12_had_0 1 rfl)
theorem dX12_had_2 : decode cX12_had 2 = .ok (.iload_n 3, 1) := dk_1029 (dk_g tcX12_had_0 2 rfl)
theorem dX12_had_3 : decode cX12_had 3 = .ok (.aload_n 0, 1) := dk_1042 (dk_g tcX12_had_0 3 rfl)
theorem dX12_had_4 : decode cX12_had 4 = .ok (.getfield 417, 3) := dk_1180 (dk_g tcX12_had_0 4 rfl) (dk_g tcX12_had_0 5 rfl) (dk_g tcX12_had_0 6 rfl) rfl
theorem dX12_had_7 : decode cX12_had 7 = .ok (.if_icmp .ge 31, 3) := dk_2162 (dk_g tcX12_had_0 7 rfl) (dk_g tcX12_had_0 8 rfl) (dk_g tcX12_had_0 9 rfl) rfl rfl
theorem dX12_had_10 : decode cX12_had 10 = .ok (.aload_n 0, 1) := dk_1042 (dk_g tcX12_had_0 10 rfl)
theorem tcX12_had_1 : (cX12_had.data.toList.drop 12).take 12 = [0, 94, 29, 46, 27, 160, 0, 15, 42, 180, 0, 97] := by decide +kernel
theorem dX12_had_11 : decode cX12_had 11 = .ok (.getfield 94, 3) := dk_1180 (dk_g tcX12_had_0 11 rfl) (dk_g tcX12_had_1 0 rfl) (dk_g tcX12_had_1 1 rfl) rfl
theorem dX12_had_14 : decode cX12_had 14 = .ok (.iload_n 3, 1) := dk_1029 (dk_g tcX12_had_1 2 rfl)
theorem dX12_had_15 : decode cX12_had 15 = .ok (.iaload, 1) := dk_1046 (dk_g tcX12_had_1 3 rfl)
theorem dX12_had_16 : decode cX12_had 16 = .ok (.iload_n 1, 1) := dk_1027 (dk_g tcX12_had_1 4 rfl)
theorem dX12_had_17 : decode cX12_had 17 = .ok (.if_icmp .ne 15, 3) := dk_2160 (dk_g tcX12_had_1 5 rfl) (dk_g tcX12_had_1 6 rfl) (dk_g tcX12_had_1 7 rfl) rfl rfl
theorem dX12_had_20 : decode cX12_had 20 = .ok (.aload_n 0, 1) := dk_1042 (dk_g tcX12_had_1 8 rfl)
theorem dX12_had_21 : decode cX12_had 21 = .ok (.getfield 97, 3) := dk_1180 (dk_g tcX12_had_1 9 rfl) (dk_g tcX12_had_1 10 rfl) (dk_g tcX12_had_1 11 rfl) rfl
theorem tcX12_had_2 : (cX12_had.data.toList.drop 24).take 12 = [29, 46, 28, 160, 0, 5, 4, 172, 132, 3, 1, 167] := by decide +kernel
theorem dX12_had_24 : decode cX12_had 24 = .ok (.iload_n 3, 1) := dk_1029 (dk_g tcX12_had_2 0 rfl)
theorem dX12_had_25 : decode cX12_had 25 = .ok (.iaload, 1) := dk_1046 (dk_g tcX12_had_2 1 rfl)
theorem dX12_had_26 : decode cX12_had 26 = .ok (.iload_n 2, 1) := dk_1028 (dk_g tcX12_had_2 2 rfl)
theorem dX12_had_27 : decode cX12_had 27 = .ok (.if_icmp .ne 5, 3) := dk_2160 (dk_g tcX12_had_2 3 rfl) (dk_g tcX12_had_2 4 rfl) (dk_g tcX12_had_2 5 rfl) rfl rfl
theorem dX12_had_30 : decode cX12_had 30 = .ok (.iconst 1, 1) := dk_1004 (dk_g tcX12_had_2 6 rfl)
theorem dX12_had_31 : decode cX12_had 31 = .ok (.ireturn, 1) := dk_1172 (dk_g tcX12_had_2 7 rfl)
theorem dX12_had_32 : decode cX12_had 32 = .ok (.iinc 3 1, 3) := dk_1132 (dk_g tcX12_had_2 8 rfl) (dk_g tcX12_had_2 9 rfl) (dk_g tcX12_had_2 10 rfl) rfl (by decide +kernel)
theorem tcX12_had_3 : (cX12_had.data.toList.drop 36).take 12 = [255, 223, 3, 172] := by decide +kernel
theorem dX12_had_35 : decode cX12_had 35 = .ok (.goto (-33), 3) := dk_1167 (dk_g tcX12_had_2 11 rfl) (dk_g tcX12_had_3 0 rfl) (dk_g tcX12_had_3 1 rfl) (by decide +kernel)
theorem dX12_had_38 : decode cX12_had 38 = .ok (.iconst 0, 1) := dk_1003 (dk_g tcX12_had_3 2 rfl)
theorem dX12_had_39 : decode cX12_had 39 = .ok (.ireturn, 1) := dk_1172 (dk_g tcX12_had_3 3 rfl)
theorem tcX12_notes_0 : (cX12_notes.data.toList.drop 0).take 12 = [3, 60, 27, 42, 180, 0, 139, 162, 0, 71, 42, 42] := by decide +kernel
theorem dX12_notes_0 : decode cX12_notes 0 = .ok (.iconst 0, 1) := dk_1003 (dk_g tcX12_notes_0 0 rfl)
theorem dX12_notes_1 : decode cX12_notes 1 = .ok (.istore_n 1, 1) := dk_1060 (dk_g tcX12_notes_0 1 rfl)
theorem dX12_notes_2 : decode cX12_notes 2 = .ok (.iload_n 1, 1) := dk_1027 (dk_g tcX12_notes_0 2 rfl)
theorem dX12_notes_3 : decode cX12_notes 3 = .ok (.aload_n 0, 1) := dk_1042 (dk_g tcX12_notes_0 3 rfl)
theorem dX12_notes_4 : decode cX12_notes 4 = .ok (.getfield 139, 3) := dk_1180 (dk_g tcX12_notes_0 4 rfl) (dk_g tcX12_notes_0 5 rfl) (dk_g tcX12_notes_0 6 rfl) rfl
theorem dX12_notes_7 : decode cX12_notes 7 = .ok (.if_icmp .ge 71, 3) := dk_2162 (dk_g tcX12_notes_0 7 rfl) (dk_g tcX12_notes_0 8 rfl) (dk_g tcX12_notes_0 9 rfl) rfl rfl
theorem dX12_notes_10 : decode cX12_notes 10 = .ok (.aload_n 0, 1) := dk_1042 (dk_g tcX12_notes_0 10 rfl)
theorem dX12_notes_11 : decode cX12_notes 11 = .ok (.aload_n 0, 1) := dk_1042 (dk_g tcX12_notes_0 11 rfl)
theorem tcX12_notes_1 : (cX12_notes.data.toList.drop 12).take 12 = [180, 0, 16, 27, 46, 42, 180, 0, 19, 27, 46, 182] := by decide +kernel
theorem dX12_notes_12 : decode cX12_notes 12 = .ok (.getfield 16, 3) := dk_1180 (dk_g tcX12_notes_1 0 rfl) (dk_g tcX12_notes_1 1 rfl) (dk_g tcX12_notes_1 2 rfl) rfl
theorem dX12_notes_15 : decode cX12_notes 15 = .ok (.iload_n 1, 1) := dk_1027 (dk_g tcX12_notes_1 3 rfl)
theorem dX12_notes_16 : decode cX12_notes 16 = .ok (.iaload, 1) := dk_1046 (dk_g tcX12_notes_1 4 rfl)
theorem dX12_notes_17 : decode cX12_notes 17 = .ok (.aload_n 0, 1) := dk_1042 (dk_g tcX12_notes_1 5 rfl)
theorem dX12_notes_18 : decode cX12_notes 18 = .ok (.getfield 19, 3) := dk_1180 (dk_g tcX12_notes_1 6 rfl) (dk_g tcX12_notes_1 7 rfl) (dk_g tcX12_notes_1 8 rfl) rfl
theorem dX12_notes_21 : decode cX12_notes 21 = .ok (.iload_n 1, 1) := dk_1027 (dk_g tcX12_notes_1 9 rfl)
theorem dX12_notes_22 : decode cX12_notes 22 = .ok (.iaload, 1) := dk_1046 (dk_g tcX12_notes_1 10 rfl)
theorem tcX12_notes_2 : (cX12_notes.data.toList.drop 24).take 12 = [1, 164, 153, 0, 6, 167, 0, 43, 42, 180, 0, 94] := by decide +kernel
theorem dX12_notes_23 : decode cX12_notes 23 = .ok (.invokevirtual 420, 3) := dk_1182 (dk_g tcX12_notes_1 11 rfl) (dk_g tcX12_notes_2 0 rfl) (dk_g tcX12_notes_2 1 rfl) rfl
theorem dX12_notes_26 : decode cX12_notes 26 = .ok (.ifCond .eq 6, 3) := dk_2153 (dk_g tcX12_notes_2 2 rfl) (dk_g tcX12_notes_2 3 rfl) (dk_g tcX12_notes_2 4 rfl) rfl rfl
theorem dX12_notes_29 : decode cX12_notes 29 = .ok (.goto 43, 3) := dk_2167 (dk_g tcX12_notes_2 5 rfl) (dk_g tcX12_notes_2 6 rfl) (dk_g tcX12_notes_2 7 rfl) rfl rfl
theorem dX12_notes_32 : decode cX12_notes 32 = .ok (.aload_n 0, 1) := dk_1042 (dk_g tcX12_notes_2 8 rfl)
theorem dX12_notes_33 : decode cX12_notes 33 = .ok (.getfield 94, 3) := dk_1180 (dk_g tcX12_notes_2 9 rfl) (dk_g tcX12_notes_2 10 rfl) (dk_g tcX12_notes_2 11 rfl) rfl
theorem tcX12_notes_3 : (cX12_notes.data.toList.drop 36).take 12 = [42, 180, 1, 161, 42, 180, 0, 16, 27, 46, 79, 42] := by decide +kernel
theorem dX12_notes_36 : decode cX12_notes 36 = .ok (.aload_n 0, 1) := dk_1042 (dk_g tcX12_notes_3 0 rfl)
theorem dX12_notes_37 : decode cX12_notes 37 = .ok (.getfield 417, 3) := dk_1180 (dk_g tcX12_notes_3 1 rfl) (dk_g tcX12_notes_3 2 rfl) (dk_g tcX12_notes_3 3 rfl) rfl
theorem dX12_notes_40 : decode cX12_notes 40 = .ok (.aload_n 0, 1) := dk_1042 (dk_g tcX12_notes_3 4 rfl)
theorem dX12_notes_41 : decode cX12_notes 41 = .ok (.getfield 16, 3) := dk_1180 (dk_g tcX12_notes_3 5 rfl) (dk_g tcX12_notes_3 6 rfl) (dk_g tcX12_notes_3 7 rfl) rfl
theorem dX12_notes_44 : decode cX12_notes 44 = .ok (.iload_n 1, 1) := dk_1027 (dk_g tcX12_notes_3 8 rfl)
theorem dX12_notes_45 : decode cX12_notes 45 = .ok (.iaload, 1) := dk_1046 (dk_g tcX12_notes_3 9 rfl)
theorem dX12_notes_46 : decode cX12_notes 46 = .ok (.iastore, 1) := dk_1079 (dk_g tcX12_notes_3 10 rfl)
theorem dX12_notes_47 : decode cX12_notes 47 = .ok (.aload_n 0, 1) := dk_1042 (dk_g tcX12_notes_3 11 rfl)
theorem tcX12_notes_4 : (cX12_notes.data.toList.drop 48).take 12 = [180, 0, 97, 42, 180, 1, 161, 42, 180, 0, 19, 27] := by decide +kernel
theorem dX12_notes_48 : decode cX12_notes 48 = .ok (.getfield 97, 3) := dk_1180 (dk_g tcX12_notes_4 0 rfl) (dk_g tcX12_notes_4 1 rfl) (dk_g tcX12_notes_4 2 rfl) rfl
theorem dX12_notes_51 : decode cX12_notes 51 = .ok (.aload_n 0, 1) := dk_1042 (dk_g tcX12_notes_4 3 rfl)
theorem dX12_notes_52 : decode cX12_notes 52 = .ok (.getfield 417, 3) := dk_1180 (dk_g tcX12_notes_4 4 rfl) (dk_g tcX12_notes_4 5 rfl) (dk_g tcX12_notes_4 6 rfl) rfl
theorem dX12_notes_55 : decode cX12_notes 55 = .ok (.aload_n 0, 1) := dk_1042 (dk_g tcX12_notes_4 7 rfl)
theorem dX12_notes_56 : decode cX12_notes 56 = .ok (.getfield 19, 3) := dk_1180 (dk_g tcX12_notes_4 8 rfl) (dk_g tcX12_notes_4 9 rfl) (dk_g tcX12_notes_4 10 rfl) rfl
theorem dX12_notes_59 : decode cX12_notes 59 = .ok (.iload_n 1, 1) := dk_1027 (dk_g tcX12_notes_4 11 rfl)
theorem tcX12_notes_5 : (cX12_notes.data.toList.drop 60).take 12 = [46, 79, 42, 89, 180, 1, 161, 4, 96, 181, 1, 161] := by decide +kernel
theorem dX12_notes_60 : decode cX12_notes 60 = .ok (.iaload, 1) := dk_1046 (dk_g tcX12_notes_5 0 rfl)
theorem dX12_notes_61 : decode cX12_notes 61 = .ok (.iastore, 1) := dk_1079 (dk_g tcX12_notes_5 1 rfl)
theorem dX12_notes_62 : decode cX12_notes 62 = .ok (.aload_n 0, 1) := dk_1042 (dk_g tcX12_notes_5 2 rfl)
theorem dX12_notes_63 : decode cX12_notes 63 = .ok (.dup, 1) := dk_1089 (dk_g tcX12_notes_5 3 rfl)
theorem dX12_notes_64 : decode cX12_notes 64 = .ok (.getfield 417, 3) := dk_1180 (dk_g tcX12_notes_5 4 rfl) (dk_g tcX12_notes_5 5 rfl) (dk_g tcX12_notes_5 6 rfl) rfl
theorem dX12_notes_67 : decode cX12_notes 67 = .ok (.iconst 1, 1) := dk_1004 (dk_g tcX12_notes_5 7 rfl)
theorem dX12_notes_68 : decode cX12_notes 68 = .ok (.iadd, 1) := dk_1096 (dk_g tcX12_notes_5 8 rfl)
theorem dX12_notes_69 : decode cX12_notes 69 = .ok (.putfield 417, 3) := dk_1181 (dk_g tcX12_notes_5 9 rfl) (dk_g tcX12_notes_5 10 rfl) (dk_g tcX12_notes_5 11 rfl) rfl
theorem tcX12_notes_6 : (cX12_notes.data.toList.drop 72).take 12 = [132, 1, 1, 167, 255, 183, 177] := by decide +kernel
theorem dX12_notes_72 : decode cX12_notes 72 = .ok (.iinc 1 1, 3) := dk_1132 (dk_g tcX12_notes_6 0 rfl) (dk_g tcX12_notes_6 1 rfl) (dk_g tcX12_notes_6 2 rfl) rfl (by decide +kernel)
theorem dX12_notes_75 : decode cX12_notes 75 = .ok (.goto (-73), 3) := dk_1167 (dk_g tcX12_notes_6 3 rfl) (dk_g tcX12_notes_6 4 rfl) (dk_g tcX12_notes_6 5 rfl) (by decide +kernel)
theorem dX12_notes_78 : decode cX12_notes 78 = .ok (.return_, 1) := dk_1177 (dk_g tcX12_notes_6 6 rfl)
theorem tcX12_kept_0 : (cX12_kept.data.toList.drop 0).take 12 = [42, 42, 27, 28, 182, 1, 125, 153, 0, 12, 29, 28] := by decide +kernel
theorem dX12_kept_0 : decode cX12_kept 0 = .ok (.aload_n 0, 1) := dk_1042 (dk_g tcX12_kept_0 0 rfl)
theorem dX12_kept_1 : decode cX12_kept 1 = .ok (.aload_n 0, 1) := dk_1042 (dk_g tcX12_kept_0 1 rfl)
theorem dX12_kept_2 : decode cX12_kept 2 = .ok (.iload_n 1, 1) := dk_1027 (dk_g tcX12_kept_0 2 rfl)
theorem dX12_kept_3 : decode cX12_kept 3 = .ok (.iload_n 2, 1) := dk_1028 (dk_g tcX12_kept_0 3 rfl)
theorem dX12_kept_4 : decode cX12_kept 4 = .ok (.invokevirtual 381, 3) := dk_1182 (dk_g tcX12_kept_0 4 rfl) (dk_g tcX12_kept_0 5 rfl) (dk_g tcX12_kept_0 6 rfl) rfl
theorem dX12_kept_7 : decode cX12_kept 7 = .ok (.ifCond .eq 12, 3) := dk_2153 (dk_g tcX12_kept_0 7 rfl) (dk_g tcX12_kept_0 8 rfl) (dk_g tcX12_kept_0 9 rfl) rfl rfl
theorem dX12_kept_10 : decode cX12_kept 10 = .ok (.iload_n 3, 1) := dk_1029 (dk_g tcX12_kept_0 10 rfl)
theorem dX12_kept_11 : decode cX12_kept 11 = .ok (.iload_n 2, 1) := dk_1028 (dk_g tcX12_kept_0 11 rfl)
theorem tcX12_kept_1 : (cX12_kept.data.toList.drop 12).take 12 = [161, 0, 7, 3, 167, 0, 4, 4, 182, 1, 53, 154] := by decide +kernel
theorem dX12_kept_12 : decode cX12_kept 12 = .ok (.if_icmp .lt 7, 3) := dk_2161 (dk_g tcX12_kept_1 0 rfl) (dk_g tcX12_kept_1 1 rfl) (dk_g tcX12_kept_1 2 rfl) rfl rfl
theorem dX12_kept_15 : decode cX12_kept 15 = .ok (.iconst 0, 1) := dk_1003 (dk_g tcX12_kept_1 3 rfl)
theorem dX12_kept_16 : decode cX12_kept 16 = .ok (.goto 4, 3) := dk_2167 (dk_g tcX12_kept_1 4 rfl) (dk_g tcX12_kept_1 5 rfl) (dk_g tcX12_kept_1 6 rfl) rfl rfl
theorem dX12_kept_19 : decode cX12_kept 19 = .ok (.iconst 1, 1) := dk_1004 (dk_g tcX12_kept_1 7 rfl)
theorem dX12_kept_20 : decode cX12_kept 20 = .ok (.invokevirtual 309, 3) := dk_1182 (dk_g tcX12_kept_1 8 rfl) (dk_g tcX12_kept_1 9 rfl) (dk_g tcX12_kept_1 10 rfl) rfl
theorem tcX12_kept_2 : (cX12_kept.data.toList.drop 24).take 12 = [0, 5, 2, 172, 42, 3, 181, 1, 161, 42, 27, 28] := by decide +kernel
theorem dX12_kept_23 : decode cX12_kept 23 = .ok (.ifCond .ne 5, 3) := dk_2154 (dk_g tcX12_kept_1 11 rfl) (dk_g tcX12_kept_2 0 rfl) (dk_g tcX12_kept_2 1 rfl) rfl rfl
theorem dX12_kept_26 : decode cX12_kept 26 = .ok (.iconst (-1), 1) := dk_1002 (dk_g tcX12_kept_2 2 rfl)
theorem dX12_kept_27 : decode cX12_kept 27 = .ok (.ireturn, 1) := dk_1172 (dk_g tcX12_kept_2 3 rfl)
theorem dX12_kept_28 : decode cX12_kept 28 = .ok (.aload_n 0, 1) := dk_1042 (dk_g tcX12_kept_2 4 rfl)
theorem dX12_kept_29 : decode cX12_kept 29 = .ok (.iconst 0, 1) := dk_1003 (dk_g tcX12_kept_2 5 rfl)
theorem dX12_kept_30 : decode cX12_kept 30 = .ok (.putfield 417, 3) := dk_1181 (dk_g tcX12_kept_2 6 rfl) (dk_g tcX12_kept_2 7 rfl) (dk_g tcX12_kept_2 8 rfl) rfl
theorem dX12_kept_33 : decode cX12_kept 33 = .ok (.aload_n 0, 1) := dk_1042 (dk_g tcX12_kept_2 9 rfl)
theorem dX12_kept_34 : decode cX12_kept 34 = .ok (.iload_n 1, 1) := dk_1027 (dk_g tcX12_kept_2 10 rfl)
theorem dX12_kept_35 : decode cX12_kept 35 = .ok (.iload_n 2, 1) := dk_1028 (dk_g tcX12_kept_2 11 rfl)
theorem tcX12_kept_3 : (cX12_kept.data.toList.drop 36).take 12 = [182, 0, 171, 42, 182, 1, 167, 42, 27, 29, 182, 0] := by decide +kernel
theorem dX12_kept_36 : decode cX12_kept 36 = .ok (.invokevirtual 171, 3) := dk_1182 (dk_g tcX12_kept_3 0 rfl) (dk_g tcX12_kept_3 1 rfl) (dk_g tcX12_kept_3 2 rfl) rfl
theorem dX12_kept_39 : decode cX12_kept 39 = .ok (.aload_n 0, 1) := dk_1042 (dk_g tcX12_kept_3 3 rfl)
theorem dX12_kept_40 : decode cX12_kept 40 = .ok (.invokevirtual 423, 3) := dk_1182 (dk_g tcX12_kept_3 4 rfl) (dk_g tcX12_kept_3 5 rfl) (dk_g tcX12_kept_3 6 rfl) rfl
theorem dX12_kept_43 : decode cX12_kept 43 = .ok (.aload_n 0, 1) := dk_1042 (dk_g tcX12_kept_3 7 rfl)
theorem dX12_kept_44 : decode cX12_kept 44 = .ok (.iload_n 1, 1) := dk_1027 (dk_g tcX12_kept_3 8 rfl)
theorem dX12_kept_45 : decode cX12_kept 45 = .ok (.iload_n 3, 1) := dk_1029 (dk_g tcX12_kept_3 9 rfl)
theorem tcX12_kept_4 : (cX12_kept.data.toList.drop 48).take 12 = [171, 3, 54, 4, 3, 54, 5, 21, 5, 42, 180, 0] := by decide +kernel
theorem dX12_kept_46 : decode cX12_kept 46 = .ok (.invokevirtual 171, 3) := dk_1182 (dk_g tcX12_kept_3 10 rfl) (dk_g tcX12_kept_3 11 rfl) (dk_g tcX12_kept_4 0 rfl) rfl
theorem dX12_kept_49 : decode cX12_kept 49 = .ok (.iconst 0, 1) := dk_1003 (dk_g tcX12_kept_4 1 rfl)
theorem dX12_kept_50 : decode cX12_kept 50 = .ok (.istore 4, 2) := dk_1054 (dk_g tcX12_kept_4 2 rfl) (dk_g tcX12_kept_4 3 rfl) rfl
theorem dX12_kept_52 : decode cX12_kept 52 = .ok (.iconst 0, 1) := dk_1003 (dk_g tcX12_kept_4 4 rfl)
theorem dX12_kept_53 : decode cX12_kept 53 = .ok (.istore 5, 2) := dk_1054 (dk_g tcX12_kept_4 5 rfl) (dk_g tcX12_kept_4 6 rfl) rfl
theorem dX12_kept_55 : decode cX12_kept 55 = .ok (.iload 5, 2) := dk_1021 (dk_g tcX12_kept_4 7 rfl) (dk_g tcX12_kept_4 8 rfl) rfl
theorem dX12_kept_57 : decode cX12_kept 57 = .ok (.aload_n 0, 1) := dk_1042 (dk_g tcX12_kept_4 9 rfl)
theorem tcX12_kept_5 : (cX12_kept.data.toList.drop 60).take 12 = [139, 162, 0, 40, 21, 4, 42, 42, 180, 0, 16, 21] := by decide +kernel
theorem dX12_kept_58 : decode cX12_kept 58 = .ok (.getfield 139, 3) := dk_1180 (dk_g tcX12_kept_4 10 rfl) (dk_g tcX12_kept_4 11 rfl) (dk_g tcX12_kept_5 0 rfl) rfl
theorem dX12_kept_61 : decode cX12_kept 61 = .ok (.if_icmp .ge 40, 3) := dk_2162 (dk_g tcX12_kept_5 1 rfl) (dk_g tcX12_kept_5 2 rfl) (dk_g tcX12_kept_5 3 rfl) rfl rfl
theorem dX12_kept_64 : decode cX12_kept 64 = .ok (.iload 4, 2) := dk_1021 (dk_g tcX12_kept_5 4 rfl) (dk_g tcX12_kept_5 5 rfl) rfl
theorem dX12_kept_66 : decode cX12_kept 66 = .ok (.aload_n 0, 1) := dk_1042 (dk_g tcX12_kept_5 6 rfl)
theorem dX12_kept_67 : decode cX12_kept 67 = .ok (.aload_n 0, 1) := dk_1042 (dk_g tcX12_kept_5 7 rfl)
theorem dX12_kept_68 : decode cX12_kept 68 = .ok (.getfield 16, 3) := dk_1180 (dk_g tcX12_kept_5 8 rfl) (dk_g tcX12_kept_5 9 rfl) (dk_g tcX12_kept_5 10 rfl) rfl
theorem tcX12_kept_6 : (cX12_kept.data.toList.drop 72).take 12 = [5, 46, 42, 180, 0, 19, 21, 5, 46, 182, 1, 164] := by decide +kernel
theorem dX12_kept_71 : decode cX12_kept 71 = .ok (.iload 5, 2) := dk_1021 (dk_g tcX12_kept_5 11 rfl) (dk_g tcX12_kept_6 0 rfl) rfl
theorem dX12_kept_73 : decode cX12_kept 73 = .ok (.iaload, 1) := dk_1046 (dk_g tcX12_kept_6 1 rfl)
theorem dX12_kept_74 : decode cX12_kept 74 = .ok (.aload_n 0, 1) := dk_1042 (dk_g tcX12_kept_6 2 rfl)
theorem dX12_kept_75 : decode cX12_kept 75 = .ok (.getfield 19, 3) := dk_1180 (dk_g tcX12_kept_6 3 rfl) (dk_g tcX12_kept_6 4 rfl) (dk_g tcX12_kept_6 5 rfl) rfl
theorem dX12_kept_78 : decode cX12_kept 78 = .ok (.iload 5, 2) := dk_1021 (dk_g tcX12_kept_6 6 rfl) (dk_g tcX12_kept_6 7 rfl) rfl
theorem dX12_kept_80 : decode cX12_kept 80 = .ok (.iaload, 1) := dk_1046 (dk_g tcX12_kept_6 8 rfl)
theorem dX12_kept_81 : decode cX12_kept 81 = .ok (.invokevirtual 420, 3) := dk_1182 (dk_g tcX12_kept_6 9 rfl) (dk_g tcX12_kept_6 10 rfl) (dk_g tcX12_kept_6 11 rfl) rfl
theorem tcX12_kept_7 : (cX12_kept.data.toList.drop 84).take 12 = [153, 0, 7, 4, 167, 0, 4, 3, 96, 54, 4, 132] := by decide +kernel
theorem dX12_kept_84 : decode cX12_kept 84 = .ok (.ifCond .eq 7, 3) := dk_2153 (dk_g tcX12_kept_7 0 rfl) (dk_g tcX12_kept_7 1 rfl) (dk_g tcX12_kept_7 2 rfl) rfl rfl
theorem dX12_kept_87 : decode cX12_kept 87 = .ok (.iconst 1, 1) := dk_1004 (dk_g tcX12_kept_7 3 rfl)
theorem dX12_kept_88 : decode cX12_kept 88 = .ok (.goto 4, 3) := dk_2167 (dk_g tcX12_kept_7 4 rfl) (dk_g tcX12_kept_7 5 rfl) (dk_g tcX12_kept_7 6 rfl) rfl rfl
theorem dX12_kept_91 : decode cX12_kept 91 = .ok (.iconst 0, 1) := dk_1003 (dk_g tcX12_kept_7 7 rfl)
theorem dX12_kept_92 : decode cX12_kept 92 = .ok (.iadd, 1) := dk_1096 (dk_g tcX12_kept_7 8 rfl)
theorem dX12_kept_93 : decode cX12_kept 93 = .ok (.istore 4, 2) := dk_1054 (dk_g tcX12_kept_7 9 rfl) (dk_g tcX12_kept_7 10 rfl) rfl
theorem tcX12_kept_8 : (cX12_kept.data.toList.drop 96).take 12 = [5, 1, 167, 255, 213, 21, 4, 172] := by decide +kernel
theorem dX12_kept_95 : decode cX12_kept 95 = .ok (.iinc 5 1, 3) := dk_1132 (dk_g tcX12_kept_7 11 rfl) (dk_g tcX12_kept_8 0 rfl) (dk_g tcX12_kept_8 1 rfl) rfl (by decide +kernel)
theorem dX12_kept_98 : decode cX12_kept 98 = .ok (.goto (-43), 3) := dk_1167 (dk_g tcX12_kept_8 2 rfl) (dk_g tcX12_kept_8 3 rfl) (dk_g tcX12_kept_8 4 rfl) (by decide +kernel)
theorem dX12_kept_101 : decode cX12_kept 101 = .ok (.iload 4, 2) := dk_1021 (dk_g tcX12_kept_8 5 rfl) (dk_g tcX12_kept_8 6 rfl) rfl
theorem dX12_kept_103 : decode cX12_kept 103 = .ok (.ireturn, 1) := dk_1172 (dk_g tcX12_kept_8 7 rfl)
theorem tcX12_sick_0 : (cX12_sick.data.toList.drop 0).take 12 = [42, 27, 156, 0, 7, 4, 167, 0, 18, 27, 42, 180] := by decide +kernel
theorem dX12_sick_0 : decode cX12_sick 0 = .ok (.aload_n 0, 1) := dk_1042 (dk_g tcX12_sick_0 0 rfl)
theorem dX12_sick_1 : decode cX12_sick 1 = .ok (.iload_n 1, 1) := dk_1027 (dk_g tcX12_sick_0 1 rfl)
theorem dX12_sick_2 : decode cX12_sick 2 = .ok (.ifCond .ge 7, 3) := dk_2156 (dk_g tcX12_sick_0 2 rfl) (dk_g tcX12_sick_0 3 rfl) (dk_g tcX12_sick_0 4 rfl) rfl rfl
theorem dX12_sick_5 : decode cX12_sick 5 = .ok (.iconst 1, 1) := dk_1004 (dk_g tcX12_sick_0 5 rfl)
theorem dX12_sick_6 : decode cX12_sick 6 = .ok (.goto 18, 3) := dk_2167 (dk_g tcX12_sick_0 6 rfl) (dk_g tcX12_sick_0 7 rfl) (dk_g tcX12_sick_0 8 rfl) rfl rfl
theorem dX12_sick_9 : decode cX12_sick 9 = .ok (.iload_n 1, 1) := dk_1027 (dk_g tcX12_sick_0 9 rfl)
theorem dX12_sick_10 : decode cX12_sick 10 = .ok (.aload_n 0, 1) := dk_1042 (dk_g tcX12_sick_0 10 rfl)
theorem tcX12_sick_1 : (cX12_sick.data.toList.drop 12).take 12 = [0, 7, 6, 46, 161, 0, 7, 8, 167, 0, 4, 3] := by decide +kernel
theorem dX12_sick_11 : decode cX12_sick 11 = .ok (.getfield 7, 3) := dk_1180 (dk_g tcX12_sick_0 11 rfl) (dk_g tcX12_sick_1 0 rfl) (dk_g tcX12_sick_1 1 rfl) rfl
theorem dX12_sick_14 : decode cX12_sick 14 = .ok (.iconst 3, 1) := dk_1006 (dk_g tcX12_sick_1 2 rfl)
theorem dX12_sick_15 : decode cX12_sick 15 = .ok (.iaload, 1) := dk_1046 (dk_g tcX12_sick_1 3 rfl)
theorem dX12_sick_16 : decode cX12_sick 16 = .ok (.if_icmp .lt 7, 3) := dk_2161 (dk_g tcX12_sick_1 4 rfl) (dk_g tcX12_sick_1 5 rfl) (dk_g tcX12_sick_1 6 rfl) rfl rfl
theorem dX12_sick_19 : decode cX12_sick 19 = .ok (.iconst 5, 1) := dk_1008 (dk_g tcX12_sick_1 7 rfl)
theorem dX12_sick_20 : decode cX12_sick 20 = .ok (.goto 4, 3) := dk_2167 (dk_g tcX12_sick_1 8 rfl) (dk_g tcX12_sick_1 9 rfl) (dk_g tcX12_sick_1 10 rfl) rfl rfl
theorem dX12_sick_23 : decode cX12_sick 23 = .ok (.iconst 0, 1) := dk_1003 (dk_g tcX12_sick_1 11 rfl)
theorem tcX12_sick_2 : (cX12_sick.data.toList.drop 24).take 12 = [182, 1, 53, 154, 0, 5, 2, 172, 42, 42, 27, 4] := by decide +kernel
theorem dX12_sick_24 : decode cX12_sick 24 = .ok (.invokevirtual 309, 3) := dk_1182 (dk_g tcX12_sick_2 0 rfl) (dk_g tcX12_sick_2 1 rfl) (dk_g tcX12_sick_2 2 rfl) rfl
theorem dX12_sick_27 : decode cX12_sick 27 = .ok (.ifCond .ne 5, 3) := dk_2154 (dk_g tcX12_sick_2 3 rfl) (dk_g tcX12_sick_2 4 rfl) (dk_g tcX12_sick_2 5 rfl) rfl rfl
theorem dX12_sick_30 : decode cX12_sick 30 = .ok (.iconst (-1), 1) := dk_1002 (dk_g tcX12_sick_2 6 rfl)
theorem dX12_sick_31 : decode cX12_sick 31 = .ok (.ireturn, 1) := dk_1172 (dk_g tcX12_sick_2 7 rfl)
theorem dX12_sick_32 : decode cX12_sick 32 = .ok (.aload_n 0, 1) := dk_1042 (dk_g tcX12_sick_2 8 rfl)
theorem dX12_sick_33 : decode cX12_sick 33 = .ok (.aload_n 0, 1) := dk_1042 (dk_g tcX12_sick_2 9 rfl)
theorem dX12_sick_34 : decode cX12_sick 34 = .ok (.iload_n 1, 1) := dk_1027 (dk_g tcX12_sick_2 10 rfl)
theorem dX12_sick_35 : decode cX12_sick 35 = .ok (.iconst 1, 1) := dk_1004 (dk_g tcX12_sick_2 11 rfl)
theorem tcX12_sick_3 : (cX12_sick.data.toList.drop 36).take 12 = [182, 1, 94, 182, 0, 218, 42, 42, 27, 3, 182, 1] := by decide +kernel
theorem dX12_sick_36 : decode cX12_sick 36 = .ok (.invokevirtual 350, 3) := dk_1182 (dk_g tcX12_sick_3 0 rfl) (dk_g tcX12_sick_3 1 rfl) (dk_g tcX12_sick_3 2 rfl) rfl
theorem dX12_sick_39 : decode cX12_sick 39 = .ok (.invokevirtual 218, 3) := dk_1182 (dk_g tcX12_sick_3 3 rfl) (dk_g tcX12_sick_3 4 rfl) (dk_g tcX12_sick_3 5 rfl) rfl
theorem dX12_sick_42 : decode cX12_sick 42 = .ok (.aload_n 0, 1) := dk_1042 (dk_g tcX12_sick_3 6 rfl)
theorem dX12_sick_43 : decode cX12_sick 43 = .ok (.aload_n 0, 1) := dk_1042 (dk_g tcX12_sick_3 7 rfl)
theorem dX12_sick_44 : decode cX12_sick 44 = .ok (.iload_n 1, 1) := dk_1027 (dk_g tcX12_sick_3 8 rfl)
theorem dX12_sick_45 : decode cX12_sick 45 = .ok (.iconst 0, 1) := dk_1003 (dk_g tcX12_sick_3 9 rfl)
theorem tcX12_sick_4 : (cX12_sick.data.toList.drop 48).take 12 = [94, 182, 0, 161, 3, 61, 3, 62, 29, 42, 180, 0] := by decide +kernel
theorem dX12_sick_46 : decode cX12_sick 46 = .ok (.invokevirtual 350, 3) := dk_1182 (dk_g tcX12_sick_3 10 rfl) (dk_g tcX12_sick_3 11 rfl) (dk_g tcX12_sick_4 0 rfl) rfl
theorem dX12_sick_49 : decode cX12_sick 49 = .ok (.invokevirtual 161, 3) := dk_1182 (dk_g tcX12_sick_4 1 rfl) (dk_g tcX12_sick_4 2 rfl) (dk_g tcX12_sick_4 3 rfl) rfl
theorem dX12_sick_52 : decode cX12_sick 52 = .ok (.iconst 0, 1) := dk_1003 (dk_g tcX12_sick_4 4 rfl)
theorem dX12_sick_53 : decode cX12_sick 53 = .ok (.istore_n 2, 1) := dk_1061 (dk_g tcX12_sick_4 5 rfl)
theorem dX12_sick_54 : decode cX12_sick 54 = .ok (.iconst 0, 1) := dk_1003 (dk_g tcX12_sick_4 6 rfl)
theorem dX12_sick_55 : decode cX12_sick 55 = .ok (.istore_n 3, 1) := dk_1062 (dk_g tcX12_sick_4 7 rfl)
theorem dX12_sick_56 : decode cX12_sick 56 = .ok (.iload_n 3, 1) := dk_1029 (dk_g tcX12_sick_4 8 rfl)
theorem dX12_sick_57 : decode cX12_sick 57 = .ok (.aload_n 0, 1) := dk_1042 (dk_g tcX12_sick_4 9 rfl)
theorem tcX12_sick_5 : (cX12_sick.data.toList.drop 60).take 12 = [139, 162, 0, 36, 28, 42, 180, 0, 22, 29, 46, 42] := by decide +kernel
theorem dX12_sick_58 : decode cX12_sick 58 = .ok (.getfield 139, 3) := dk_1180 (dk_g tcX12_sick_4 10 rfl) (dk_g tcX12_sick_4 11 rfl) (dk_g tcX12_sick_5 0 rfl) rfl
theorem dX12_sick_61 : decode cX12_sick 61 = .ok (.if_icmp .ge 36, 3) := dk_2162 (dk_g tcX12_sick_5 1 rfl) (dk_g tcX12_sick_5 2 rfl) (dk_g tcX12_sick_5 3 rfl) rfl rfl
theorem dX12_sick_64 : decode cX12_sick 64 = .ok (.iload_n 2, 1) := dk_1028 (dk_g tcX12_sick_5 4 rfl)
theorem dX12_sick_65 : decode cX12_sick 65 = .ok (.aload_n 0, 1) := dk_1042 (dk_g tcX12_sick_5 5 rfl)
theorem dX12_sick_66 : decode cX12_sick 66 = .ok (.getfield 22, 3) := dk_1180 (dk_g tcX12_sick_5 6 rfl) (dk_g tcX12_sick_5 7 rfl) (dk_g tcX12_sick_5 8 rfl) rfl
theorem dX12_sick_69 : decode cX12_sick 69 = .ok (.iload_n 3, 1) := dk_1029 (dk_g tcX12_sick_5 9 rfl)
theorem dX12_sick_70 : decode cX12_sick 70 = .ok (.iaload, 1) := dk_1046 (dk_g tcX12_sick_5 10 rfl)
theorem dX12_sick_71 : decode cX12_sick 71 = .ok (.aload_n 0, 1) := dk_1042 (dk_g tcX12_sick_5 11 rfl)
theorem tcX12_sick_6 : (cX12_sick.data.toList.drop 72).take 12 = [27, 7, 29, 96, 182, 1, 94, 159, 0, 9, 4, 29] := by decide +kernel
theorem dX12_sick_72 : decode cX12_sick 72 = .ok (.iload_n 1, 1) := dk_1027 (dk_g tcX12_sick_6 0 rfl)
theorem dX12_sick_73 : decode cX12_sick 73 = .ok (.iconst 4, 1) := dk_1007 (dk_g tcX12_sick_6 1 rfl)
theorem dX12_sick_74 : decode cX12_sick 74 = .ok (.iload_n 3, 1) := dk_1029 (dk_g tcX12_sick_6 2 rfl)
theorem dX12_sick_75 : decode cX12_sick 75 = .ok (.iadd, 1) := dk_1096 (dk_g tcX12_sick_6 3 rfl)
theorem dX12_sick_76 : decode cX12_sick 76 = .ok (.invokevirtual 350, 3) := dk_1182 (dk_g tcX12_sick_6 4 rfl) (dk_g tcX12_sick_6 5 rfl) (dk_g tcX12_sick_6 6 rfl) rfl
theorem dX12_sick_79 : decode cX12_sick 79 = .ok (.if_icmp .eq 9, 3) := dk_2159 (dk_g tcX12_sick_6 7 rfl) (dk_g tcX12_sick_6 8 rfl) (dk_g tcX12_sick_6 9 rfl) rfl rfl
theorem dX12_sick_82 : decode cX12_sick 82 = .ok (.iconst 1, 1) := dk_1004 (dk_g tcX12_sick_6 10 rfl)
theorem dX12_sick_83 : decode cX12_sick 83 = .ok (.iload_n 3, 1) := dk_1029 (dk_g tcX12_sick_6 11 rfl)
theorem tcX12_sick_7 : (cX12_sick.data.toList.drop 84).take 12 = [120, 167, 0, 4, 3, 128, 61, 132, 3, 1, 167, 255] := by decide +kernel
theorem dX12_sick_84 : decode cX12_sick 84 = .ok (.ishl, 1) := dk_1120 (dk_g tcX12_sick_7 0 rfl)
theorem dX12_sick_85 : decode cX12_sick 85 = .ok (.goto 4, 3) := dk_2167 (dk_g tcX12_sick_7 1 rfl) (dk_g tcX12_sick_7 2 rfl) (dk_g tcX12_sick_7 3 rfl) rfl rfl
theorem dX12_sick_88 : decode cX12_sick 88 = .ok (.iconst 0, 1) := dk_1003 (dk_g tcX12_sick_7 4 rfl)
theorem dX12_sick_89 : decode cX12_sick 89 = .ok (.ior, 1) := dk_1128 (dk_g tcX12_sick_7 5 rfl)
theorem dX12_sick_90 : decode cX12_sick 90 = .ok (.istore_n 2, 1) := dk_1061 (dk_g tcX12_sick_7 6 rfl)
theorem dX12_sick_91 : decode cX12_sick 91 = .ok (.iinc 3 1, 3) := dk_1132 (dk_g tcX12_sick_7 7 rfl) (dk_g tcX12_sick_7 8 rfl) (dk_g tcX12_sick_7 9 rfl) rfl (by decide +kernel)
theorem tcX12_sick_8 : (cX12_sick.data.toList.drop 96).take 12 = [218, 28, 172] := by decide +kernel
theorem dX12_sick_94 : decode cX12_sick 94 = .ok (.goto (-38), 3) := dk_1167 (dk_g tcX12_sick_7 10 rfl) (dk_g tcX12_sick_7 11 rfl) (dk_g tcX12_sick_8 0 rfl) (by decide +kernel)
theorem dX12_sick_97 : decode cX12_sick 97 = .ok (.iload_n 2, 1) := dk_1028 (dk_g tcX12_sick_8 1 rfl)
theorem dX12_sick_98 : decode cX12_sick 98 = .ok (.ireturn, 1) := dk_1172 (dk_g tcX12_sick_8 2 rfl)
theorem tcX12_sizeAbove_0 : (cX12_sizeAbove.data.toList.drop 0).take 12 = [2, 62, 3, 54, 4, 21, 4, 42, 180, 0, 7, 6] := by decide +kernel
theorem dX12_sizeAbove_0 : decode cX12_sizeAbove 0 = .ok (.iconst (-1), 1) := dk_1002 (dk_g tcX12_sizeAbove_0 0 rfl)
theorem dX12_sizeAbove_1 : decode cX12_sizeAbove 1 = .ok (.istore_n 3, 1) := dk_1062 (dk_g tcX12_sizeAbove_0 1 rfl)
theorem dX12_sizeAbove_2 : decode cX12_sizeAbove 2 = .ok (.iconst 0, 1) := dk_1003 (dk_g tcX12_sizeAbove_0 2 rfl)
theorem dX12_sizeAbove_3 : decode cX12_sizeAbove 3 = .ok (.istore 4, 2) := dk_1054 (dk_g tcX12_sizeAbove_0 3 rfl) (dk_g tcX12_sizeAbove_0 4 rfl) rfl
theorem dX12_sizeAbove_5 : decode cX12_sizeAbove 5 = .ok (.iload 4, 2) := dk_1021 (dk_g tcX12_sizeAbove_0 5 rfl) (dk_g tcX12_sizeAbove_0 6 rfl) rfl
theorem dX12_sizeAbove_7 : decode cX12_sizeAbove 7 = .ok (.aload_n 0, 1) := dk_1042 (dk_g tcX12_sizeAbove_0 7 rfl)
theorem dX12_sizeAbove_8 : decode cX12_sizeAbove 8 = .ok (.getfield 7, 3) := dk_1180 (dk_g tcX12_sizeAbove_0 8 rfl) (dk_g tcX12_sizeAbove_0 9 rfl) (dk_g tcX12_sizeAbove_0 10 rfl) rfl
theorem dX12_sizeAbove_11 : decode cX12_sizeAbove 11 = .ok (.iconst 3, 1) := dk_1006 (dk_g tcX12_sizeAbove_0 11 rfl)
theorem tcX12_sizeAbove_1 : (cX12_sizeAbove.data.toList.drop 12).take 12 = [46, 162, 0, 54, 42, 21, 4, 3, 182, 1, 94, 27] := by decide +kernel
theorem dX12_sizeAbove_12 : decode cX12_sizeAbove 12 = .ok (.iaload, 1) := dk_1046 (dk_g tcX12_sizeAbove_1 0 rfl)
theorem dX12_sizeAbove_13 : decode cX12_sizeAbove 13 = .ok (.if_icmp .ge 54, 3) := dk_2162 (dk_g tcX12_sizeAbove_1 1 rfl) (dk_g tcX12_sizeAbove_1 2 rfl) (dk_g tcX12_sizeAbove_1 3 rfl) rfl rfl
theorem dX12_sizeAbove_16 : decode cX12_sizeAbove 16 = .ok (.aload_n 0, 1) := dk_1042 (dk_g tcX12_sizeAbove_1 4 rfl)
theorem dX12_sizeAbove_17 : decode cX12_sizeAbove 17 = .ok (.iload 4, 2) := dk_1021 (dk_g tcX12_sizeAbove_1 5 rfl) (dk_g tcX12_sizeAbove_1 6 rfl) rfl
theorem dX12_sizeAbove_19 : decode cX12_sizeAbove 19 = .ok (.iconst 0, 1) := dk_1003 (dk_g tcX12_sizeAbove_1 7 rfl)
theorem dX12_sizeAbove_20 : decode cX12_sizeAbove 20 = .ok (.invokevirtual 350, 3) := dk_1182 (dk_g tcX12_sizeAbove_1 8 rfl) (dk_g tcX12_sizeAbove_1 9 rfl) (dk_g tcX12_sizeAbove_1 10 rfl) rfl
theorem dX12_sizeAbove_23 : decode cX12_sizeAbove 23 = .ok (.iload_n 1, 1) := dk_1027 (dk_g tcX12_sizeAbove_1 11 rfl)
theorem tcX12_sizeAbove_2 : (cX12_sizeAbove.data.toList.drop 24).take 12 = [160, 0, 37, 42, 21, 4, 4, 182, 1, 94, 28, 164] := by decide +kernel
theorem dX12_sizeAbove_24 : decode cX12_sizeAbove 24 = .ok (.if_icmp .ne 37, 3) := dk_2160 (dk_g tcX12_sizeAbove_2 0 rfl) (dk_g tcX12_sizeAbove_2 1 rfl) (dk_g tcX12_sizeAbove_2 2 rfl) rfl rfl
theorem dX12_sizeAbove_27 : decode cX12_sizeAbove 27 = .ok (.aload_n 0, 1) := dk_1042 (dk_g tcX12_sizeAbove_2 3 rfl)
theorem dX12_sizeAbove_28 : decode cX12_sizeAbove 28 = .ok (.iload 4, 2) := dk_1021 (dk_g tcX12_sizeAbove_2 4 rfl) (dk_g tcX12_sizeAbove_2 5 rfl) rfl
theorem dX12_sizeAbove_30 : decode cX12_sizeAbove 30 = .ok (.iconst 1, 1) := dk_1004 (dk_g tcX12_sizeAbove_2 6 rfl)
theorem dX12_sizeAbove_31 : decode cX12_sizeAbove 31 = .ok (.invokevirtual 350, 3) := dk_1182 (dk_g tcX12_sizeAbove_2 7 rfl) (dk_g tcX12_sizeAbove_2 8 rfl) (dk_g tcX12_sizeAbove_2 9 rfl) rfl
theorem dX12_sizeAbove_34 : decode cX12_sizeAbove 34 = .ok (.iload_n 2, 1) := dk_1028 (dk_g tcX12_sizeAbove_2 10 rfl)
theorem tcX12_sizeAbove_3 : (cX12_sizeAbove.data.toList.drop 36).take 12 = [0, 26, 29, 155, 0, 14, 42, 21, 4, 4, 182, 1] := by decide +kernel
theorem dX12_sizeAbove_35 : decode cX12_sizeAbove 35 = .ok (.if_icmp .le 26, 3) := dk_2164 (dk_g tcX12_sizeAbove_2 11 rfl) (dk_g tcX12_sizeAbove_3 0 rfl) (dk_g tcX12_sizeAbove_3 1 rfl) rfl rfl
theorem dX12_sizeAbove_38 : decode cX12_sizeAbove 38 = .ok (.iload_n 3, 1) := dk_1029 (dk_g tcX12_sizeAbove_3 2 rfl)
theorem dX12_sizeAbove_39 : decode cX12_sizeAbove 39 = .ok (.ifCond .lt 14, 3) := dk_2155 (dk_g tcX12_sizeAbove_3 3 rfl) (dk_g tcX12_sizeAbove_3 4 rfl) (dk_g tcX12_sizeAbove_3 5 rfl) rfl rfl
theorem dX12_sizeAbove_42 : decode cX12_sizeAbove 42 = .ok (.aload_n 0, 1) := dk_1042 (dk_g tcX12_sizeAbove_3 6 rfl)
theorem dX12_sizeAbove_43 : decode cX12_sizeAbove 43 = .ok (.iload 4, 2) := dk_1021 (dk_g tcX12_sizeAbove_3 7 rfl) (dk_g tcX12_sizeAbove_3 8 rfl) rfl
theorem dX12_sizeAbove_45 : decode cX12_sizeAbove 45 = .ok (.iconst 1, 1) := dk_1004 (dk_g tcX12_sizeAbove_3 9 rfl)
theorem tcX12_sizeAbove_4 : (cX12_sizeAbove.data.toList.drop 48).take 12 = [94, 29, 162, 0, 11, 42, 21, 4, 4, 182, 1, 94] := by decide +kernel
theorem dX12_sizeAbove_46 : decode cX12_sizeAbove 46 = .ok (.invokevirtual 350, 3) := dk_1182 (dk_g tcX12_sizeAbove_3 10 rfl) (dk_g tcX12_sizeAbove_3 11 rfl) (dk_g tcX12_sizeAbove_4 0 rfl) rfl
theorem dX12_sizeAbove_49 : decode cX12_sizeAbove 49 = .ok (.iload_n 3, 1) := dk_1029 (dk_g tcX12_sizeAbove_4 1 rfl)
theorem dX12_sizeAbove_50 : decode cX12_sizeAbove 50 = .ok (.if_icmp .ge 11, 3) := dk_2162 (dk_g tcX12_sizeAbove_4 2 rfl) (dk_g tcX12_sizeAbove_4 3 rfl) (dk_g tcX12_sizeAbove_4 4 rfl) rfl rfl
theorem dX12_sizeAbove_53 : decode cX12_sizeAbove 53 = .ok (.aload_n 0, 1) := dk_1042 (dk_g tcX12_sizeAbove_4 5 rfl)
theorem dX12_sizeAbove_54 : decode cX12_sizeAbove 54 = .ok (.iload 4, 2) := dk_1021 (dk_g tcX12_sizeAbove_4 6 rfl) (dk_g tcX12_sizeAbove_4 7 rfl) rfl
theorem dX12_sizeAbove_56 : decode cX12_sizeAbove 56 = .ok (.iconst 1, 1) := dk_1004 (dk_g tcX12_sizeAbove_4 8 rfl)
theorem dX12_sizeAbove_57 : decode cX12_sizeAbove 57 = .ok (.invokevirtual 350, 3) := dk_1182 (dk_g tcX12_sizeAbove_4 9 rfl) (dk_g tcX12_sizeAbove_4 10 rfl) (dk_g tcX12_sizeAbove_4 11 rfl) rfl
theorem tcX12_sizeAbove_5 : (cX12_sizeAbove.data.toList.drop 60).take 12 = [62, 132, 4, 1, 167, 255, 197, 29, 172] := by decide +kernel
theorem dX12_sizeAbove_60 : decode cX12_sizeAbove 60 = .ok (.istore_n 3, 1) := dk_1062 (dk_g tcX12_sizeAbove_5 0 rfl)
theorem dX12_sizeAbove_61 : decode cX12_sizeAbove 61 = .ok (.iinc 4 1, 3) := dk_1132 (dk_g tcX12_sizeAbove_5 1 rfl) (dk_g tcX12_sizeAbove_5 2 rfl) (dk_g tcX12_sizeAbove_5 3 rfl) rfl (by decide +kernel)
theorem dX12_sizeAbove_64 : decode cX12_sizeAbove 64 = .ok (.goto (-59), 3) := dk_1167 (dk_g tcX12_sizeAbove_5 4 rfl) (dk_g tcX12_sizeAbove_5 5 rfl) (dk_g tcX12_sizeAbove_5 6 rfl) (by decide +kernel)
theorem dX12_sizeAbove_67 : decode cX12_sizeAbove 67 = .ok (.iload_n 3, 1) := dk_1029 (dk_g tcX12_sizeAbove_5 7 rfl)
theorem dX12_sizeAbove_68 : decode cX12_sizeAbove 68 = .ok (.ireturn, 1) := dk_1172 (dk_g tcX12_sizeAbove_5 8 rfl)
theorem tcX12_chain_0 : (cX12_chain.data.toList.drop 0).take 12 = [42, 28, 3, 5, 184, 0, 113, 154, 0, 7, 4, 167] := by decide +kernel
theorem dX12_chain_0 : decode cX12_chain 0 = .ok (.aload_n 0, 1) := dk_1042 (dk_g tcX12_chain_0 0 rfl)
theorem dX12_chain_1 : decode cX12_chain 1 = .ok (.iload_n 2, 1) := dk_1028 (dk_g tcX12_chain_0 1 rfl)
theorem dX12_chain_2 : decode cX12_chain 2 = .ok (.iconst 0, 1) := dk_1003 (dk_g tcX12_chain_0 2 rfl)
theorem dX12_chain_3 : decode cX12_chain 3 = .ok (.iconst 2, 1) := dk_1005 (dk_g tcX12_chain_0 3 rfl)
theorem dX12_chain_4 : decode cX12_chain 4 = .ok (.invokestatic 113, 3) := dk_1184 (dk_g tcX12_chain_0 4 rfl) (dk_g tcX12_chain_0 5 rfl) (dk_g tcX12_chain_0 6 rfl) rfl
theorem dX12_chain_7 : decode cX12_chain 7 = .ok (.ifCond .ne 7, 3) := dk_2154 (dk_g tcX12_chain_0 7 rfl) (dk_g tcX12_chain_0 8 rfl) (dk_g tcX12_chain_0 9 rfl) rfl rfl
theorem dX12_chain_10 : decode cX12_chain 10 = .ok (.iconst 1, 1) := dk_1004 (dk_g tcX12_chain_0 10 rfl)
theorem tcX12_chain_1 : (cX12_chain.data.toList.drop 12).take 12 = [0, 16, 42, 27, 182, 1, 88, 154, 0, 7, 5, 167] := by decide +kernel
theorem dX12_chain_11 : decode cX12_chain 11 = .ok (.goto 16, 3) := dk_2167 (dk_g tcX12_chain_0 11 rfl) (dk_g tcX12_chain_1 0 rfl) (dk_g tcX12_chain_1 1 rfl) rfl rfl
theorem dX12_chain_14 : decode cX12_chain 14 = .ok (.aload_n 0, 1) := dk_1042 (dk_g tcX12_chain_1 2 rfl)
theorem dX12_chain_15 : decode cX12_chain 15 = .ok (.iload_n 1, 1) := dk_1027 (dk_g tcX12_chain_1 3 rfl)
theorem dX12_chain_16 : decode cX12_chain 16 = .ok (.invokevirtual 344, 3) := dk_1182 (dk_g tcX12_chain_1 4 rfl) (dk_g tcX12_chain_1 5 rfl) (dk_g tcX12_chain_1 6 rfl) rfl
theorem dX12_chain_19 : decode cX12_chain 19 = .ok (.ifCond .ne 7, 3) := dk_2154 (dk_g tcX12_chain_1 7 rfl) (dk_g tcX12_chain_1 8 rfl) (dk_g tcX12_chain_1 9 rfl) rfl rfl
theorem dX12_chain_22 : decode cX12_chain 22 = .ok (.iconst 2, 1) := dk_1005 (dk_g tcX12_chain_1 10 rfl)
theorem tcX12_chain_2 : (cX12_chain.data.toList.drop 24).take 12 = [0, 4, 3, 182, 1, 53, 154, 0, 5, 2, 172, 3] := by decide +kernel
theorem dX12_chain_23 : decode cX12_chain 23 = .ok (.goto 4, 3) := dk_2167 (dk_g tcX12_chain_1 11 rfl) (dk_g tcX12_chain_2 0 rfl) (dk_g tcX12_chain_2 1 rfl) rfl rfl
theorem dX12_chain_26 : decode cX12_chain 26 = .ok (.iconst 0, 1) := dk_1003 (dk_g tcX12_chain_2 2 rfl)
theorem dX12_chain_27 : decode cX12_chain 27 = .ok (.invokevirtual 309, 3) := dk_1182 (dk_g tcX12_chain_2 3 rfl) (dk_g tcX12_chain_2 4 rfl) (dk_g tcX12_chain_2 5 rfl) rfl
theorem dX12_chain_30 : decode cX12_chain 30 = .ok (.ifCond .ne 5, 3) := dk_2154 (dk_g tcX12_chain_2 6 rfl) (dk_g tcX12_chain_2 7 rfl) (dk_g tcX12_chain_2 8 rfl) rfl rfl
theorem dX12_chain_33 : decode cX12_chain 33 = .ok (.iconst (-1), 1) := dk_1002 (dk_g tcX12_chain_2 9 rfl)
theorem dX12_chain_34 : decode cX12_chain 34 = .ok (.ireturn, 1) := dk_1172 (dk_g tcX12_chain_2 10 rfl)
theorem dX12_chain_35 : decode cX12_chain 35 = .ok (.iconst 0, 1) := dk_1003 (dk_g tcX12_chain_2 11 rfl)
theorem tcX12_chain_3 : (cX12_chain.data.toList.drop 36).take 12 = [62, 3, 54, 4, 42, 3, 181, 1, 161, 2, 54, 5] := by decide +kernel
theorem dX12_chain_36 : decode cX12_chain 36 = .ok (.istore_n 3, 1) := dk_1062 (dk_g tcX12_chain_3 0 rfl)
theorem dX12_chain_37 : decode cX12_chain 37 = .ok (.iconst 0, 1) := dk_1003 (dk_g tcX12_chain_3 1 rfl)
theorem dX12_chain_38 : decode cX12_chain 38 = .ok (.istore 4, 2) := dk_1054 (dk_g tcX12_chain_3 2 rfl) (dk_g tcX12_chain_3 3 rfl) rfl
theorem dX12_chain_40 : decode cX12_chain 40 = .ok (.aload_n 0, 1) := dk_1042 (dk_g tcX12_chain_3 4 rfl)
theorem dX12_chain_41 : decode cX12_chain 41 = .ok (.iconst 0, 1) := dk_1003 (dk_g tcX12_chain_3 5 rfl)
theorem dX12_chain_42 : decode cX12_chain 42 = .ok (.putfield 417, 3) := dk_1181 (dk_g tcX12_chain_3 6 rfl) (dk_g tcX12_chain_3 7 rfl) (dk_g tcX12_chain_3 8 rfl) rfl
theorem dX12_chain_45 : decode cX12_chain 45 = .ok (.iconst (-1), 1) := dk_1002 (dk_g tcX12_chain_3 9 rfl)
theorem dX12_chain_46 : decode cX12_chain 46 = .ok (.istore 5, 2) := dk_1054 (dk_g tcX12_chain_3 10 rfl) (dk_g tcX12_chain_3 11 rfl) rfl
theorem tcX12_chain_4 : (cX12_chain.data.toList.drop 48).take 12 = [42, 27, 2, 182, 1, 170, 54, 6, 21, 6, 155, 0] := by decide +kernel
theorem dX12_chain_48 : decode cX12_chain 48 = .ok (.aload_n 0, 1) := dk_1042 (dk_g tcX12_chain_4 0 rfl)
theorem dX12_chain_49 : decode cX12_chain 49 = .ok (.iload_n 1, 1) := dk_1027 (dk_g tcX12_chain_4 1 rfl)
theorem dX12_chain_50 : decode cX12_chain 50 = .ok (.iconst (-1), 1) := dk_1002 (dk_g tcX12_chain_4 2 rfl)
theorem dX12_chain_51 : decode cX12_chain 51 = .ok (.invokevirtual 426, 3) := dk_1182 (dk_g tcX12_chain_4 3 rfl) (dk_g tcX12_chain_4 4 rfl) (dk_g tcX12_chain_4 5 rfl) rfl
theorem dX12_chain_54 : decode cX12_chain 54 = .ok (.istore 6, 2) := dk_1054 (dk_g tcX12_chain_4 6 rfl) (dk_g tcX12_chain_4 7 rfl) rfl
theorem dX12_chain_56 : decode cX12_chain 56 = .ok (.iload 6, 2) := dk_1021 (dk_g tcX12_chain_4 8 rfl) (dk_g tcX12_chain_4 9 rfl) rfl
theorem tcX12_chain_5 : (cX12_chain.data.toList.drop 60).take 12 = [53, 132, 3, 1, 42, 3, 181, 0, 139, 21, 5, 155] := by decide +kernel
theorem dX12_chain_58 : decode cX12_chain 58 = .ok (.ifCond .lt 53, 3) := dk_2155 (dk_g tcX12_chain_4 10 rfl) (dk_g tcX12_chain_4 11 rfl) (dk_g tcX12_chain_5 0 rfl) rfl rfl
theorem dX12_chain_61 : decode cX12_chain 61 = .ok (.iinc 3 1, 3) := dk_1132 (dk_g tcX12_chain_5 1 rfl) (dk_g tcX12_chain_5 2 rfl) (dk_g tcX12_chain_5 3 rfl) rfl (by decide +kernel)
theorem dX12_chain_64 : decode cX12_chain 64 = .ok (.aload_n 0, 1) := dk_1042 (dk_g tcX12_chain_5 4 rfl)
theorem dX12_chain_65 : decode cX12_chain 65 = .ok (.iconst 0, 1) := dk_1003 (dk_g tcX12_chain_5 5 rfl)
theorem dX12_chain_66 : decode cX12_chain 66 = .ok (.putfield 139, 3) := dk_1181 (dk_g tcX12_chain_5 6 rfl) (dk_g tcX12_chain_5 7 rfl) (dk_g tcX12_chain_5 8 rfl) rfl
theorem dX12_chain_69 : decode cX12_chain 69 = .ok (.iload 5, 2) := dk_1021 (dk_g tcX12_chain_5 9 rfl) (dk_g tcX12_chain_5 10 rfl) rfl
theorem tcX12_chain_6 : (cX12_chain.data.toList.drop 72).take 12 = [0, 11, 42, 21, 5, 21, 6, 182, 0, 190, 21, 4] := by decide +kernel
theorem dX12_chain_71 : decode cX12_chain 71 = .ok (.ifCond .lt 11, 3) := dk_2155 (dk_g tcX12_chain_5 11 rfl) (dk_g tcX12_chain_6 0 rfl) (dk_g tcX12_chain_6 1 rfl) rfl rfl
theorem dX12_chain_74 : decode cX12_chain 74 = .ok (.aload_n 0, 1) := dk_1042 (dk_g tcX12_chain_6 2 rfl)
theorem dX12_chain_75 : decode cX12_chain 75 = .ok (.iload 5, 2) := dk_1021 (dk_g tcX12_chain_6 3 rfl) (dk_g tcX12_chain_6 4 rfl) rfl
theorem dX12_chain_77 : decode cX12_chain 77 = .ok (.iload 6, 2) := dk_1021 (dk_g tcX12_chain_6 5 rfl) (dk_g tcX12_chain_6 6 rfl) rfl
theorem dX12_chain_79 : decode cX12_chain 79 = .ok (.invokevirtual 190, 3) := dk_1182 (dk_g tcX12_chain_6 7 rfl) (dk_g tcX12_chain_6 8 rfl) (dk_g tcX12_chain_6 9 rfl) rfl
theorem dX12_chain_82 : decode cX12_chain 82 = .ok (.iload 4, 2) := dk_1021 (dk_g tcX12_chain_6 10 rfl) (dk_g tcX12_chain_6 11 rfl) rfl
theorem tcX12_chain_7 : (cX12_chain.data.toList.drop 84).take 12 = [42, 180, 0, 139, 96, 54, 4, 42, 182, 1, 167, 21] := by decide +kernel
theorem dX12_chain_84 : decode cX12_chain 84 = .ok (.aload_n 0, 1) := dk_1042 (dk_g tcX12_chain_7 0 rfl)
theorem dX12_chain_85 : decode cX12_chain 85 = .ok (.getfield 139, 3) := dk_1180 (dk_g tcX12_chain_7 1 rfl) (dk_g tcX12_chain_7 2 rfl) (dk_g tcX12_chain_7 3 rfl) rfl
theorem dX12_chain_88 : decode cX12_chain 88 = .ok (.iadd, 1) := dk_1096 (dk_g tcX12_chain_7 4 rfl)
theorem dX12_chain_89 : decode cX12_chain 89 = .ok (.istore 4, 2) := dk_1054 (dk_g tcX12_chain_7 5 rfl) (dk_g tcX12_chain_7 6 rfl) rfl
theorem dX12_chain_91 : decode cX12_chain 91 = .ok (.aload_n 0, 1) := dk_1042 (dk_g tcX12_chain_7 7 rfl)
theorem dX12_chain_92 : decode cX12_chain 92 = .ok (.invokevirtual 423, 3) := dk_1182 (dk_g tcX12_chain_7 8 rfl) (dk_g tcX12_chain_7 9 rfl) (dk_g tcX12_chain_7 10 rfl) rfl
theorem tcX12_chain_8 : (cX12_chain.data.toList.drop 96).take 12 = [6, 54, 5, 42, 27, 21, 6, 182, 1, 170, 54, 6] := by decide +kernel
theorem dX12_chain_95 : decode cX12_chain 95 = .ok (.iload 6, 2) := dk_1021 (dk_g tcX12_chain_7 11 rfl) (dk_g tcX12_chain_8 0 rfl) rfl
theorem dX12_chain_97 : decode cX12_chain 97 = .ok (.istore 5, 2) := dk_1054 (dk_g tcX12_chain_8 1 rfl) (dk_g tcX12_chain_8 2 rfl) rfl
theorem dX12_chain_99 : decode cX12_chain 99 = .ok (.aload_n 0, 1) := dk_1042 (dk_g tcX12_chain_8 3 rfl)
theorem dX12_chain_100 : decode cX12_chain 100 = .ok (.iload_n 1, 1) := dk_1027 (dk_g tcX12_chain_8 4 rfl)
theorem dX12_chain_101 : decode cX12_chain 101 = .ok (.iload 6, 2) := dk_1021 (dk_g tcX12_chain_8 5 rfl) (dk_g tcX12_chain_8 6 rfl) rfl
theorem dX12_chain_103 : decode cX12_chain 103 = .ok (.invokevirtual 426, 3) := dk_1182 (dk_g tcX12_chain_8 7 rfl) (dk_g tcX12_chain_8 8 rfl) (dk_g tcX12_chain_8 9 rfl) rfl
theorem dX12_chain_106 : decode cX12_chain 106 = .ok (.istore 6, 2) := dk_1054 (dk_g tcX12_chain_8 10 rfl) (dk_g tcX12_chain_8 11 rfl) rfl
theorem tcX12_chain_9 : (cX12_chain.data.toList.drop 108).take 12 = [167, 255, 204, 28, 154, 0, 7, 29, 167, 0, 17, 28] := by decide +kernel
theorem dX12_chain_108 : decode cX12_chain 108 = .ok (.goto (-52), 3) := dk_1167 (dk_g tcX12_chain_9 0 rfl) (dk_g tcX12_chain_9 1 rfl) (dk_g tcX12_chain_9 2 rfl) (by decide +kernel)
theorem dX12_chain_111 : decode cX12_chain 111 = .ok (.iload_n 2, 1) := dk_1028 (dk_g tcX12_chain_9 3 rfl)
theorem dX12_chain_112 : decode cX12_chain 112 = .ok (.ifCond .ne 7, 3) := dk_2154 (dk_g tcX12_chain_9 4 rfl) (dk_g tcX12_chain_9 5 rfl) (dk_g tcX12_chain_9 6 rfl) rfl rfl
theorem dX12_chain_115 : decode cX12_chain 115 = .ok (.iload_n 3, 1) := dk_1029 (dk_g tcX12_chain_9 7 rfl)
theorem dX12_chain_116 : decode cX12_chain 116 = .ok (.goto 17, 3) := dk_2167 (dk_g tcX12_chain_9 8 rfl) (dk_g tcX12_chain_9 9 rfl) (dk_g tcX12_chain_9 10 rfl) rfl rfl
theorem dX12_chain_119 : decode cX12_chain 119 = .ok (.iload_n 2, 1) := dk_1028 (dk_g tcX12_chain_9 11 rfl)
theorem tcX12_chain_10 : (cX12_chain.data.toList.drop 120).take 12 = [4, 160, 0, 8, 21, 4, 167, 0, 7, 42, 180, 1] := by decide +kernel
theorem dX12_chain_120 : decode cX12_chain 120 = .ok (.iconst 1, 1) := dk_1004 (dk_g tcX12_chain_10 0 rfl)
theorem dX12_chain_121 : decode cX12_chain 121 = .ok (.if_icmp .ne 8, 3) := dk_2160 (dk_g tcX12_chain_10 1 rfl) (dk_g tcX12_chain_10 2 rfl) (dk_g tcX12_chain_10 3 rfl) rfl rfl
theorem dX12_chain_124 : decode cX12_chain 124 = .ok (.iload 4, 2) := dk_1021 (dk_g tcX12_chain_10 4 rfl) (dk_g tcX12_chain_10 5 rfl) rfl
theorem dX12_chain_126 : decode cX12_chain 126 = .ok (.goto 7, 3) := dk_2167 (dk_g tcX12_chain_10 6 rfl) (dk_g tcX12_chain_10 7 rfl) (dk_g tcX12_chain_10 8 rfl) rfl rfl
theorem dX12_chain_129 : decode cX12_chain 129 = .ok (.aload_n 0, 1) := dk_1042 (dk_g tcX12_chain_10 9 rfl)
theorem tcX12_chain_11 : (cX12_chain.data.toList.drop 132).take 12 = [161, 172] := by decide +kernel
theorem dX12_chain_130 : decode cX12_chain 130 = .ok (.getfield 417, 3) := dk_1180 (dk_g tcX12_chain_10 10 rfl) (dk_g tcX12_chain_10 11 rfl) (dk_g tcX12_chain_11 0 rfl) rfl
theorem dX12_chain_133 : decode cX12_chain 133 = .ok (.ireturn, 1) := dk_1172 (dk_g tcX12_chain_11 1 rfl)
theorem tcX12_split_0 : (cX12_split.data.toList.drop 0).take 12 = [42, 27, 3, 4, 184, 0, 113, 153, 0, 7, 3, 167] := by decide +kernel
theorem dX12_split_0 : decode cX12_split 0 = .ok (.aload_n 0, 1) := dk_1042 (dk_g tcX12_split_0 0 rfl)
theorem dX12_split_1 : decode cX12_split 1 = .ok (.iload_n 1, 1) := dk_1027 (dk_g tcX12_split_0 1 rfl)
theorem dX12_split_2 : decode cX12_split 2 = .ok (.iconst 0, 1) := dk_1003 (dk_g tcX12_split_0 2 rfl)
theorem dX12_split_3 : decode cX12_split 3 = .ok (.iconst 1, 1) := dk_1004 (dk_g tcX12_split_0 3 rfl)
theorem dX12_split_4 : decode cX12_split 4 = .ok (.invokestatic 113, 3) := dk_1184 (dk_g tcX12_split_0 4 rfl) (dk_g tcX12_split_0 5 rfl) (dk_g tcX12_split_0 6 rfl) rfl
theorem dX12_split_7 : decode cX12_split 7 = .ok (.ifCond .eq 7, 3) := dk_2153 (dk_g tcX12_split_0 7 rfl) (dk_g tcX12_split_0 8 rfl) (dk_g tcX12_split_0 9 rfl) rfl rfl
theorem dX12_split_10 : decode cX12_split 10 = .ok (.iconst 0, 1) := dk_1003 (dk_g tcX12_split_0 10 rfl)
theorem tcX12_split_1 : (cX12_split.data.toList.drop 12).take 12 = [0, 4, 4, 182, 1, 53, 154, 0, 5, 2, 172, 3] := by decide +kernel
theorem dX12_split_11 : decode cX12_split 11 = .ok (.goto 4, 3) := dk_2167 (dk_g tcX12_split_0 11 rfl) (dk_g tcX12_split_1 0 rfl) (dk_g tcX12_split_1 1 rfl) rfl rfl
theorem dX12_split_14 : decode cX12_split 14 = .ok (.iconst 1, 1) := dk_1004 (dk_g tcX12_split_1 2 rfl)
theorem dX12_split_15 : decode cX12_split 15 = .ok (.invokevirtual 309, 3) := dk_1182 (dk_g tcX12_split_1 3 rfl) (dk_g tcX12_split_1 4 rfl) (dk_g tcX12_split_1 5 rfl) rfl
theorem dX12_split_18 : decode cX12_split 18 = .ok (.ifCond .ne 5, 3) := dk_2154 (dk_g tcX12_split_1 6 rfl) (dk_g tcX12_split_1 7 rfl) (dk_g tcX12_split_1 8 rfl) rfl rfl
theorem dX12_split_21 : decode cX12_split 21 = .ok (.iconst (-1), 1) := dk_1002 (dk_g tcX12_split_1 9 rfl)
theorem dX12_split_22 : decode cX12_split 22 = .ok (.ireturn, 1) := dk_1172 (dk_g tcX12_split_1 10 rfl)
theorem dX12_split_23 : decode cX12_split 23 = .ok (.iconst 0, 1) := dk_1003 (dk_g tcX12_split_1 11 rfl)
theorem tcX12_split_2 : (cX12_split.data.toList.drop 24).take 12 = [61, 2, 62, 3, 54, 4, 21, 4, 7, 162, 0, 61] := by decide +kernel
theorem dX12_split_24 : decode cX12_split 24 = .ok (.istore_n 2, 1) := dk_1061 (dk_g tcX12_split_2 0 rfl)
theorem dX12_split_25 : decode cX12_split 25 = .ok (.iconst (-1), 1) := dk_1002 (dk_g tcX12_split_2 1 rfl)
theorem dX12_split_26 : decode cX12_split 26 = .ok (.istore_n 3, 1) := dk_1062 (dk_g tcX12_split_2 2 rfl)
theorem dX12_split_27 : decode cX12_split 27 = .ok (.iconst 0, 1) := dk_1003 (dk_g tcX12_split_2 3 rfl)
theorem dX12_split_28 : decode cX12_split 28 = .ok (.istore 4, 2) := dk_1054 (dk_g tcX12_split_2 4 rfl) (dk_g tcX12_split_2 5 rfl) rfl
theorem dX12_split_30 : decode cX12_split 30 = .ok (.iload 4, 2) := dk_1021 (dk_g tcX12_split_2 6 rfl) (dk_g tcX12_split_2 7 rfl) rfl
theorem dX12_split_32 : decode cX12_split 32 = .ok (.iconst 4, 1) := dk_1007 (dk_g tcX12_split_2 8 rfl)
theorem dX12_split_33 : decode cX12_split 33 = .ok (.if_icmp .ge 61, 3) := dk_2162 (dk_g tcX12_split_2 9 rfl) (dk_g tcX12_split_2 10 rfl) (dk_g tcX12_split_2 11 rfl) rfl rfl
theorem tcX12_split_3 : (cX12_split.data.toList.drop 36).take 12 = [21, 4, 4, 96, 54, 5, 21, 5, 7, 162, 0, 43] := by decide +kernel
theorem dX12_split_36 : decode cX12_split 36 = .ok (.iload 4, 2) := dk_1021 (dk_g tcX12_split_3 0 rfl) (dk_g tcX12_split_3 1 rfl) rfl
theorem dX12_split_38 : decode cX12_split 38 = .ok (.iconst 1, 1) := dk_1004 (dk_g tcX12_split_3 2 rfl)
theorem dX12_split_39 : decode cX12_split 39 = .ok (.iadd, 1) := dk_1096 (dk_g tcX12_split_3 3 rfl)
theorem dX12_split_40 : decode cX12_split 40 = .ok (.istore 5, 2) := dk_1054 (dk_g tcX12_split_3 4 rfl) (dk_g tcX12_split_3 5 rfl) rfl
theorem dX12_split_42 : decode cX12_split 42 = .ok (.iload 5, 2) := dk_1021 (dk_g tcX12_split_3 6 rfl) (dk_g tcX12_split_3 7 rfl) rfl
theorem dX12_split_44 : decode cX12_split 44 = .ok (.iconst 4, 1) := dk_1007 (dk_g tcX12_split_3 8 rfl)
theorem dX12_split_45 : decode cX12_split 45 = .ok (.if_icmp .ge 43, 3) := dk_2162 (dk_g tcX12_split_3 9 rfl) (dk_g tcX12_split_3 10 rfl) (dk_g tcX12_split_3 11 rfl) rfl rfl
theorem tcX12_split_4 : (cX12_split.data.toList.drop 48).take 12 = [42, 21, 4, 21, 5, 182, 1, 134, 153, 0, 6, 167] := by decide +kernel
theorem dX12_split_48 : decode cX12_split 48 = .ok (.aload_n 0, 1) := dk_1042 (dk_g tcX12_split_4 0 rfl)
theorem dX12_split_49 : decode cX12_split 49 = .ok (.iload 4, 2) := dk_1021 (dk_g tcX12_split_4 1 rfl) (dk_g tcX12_split_4 2 rfl) rfl
theorem dX12_split_51 : decode cX12_split 51 = .ok (.iload 5, 2) := dk_1021 (dk_g tcX12_split_4 3 rfl) (dk_g tcX12_split_4 4 rfl) rfl
theorem dX12_split_53 : decode cX12_split 53 = .ok (.invokevirtual 390, 3) := dk_1182 (dk_g tcX12_split_4 5 rfl) (dk_g tcX12_split_4 6 rfl) (dk_g tcX12_split_4 7 rfl) rfl
theorem dX12_split_56 : decode cX12_split 56 = .ok (.ifCond .eq 6, 3) := dk_2153 (dk_g tcX12_split_4 8 rfl) (dk_g tcX12_split_4 9 rfl) (dk_g tcX12_split_4 10 rfl) rfl rfl
theorem tcX12_split_5 : (cX12_split.data.toList.drop 60).take 12 = [0, 23, 132, 2, 1, 29, 156, 0, 14, 16, 10, 21] := by decide +kernel
theorem dX12_split_59 : decode cX12_split 59 = .ok (.goto 23, 3) := dk_2167 (dk_g tcX12_split_4 11 rfl) (dk_g tcX12_split_5 0 rfl) (dk_g tcX12_split_5 1 rfl) rfl rfl
theorem dX12_split_62 : decode cX12_split 62 = .ok (.iinc 2 1, 3) := dk_1132 (dk_g tcX12_split_5 2 rfl) (dk_g tcX12_split_5 3 rfl) (dk_g tcX12_split_5 4 rfl) rfl (by decide +kernel)
theorem dX12_split_65 : decode cX12_split 65 = .ok (.iload_n 3, 1) := dk_1029 (dk_g tcX12_split_5 5 rfl)
theorem dX12_split_66 : decode cX12_split 66 = .ok (.ifCond .ge 14, 3) := dk_2156 (dk_g tcX12_split_5 6 rfl) (dk_g tcX12_split_5 7 rfl) (dk_g tcX12_split_5 8 rfl) rfl rfl
theorem dX12_split_69 : decode cX12_split 69 = .ok (.bipush 10, 2) := dk_1016 (dk_g tcX12_split_5 9 rfl) (dk_g tcX12_split_5 10 rfl) (by decide +kernel)
theorem tcX12_split_6 : (cX12_split.data.toList.drop 72).take 12 = [4, 104, 21, 5, 96, 167, 0, 4, 29, 62, 132, 5] := by decide +kernel
theorem dX12_split_71 : decode cX12_split 71 = .ok (.iload 4, 2) := dk_1021 (dk_g tcX12_split_5 11 rfl) (dk_g tcX12_split_6 0 rfl) rfl
theorem dX12_split_73 : decode cX12_split 73 = .ok (.imul, 1) := dk_1104 (dk_g tcX12_split_6 1 rfl)
theorem dX12_split_74 : decode cX12_split 74 = .ok (.iload 5, 2) := dk_1021 (dk_g tcX12_split_6 2 rfl) (dk_g tcX12_split_6 3 rfl) rfl
theorem dX12_split_76 : decode cX12_split 76 = .ok (.iadd, 1) := dk_1096 (dk_g tcX12_split_6 4 rfl)
theorem dX12_split_77 : decode cX12_split 77 = .ok (.goto 4, 3) := dk_2167 (dk_g tcX12_split_6 5 rfl) (dk_g tcX12_split_6 6 rfl) (dk_g tcX12_split_6 7 rfl) rfl rfl
theorem dX12_split_80 : decode cX12_split 80 = .ok (.iload_n 3, 1) := dk_1029 (dk_g tcX12_split_6 8 rfl)
theorem dX12_split_81 : decode cX12_split 81 = .ok (.istore_n 3, 1) := dk_1062 (dk_g tcX12_split_6 9 rfl)
theorem tcX12_split_7 : (cX12_split.data.toList.drop 84).take 12 = [1, 167, 255, 213, 132, 4, 1, 167, 255, 195, 27, 154] := by decide +kernel
theorem dX12_split_82 : decode cX12_split 82 = .ok (.iinc 5 1, 3) := dk_1132 (dk_g tcX12_split_6 10 rfl) (dk_g tcX12_split_6 11 rfl) (dk_g tcX12_split_7 0 rfl) rfl (by decide +kernel)
theorem dX12_split_85 : decode cX12_split 85 = .ok (.goto (-43), 3) := dk_1167 (dk_g tcX12_split_7 1 rfl) (dk_g tcX12_split_7 2 rfl) (dk_g tcX12_split_7 3 rfl) (by decide +kernel)
theorem dX12_split_88 : decode cX12_split 88 = .ok (.iinc 4 1, 3) := dk_1132 (dk_g tcX12_split_7 4 rfl) (dk_g tcX12_split_7 5 rfl) (dk_g tcX12_split_7 6 rfl) rfl (by decide +kernel)
theorem dX12_split_91 : decode cX12_split 91 = .ok (.goto (-61), 3) := dk_1167 (dk_g tcX12_split_7 7 rfl) (dk_g tcX12_split_7 8 rfl) (dk_g tcX12_split_7 9 rfl) (by decide +kernel)
theorem dX12_split_94 : decode cX12_split 94 = .ok (.iload_n 1, 1) := dk_1027 (dk_g tcX12_split_7 10 rfl)
theorem tcX12_split_8 : (cX12_split.data.toList.drop 96).take 12 = [0, 7, 28, 167, 0, 16, 29, 156, 0, 11, 42, 8] := by decide +kernel
theorem dX12_split_95 : decode cX12_split 95 = .ok (.ifCond .ne 7, 3) := dk_2154 (dk_g tcX12_split_7 11 rfl) (dk_g tcX12_split_8 0 rfl) (dk_g tcX12_split_8 1 rfl) rfl rfl
theorem dX12_split_98 : decode cX12_split 98 = .ok (.iload_n 2, 1) := dk_1028 (dk_g tcX12_split_8 2 rfl)
theorem dX12_split_99 : decode cX12_split 99 = .ok (.goto 16, 3) := dk_2167 (dk_g tcX12_split_8 3 rfl) (dk_g tcX12_split_8 4 rfl) (dk_g tcX12_split_8 5 rfl) rfl rfl
theorem dX12_split_102 : decode cX12_split 102 = .ok (.iload_n 3, 1) := dk_1029 (dk_g tcX12_split_8 6 rfl)
theorem dX12_split_103 : decode cX12_split 103 = .ok (.ifCond .ge 11, 3) := dk_2156 (dk_g tcX12_split_8 7 rfl) (dk_g tcX12_split_8 8 rfl) (dk_g tcX12_split_8 9 rfl) rfl rfl
theorem dX12_split_106 : decode cX12_split 106 = .ok (.aload_n 0, 1) := dk_1042 (dk_g tcX12_split_8 10 rfl)
theorem dX12_split_107 : decode cX12_split 107 = .ok (.iconst 5, 1) := dk_1008 (dk_g tcX12_split_8 11 rfl)
theorem tcX12_split_9 : (cX12_split.data.toList.drop 108).take 12 = [182, 0, 212, 167, 0, 4, 29, 172] := by decide +kernel
theorem dX12_split_108 : decode cX12_split 108 = .ok (.invokevirtual 212, 3) := dk_1182 (dk_g tcX12_split_9 0 rfl) (dk_g tcX12_split_9 1 rfl) (dk_g tcX12_split_9 2 rfl) rfl
theorem dX12_split_111 : decode cX12_split 111 = .ok (.goto 4, 3) := dk_2167 (dk_g tcX12_split_9 3 rfl) (dk_g tcX12_split_9 4 rfl) (dk_g tcX12_split_9 5 rfl) rfl rfl
theorem dX12_split_114 : decode cX12_split 114 = .ok (.iload_n 3, 1) := dk_1029 (dk_g tcX12_split_9 6 rfl)
theorem dX12_split_115 : decode cX12_split 115 = .ok (.ireturn, 1) := dk_1172 (dk_g tcX12_split_9 7 rfl)
theorem tcX12_tellsNumber_0 : (cX12_tellsNumber.data.toList.drop 0).take 12 = [4, 61, 27, 28, 108, 16, 9, 164, 0, 11, 28, 16] := by decide +kernel
theorem dX12_tellsNumber_0 : decode cX12_tellsNumber 0 = .ok (.iconst 1, 1) := dk_1004 (dk_g tcX12_tellsNumber_0 0 rfl)
theorem dX12_tellsNumber_1 : decode cX12_tellsNumber 1 = .ok (.istore_n 2, 1) := dk_1061 (dk_g tcX12_tellsNumber_0 1 rfl)
theorem dX12_tellsNumber_2 : decode cX12_tellsNumber 2 = .ok (.iload_n 1, 1) := dk_1027 (dk_g tcX12_tellsNumber_0 2 rfl)
theorem dX12_tellsNumber_3 : decode cX12_tellsNumber 3 = .ok (.iload_n 2, 1) := dk_1028 (dk_g tcX12_tellsNumber_0 3 rfl)
theorem dX12_tellsNumber_4 : decode cX12_tellsNumber 4 = .ok (.idiv, 1) := dk_1108 (dk_g tcX12_tellsNumber_0 4 rfl)
theorem dX12_tellsNumber_5 : decode cX12_tellsNumber 5 = .ok (.bipush 9, 2) := dk_1016 (dk_g tcX12_tellsNumber_0 5 rfl) (dk_g tcX12_tellsNumber_0 6 rfl) (by decide +kernel)
theorem dX12_tellsNumber_7 : decode cX12_tellsNumber 7 = .ok (.if_icmp .le 11, 3) := dk_2164 (dk_g tcX12_tellsNumber_0 7 rfl) (dk_g tcX12_tellsNumber_0 8 rfl) (dk_g tcX12_tellsNumber_0 9 rfl) rfl rfl
theorem dX12_tellsNumber_10 : decode cX12_tellsNumber 10 = .ok (.iload_n 2, 1) := dk_1028 (dk_g tcX12_tellsNumber_0 10 rfl)
theorem tcX12_tellsNumber_1 : (cX12_tellsNumber.data.toList.drop 12).take 12 = [10, 104, 61, 167, 255, 243, 28, 158, 0, 24, 42, 16] := by decide +kernel
theorem dX12_tellsNumber_11 : decode cX12_tellsNumber 11 = .ok (.bipush 10, 2) := dk_1016 (dk_g tcX12_tellsNumber_0 11 rfl) (dk_g tcX12_tellsNumber_1 0 rfl) (by decide +kernel)
theorem dX12_tellsNumber_13 : decode cX12_tellsNumber 13 = .ok (.imul, 1) := dk_1104 (dk_g tcX12_tellsNumber_1 1 rfl)
theorem dX12_tellsNumber_14 : decode cX12_tellsNumber 14 = .ok (.istore_n 2, 1) := dk_1061 (dk_g tcX12_tellsNumber_1 2 rfl)
theorem dX12_tellsNumber_15 : decode cX12_tellsNumber 15 = .ok (.goto (-13), 3) := dk_1167 (dk_g tcX12_tellsNumber_1 3 rfl) (dk_g tcX12_tellsNumber_1 4 rfl) (dk_g tcX12_tellsNumber_1 5 rfl) (by decide +kernel)
theorem dX12_tellsNumber_18 : decode cX12_tellsNumber 18 = .ok (.iload_n 2, 1) := dk_1028 (dk_g tcX12_tellsNumber_1 6 rfl)
theorem dX12_tellsNumber_19 : decode cX12_tellsNumber 19 = .ok (.ifCond .le 24, 3) := dk_2158 (dk_g tcX12_tellsNumber_1 7 rfl) (dk_g tcX12_tellsNumber_1 8 rfl) (dk_g tcX12_tellsNumber_1 9 rfl) rfl rfl
theorem dX12_tellsNumber_22 : decode cX12_tellsNumber 22 = .ok (.aload_n 0, 1) := dk_1042 (dk_g tcX12_tellsNumber_1 10 rfl)
theorem tcX12_tellsNumber_2 : (cX12_tellsNumber.data.toList.drop 24).take 12 = [48, 27, 28, 108, 16, 10, 112, 96, 182, 1, 173, 28] := by decide +kernel
theorem dX12_tellsNumber_23 : decode cX12_tellsNumber 23 = .ok (.bipush 48, 2) := dk_1016 (dk_g tcX12_tellsNumber_1 11 rfl) (dk_g tcX12_tellsNumber_2 0 rfl) (by decide +kernel)
theorem dX12_tellsNumber_25 : decode cX12_tellsNumber 25 = .ok (.iload_n 1, 1) := dk_1027 (dk_g tcX12_tellsNumber_2 1 rfl)
theorem dX12_tellsNumber_26 : decode cX12_tellsNumber 26 = .ok (.iload_n 2, 1) := dk_1028 (dk_g tcX12_tellsNumber_2 2 rfl)
theorem dX12_tellsNumber_27 : decode cX12_tellsNumber 27 = .ok (.idiv, 1) := dk_1108 (dk_g tcX12_tellsNumber_2 3 rfl)
theorem dX12_tellsNumber_28 : decode cX12_tellsNumber 28 = .ok (.bipush 10, 2) := dk_1016 (dk_g tcX12_tellsNumber_2 4 rfl) (dk_g tcX12_tellsNumber_2 5 rfl) (by decide +kernel)
theorem dX12_tellsNumber_30 : decode cX12_tellsNumber 30 = .ok (.irem, 1) := dk_1112 (dk_g tcX12_tellsNumber_2 6 rfl)
theorem dX12_tellsNumber_31 : decode cX12_tellsNumber 31 = .ok (.iadd, 1) := dk_1096 (dk_g tcX12_tellsNumber_2 7 rfl)
theorem dX12_tellsNumber_32 : decode cX12_tellsNumber 32 = .ok (.invokevirtual 429, 3) := dk_1182 (dk_g tcX12_tellsNumber_2 8 rfl) (dk_g tcX12_tellsNumber_2 9 rfl) (dk_g tcX12_tellsNumber_2 10 rfl) rfl
theorem dX12_tellsNumber_35 : decode cX12_tellsNumber 35 = .ok (.iload_n 2, 1) := dk_1028 (dk_g tcX12_tellsNumber_2 11 rfl)
theorem tcX12_tellsNumber_3 : (cX12_tellsNumber.data.toList.drop 36).take 12 = [16, 10, 108, 61, 167, 255, 234, 177] := by decide +kernel
theorem dX12_tellsNumber_36 : decode cX12_tellsNumber 36 = .ok (.bipush 10, 2) := dk_1016 (dk_g tcX12_tellsNumber_3 0 rfl) (dk_g tcX12_tellsNumber_3 1 rfl) (by decide +kernel)
theorem dX12_tellsNumber_38 : decode cX12_tellsNumber 38 = .ok (.idiv, 1) := dk_1108 (dk_g tcX12_tellsNumber_3 2 rfl)
theorem dX12_tellsNumber_39 : decode cX12_tellsNumber 39 = .ok (.istore_n 2, 1) := dk_1061 (dk_g tcX12_tellsNumber_3 3 rfl)
theorem dX12_tellsNumber_40 : decode cX12_tellsNumber 40 = .ok (.goto (-22), 3) := dk_1167 (dk_g tcX12_tellsNumber_3 4 rfl) (dk_g tcX12_tellsNumber_3 5 rfl) (dk_g tcX12_tellsNumber_3 6 rfl) (by decide +kernel)
theorem dX12_tellsNumber_43 : decode cX12_tellsNumber 43 = .ok (.return_, 1) := dk_1177 (dk_g tcX12_tellsNumber_3 7 rfl)
theorem tcX12_tells_0 : (cX12_tells.data.toList.drop 0).take 12 = [42, 180, 0, 100, 42, 180, 1, 176, 27, 79, 42, 89] := by decide +kernel
theorem dX12_tells_0 : decode cX12_tells 0 = .ok (.aload_n 0, 1) := dk_1042 (dk_g tcX12_tells_0 0 rfl)
theorem dX12_tells_1 : decode cX12_tells 1 = .ok (.getfield 100, 3) := dk_1180 (dk_g tcX12_tells_0 1 rfl) (dk_g tcX12_tells_0 2 rfl) (dk_g tcX12_tells_0 3 rfl) rfl
theorem dX12_tells_4 : decode cX12_tells 4 = .ok (.aload_n 0, 1) := dk_1042 (dk_g tcX12_tells_0 4 rfl)
theorem dX12_tells_5 : decode cX12_tells 5 = .ok (.getfield 432, 3) := dk_1180 (dk_g tcX12_tells_0 5 rfl) (dk_g tcX12_tells_0 6 rfl) (dk_g tcX12_tells_0 7 rfl) rfl
theorem dX12_tells_8 : decode cX12_tells 8 = .ok (.iload_n 1, 1) := dk_1027 (dk_g tcX12_tells_0 8 rfl)
theorem dX12_tells_9 : decode cX12_tells 9 = .ok (.iastore, 1) := dk_1079 (dk_g tcX12_tells_0 9 rfl)
theorem dX12_tells_10 : decode cX12_tells 10 = .ok (.aload_n 0, 1) := dk_1042 (dk_g tcX12_tells_0 10 rfl)
theorem dX12_tells_11 : decode cX12_tells 11 = .ok (.dup, 1) := dk_1089 (dk_g tcX12_tells_0 11 rfl)
theorem tcX12_tells_1 : (cX12_tells.data.toList.drop 12).take 12 = [180, 1, 176, 4, 96, 181, 1, 176, 177] := by decide +kernel
theorem dX12_tells_12 : decode cX12_tells 12 = .ok (.getfield 432, 3) := dk_1180 (dk_g tcX12_tells_1 0 rfl) (dk_g tcX12_tells_1 1 rfl) (dk_g tcX12_tells_1 2 rfl) rfl
theorem dX12_tells_15 : decode cX12_tells 15 = .ok (.iconst 1, 1) := dk_1004 (dk_g tcX12_tells_1 3 rfl)
theorem dX12_tells_16 : decode cX12_tells 16 = .ok (.iadd, 1) := dk_1096 (dk_g tcX12_tells_1 4 rfl)
theorem dX12_tells_17 : decode cX12_tells 17 = .ok (.putfield 432, 3) := dk_1181 (dk_g tcX12_tells_1 5 rfl) (dk_g tcX12_tells_1 6 rfl) (dk_g tcX12_tells_1 7 rfl) rfl
theorem dX12_tells_20 : decode cX12_tells 20 = .ok (.return_, 1) := dk_1177 (dk_g tcX12_tells_1 8 rfl)
theorem tcX12_says_0 : (cX12_says.data.toList.drop 0).take 12 = [42, 180, 1, 176, 158, 0, 9, 42, 16, 32, 182, 1] := by decide +kernel
theorem dX12_says_0 : decode cX12_says 0 = .ok (.aload_n 0, 1) := dk_1042 (dk_g tcX12_says_0 0 rfl)
theorem dX12_says_1 : decode cX12_says 1 = .ok (.getfield 432, 3) := dk_1180 (dk_g tcX12_says_0 1 rfl) (dk_g tcX12_says_0 2 rfl) (dk_g tcX12_says_0 3 rfl) rfl
theorem dX12_says_4 : decode cX12_says 4 = .ok (.ifCond .le 9, 3) := dk_2158 (dk_g tcX12_says_0 4 rfl) (dk_g tcX12_says_0 5 rfl) (dk_g tcX12_says_0 6 rfl) rfl rfl
theorem dX12_says_7 : decode cX12_says 7 = .ok (.aload_n 0, 1) := dk_1042 (dk_g tcX12_says_0 7 rfl)
theorem dX12_says_8 : decode cX12_says 8 = .ok (.bipush 32, 2) := dk_1016 (dk_g tcX12_says_0 8 rfl) (dk_g tcX12_says_0 9 rfl) (by decide +kernel)
theorem tcX12_says_1 : (cX12_says.data.toList.drop 12).take 12 = [173, 3, 62, 29, 43, 182, 1, 179, 162, 0, 18, 42] := by decide +kernel
theorem dX12_says_10 : decode cX12_says 10 = .ok (.invokevirtual 429, 3) := dk_1182 (dk_g tcX12_says_0 10 rfl) (dk_g tcX12_says_0 11 rfl) (dk_g tcX12_says_1 0 rfl) rfl
theorem dX12_says_13 : decode cX12_says 13 = .ok (.iconst 0, 1) := dk_1003 (dk_g tcX12_says_1 1 rfl)
theorem dX12_says_14 : decode cX12_says 14 = .ok (.istore_n 3, 1) := dk_1062 (dk_g tcX12_says_1 2 rfl)
theorem dX12_says_15 : decode cX12_says 15 = .ok (.iload_n 3, 1) := dk_1029 (dk_g tcX12_says_1 3 rfl)
theorem dX12_says_16 : decode cX12_says 16 = .ok (.aload_n 1, 1) := dk_1043 (dk_g tcX12_says_1 4 rfl)
theorem dX12_says_17 : decode cX12_says 17 = .ok (.invokevirtual 435, 3) := dk_1182 (dk_g tcX12_says_1 5 rfl) (dk_g tcX12_says_1 6 rfl) (dk_g tcX12_says_1 7 rfl) rfl
theorem dX12_says_20 : decode cX12_says 20 = .ok (.if_icmp .ge 18, 3) := dk_2162 (dk_g tcX12_says_1 8 rfl) (dk_g tcX12_says_1 9 rfl) (dk_g tcX12_says_1 10 rfl) rfl rfl
theorem dX12_says_23 : decode cX12_says 23 = .ok (.aload_n 0, 1) := dk_1042 (dk_g tcX12_says_1 11 rfl)
theorem tcX12_says_2 : (cX12_says.data.toList.drop 24).take 12 = [43, 29, 182, 1, 184, 182, 1, 173, 132, 3, 1, 167] := by decide +kernel
theorem dX12_says_24 : decode cX12_says 24 = .ok (.aload_n 1, 1) := dk_1043 (dk_g tcX12_says_2 0 rfl)
theorem dX12_says_25 : decode cX12_says 25 = .ok (.iload_n 3, 1) := dk_1029 (dk_g tcX12_says_2 1 rfl)
theorem dX12_says_26 : decode cX12_says 26 = .ok (.invokevirtual 440, 3) := dk_1182 (dk_g tcX12_says_2 2 rfl) (dk_g tcX12_says_2 3 rfl) (dk_g tcX12_says_2 4 rfl) rfl
theorem dX12_says_29 : decode cX12_says 29 = .ok (.invokevirtual 429, 3) := dk_1182 (dk_g tcX12_says_2 5 rfl) (dk_g tcX12_says_2 6 rfl) (dk_g tcX12_says_2 7 rfl) rfl
theorem dX12_says_32 : decode cX12_says 32 = .ok (.iinc 3 1, 3) := dk_1132 (dk_g tcX12_says_2 8 rfl) (dk_g tcX12_says_2 9 rfl) (dk_g tcX12_says_2 10 rfl) rfl (by decide +kernel)
theorem tcX12_says_3 : (cX12_says.data.toList.drop 36).take 12 = [255, 236, 42, 16, 32, 182, 1, 173, 42, 28, 182, 1] := by decide +kernel
theorem dX12_says_35 : decode cX12_says 35 = .ok (.goto (-20), 3) := dk_1167 (dk_g tcX12_says_2 11 rfl) (dk_g tcX12_says_3 0 rfl) (dk_g tcX12_says_3 1 rfl) (by decide +kernel)
theorem dX12_says_38 : decode cX12_says 38 = .ok (.aload_n 0, 1) := dk_1042 (dk_g tcX12_says_3 2 rfl)
theorem dX12_says_39 : decode cX12_says 39 = .ok (.bipush 32, 2) := dk_1016 (dk_g tcX12_says_3 3 rfl) (dk_g tcX12_says_3 4 rfl) (by decide +kernel)
theorem dX12_says_41 : decode cX12_says 41 = .ok (.invokevirtual 429, 3) := dk_1182 (dk_g tcX12_says_3 5 rfl) (dk_g tcX12_says_3 6 rfl) (dk_g tcX12_says_3 7 rfl) rfl
theorem dX12_says_44 : decode cX12_says 44 = .ok (.aload_n 0, 1) := dk_1042 (dk_g tcX12_says_3 8 rfl)
theorem dX12_says_45 : decode cX12_says 45 = .ok (.iload_n 2, 1) := dk_1028 (dk_g tcX12_says_3 9 rfl)
theorem tcX12_says_4 : (cX12_says.data.toList.drop 48).take 12 = [188, 177] := by decide +kernel
theorem dX12_says_46 : decode cX12_says 46 = .ok (.invokevirtual 444, 3) := dk_1182 (dk_g tcX12_says_3 10 rfl) (dk_g tcX12_says_3 11 rfl) (dk_g tcX12_says_4 0 rfl) rfl
theorem dX12_says_49 : decode cX12_says 49 = .ok (.return_, 1) := dk_1177 (dk_g tcX12_says_4 1 rfl)
theorem tcX12_tellsMarks_0 : (cX12_tellsMarks.data.toList.drop 0).take 12 = [42, 27, 182, 0, 161, 42, 16, 32, 182, 1, 173, 42] := by decide +kernel
theorem dX12_tellsMarks_0 : decode cX12_tellsMarks 0 = .ok (.aload_n 0, 1) := dk_1042 (dk_g tcX12_tellsMarks_0 0 rfl)
theorem dX12_tellsMarks_1 : decode cX12_tellsMarks 1 = .ok (.iload_n 1, 1) := dk_1027 (dk_g tcX12_tellsMarks_0 1 rfl)
theorem dX12_tellsMarks_2 : decode cX12_tellsMarks 2 = .ok (.invokevirtual 161, 3) := dk_1182 (dk_g tcX12_tellsMarks_0 2 rfl) (dk_g tcX12_tellsMarks_0 3 rfl) (dk_g tcX12_tellsMarks_0 4 rfl) rfl
theorem dX12_tellsMarks_5 : decode cX12_tellsMarks 5 = .ok (.aload_n 0, 1) := dk_1042 (dk_g tcX12_tellsMarks_0 5 rfl)
theorem dX12_tellsMarks_6 : decode cX12_tellsMarks 6 = .ok (.bipush 32, 2) := dk_1016 (dk_g tcX12_tellsMarks_0 6 rfl) (dk_g tcX12_tellsMarks_0 7 rfl) (by decide +kernel)
theorem dX12_tellsMarks_8 : decode cX12_tellsMarks 8 = .ok (.invokevirtual 429, 3) := dk_1182 (dk_g tcX12_tellsMarks_0 8 rfl) (dk_g tcX12_tellsMarks_0 9 rfl) (dk_g tcX12_tellsMarks_0 10 rfl) rfl
theorem dX12_tellsMarks_11 : decode cX12_tellsMarks 11 = .ok (.aload_n 0, 1) := dk_1042 (dk_g tcX12_tellsMarks_0 11 rfl)
theorem tcX12_tellsMarks_1 : (cX12_tellsMarks.data.toList.drop 12).take 12 = [16, 98, 182, 1, 173, 42, 16, 121, 182, 1, 173, 3] := by decide +kernel
theorem dX12_tellsMarks_12 : decode cX12_tellsMarks 12 = .ok (.bipush 98, 2) := dk_1016 (dk_g tcX12_tellsMarks_1 0 rfl) (dk_g tcX12_tellsMarks_1 1 rfl) (by decide +kernel)
theorem dX12_tellsMarks_14 : decode cX12_tellsMarks 14 = .ok (.invokevirtual 429, 3) := dk_1182 (dk_g tcX12_tellsMarks_1 2 rfl) (dk_g tcX12_tellsMarks_1 3 rfl) (dk_g tcX12_tellsMarks_1 4 rfl) rfl
theorem dX12_tellsMarks_17 : decode cX12_tellsMarks 17 = .ok (.aload_n 0, 1) := dk_1042 (dk_g tcX12_tellsMarks_1 5 rfl)
theorem dX12_tellsMarks_18 : decode cX12_tellsMarks 18 = .ok (.bipush 121, 2) := dk_1016 (dk_g tcX12_tellsMarks_1 6 rfl) (dk_g tcX12_tellsMarks_1 7 rfl) (by decide +kernel)
theorem dX12_tellsMarks_20 : decode cX12_tellsMarks 20 = .ok (.invokevirtual 429, 3) := dk_1182 (dk_g tcX12_tellsMarks_1 8 rfl) (dk_g tcX12_tellsMarks_1 9 rfl) (dk_g tcX12_tellsMarks_1 10 rfl) rfl
theorem dX12_tellsMarks_23 : decode cX12_tellsMarks 23 = .ok (.iconst 0, 1) := dk_1003 (dk_g tcX12_tellsMarks_1 11 rfl)
theorem tcX12_tellsMarks_2 : (cX12_tellsMarks.data.toList.drop 24).take 12 = [61, 28, 42, 180, 0, 139, 162, 0, 25, 42, 16, 32] := by decide +kernel
theorem dX12_tellsMarks_24 : decode cX12_tellsMarks 24 = .ok (.istore_n 2, 1) := dk_1061 (dk_g tcX12_tellsMarks_2 0 rfl)
theorem dX12_tellsMarks_25 : decode cX12_tellsMarks 25 = .ok (.iload_n 2, 1) := dk_1028 (dk_g tcX12_tellsMarks_2 1 rfl)
theorem dX12_tellsMarks_26 : decode cX12_tellsMarks 26 = .ok (.aload_n 0, 1) := dk_1042 (dk_g tcX12_tellsMarks_2 2 rfl)
theorem dX12_tellsMarks_27 : decode cX12_tellsMarks 27 = .ok (.getfield 139, 3) := dk_1180 (dk_g tcX12_tellsMarks_2 3 rfl) (dk_g tcX12_tellsMarks_2 4 rfl) (dk_g tcX12_tellsMarks_2 5 rfl) rfl
theorem dX12_tellsMarks_30 : decode cX12_tellsMarks 30 = .ok (.if_icmp .ge 25, 3) := dk_2162 (dk_g tcX12_tellsMarks_2 6 rfl) (dk_g tcX12_tellsMarks_2 7 rfl) (dk_g tcX12_tellsMarks_2 8 rfl) rfl rfl
theorem dX12_tellsMarks_33 : decode cX12_tellsMarks 33 = .ok (.aload_n 0, 1) := dk_1042 (dk_g tcX12_tellsMarks_2 9 rfl)
theorem dX12_tellsMarks_34 : decode cX12_tellsMarks 34 = .ok (.bipush 32, 2) := dk_1016 (dk_g tcX12_tellsMarks_2 10 rfl) (dk_g tcX12_tellsMarks_2 11 rfl) (by decide +kernel)
theorem tcX12_tellsMarks_3 : (cX12_tellsMarks.data.toList.drop 36).take 12 = [182, 1, 173, 42, 42, 180, 0, 22, 28, 46, 182, 1] := by decide +kernel
theorem dX12_tellsMarks_36 : decode cX12_tellsMarks 36 = .ok (.invokevirtual 429, 3) := dk_1182 (dk_g tcX12_tellsMarks_3 0 rfl) (dk_g tcX12_tellsMarks_3 1 rfl) (dk_g tcX12_tellsMarks_3 2 rfl) rfl
theorem dX12_tellsMarks_39 : decode cX12_tellsMarks 39 = .ok (.aload_n 0, 1) := dk_1042 (dk_g tcX12_tellsMarks_3 3 rfl)
theorem dX12_tellsMarks_40 : decode cX12_tellsMarks 40 = .ok (.aload_n 0, 1) := dk_1042 (dk_g tcX12_tellsMarks_3 4 rfl)
theorem dX12_tellsMarks_41 : decode cX12_tellsMarks 41 = .ok (.getfield 22, 3) := dk_1180 (dk_g tcX12_tellsMarks_3 5 rfl) (dk_g tcX12_tellsMarks_3 6 rfl) (dk_g tcX12_tellsMarks_3 7 rfl) rfl
theorem dX12_tellsMarks_44 : decode cX12_tellsMarks 44 = .ok (.iload_n 2, 1) := dk_1028 (dk_g tcX12_tellsMarks_3 8 rfl)
theorem dX12_tellsMarks_45 : decode cX12_tellsMarks 45 = .ok (.iaload, 1) := dk_1046 (dk_g tcX12_tellsMarks_3 9 rfl)
theorem tcX12_tellsMarks_4 : (cX12_tellsMarks.data.toList.drop 48).take 12 = [188, 132, 2, 1, 167, 255, 229, 42, 16, 59, 182, 1] := by decide +kernel
theorem dX12_tellsMarks_46 : decode cX12_tellsMarks 46 = .ok (.invokevirtual 444, 3) := dk_1182 (dk_g tcX12_tellsMarks_3 10 rfl) (dk_g tcX12_tellsMarks_3 11 rfl) (dk_g tcX12_tellsMarks_4 0 rfl) rfl
theorem dX12_tellsMarks_49 : decode cX12_tellsMarks 49 = .ok (.iinc 2 1, 3) := dk_1132 (dk_g tcX12_tellsMarks_4 1 rfl) (dk_g tcX12_tellsMarks_4 2 rfl) (dk_g tcX12_tellsMarks_4 3 rfl) rfl (by decide +kernel)
theorem dX12_tellsMarks_52 : decode cX12_tellsMarks 52 = .ok (.goto (-27), 3) := dk_1167 (dk_g tcX12_tellsMarks_4 4 rfl) (dk_g tcX12_tellsMarks_4 5 rfl) (dk_g tcX12_tellsMarks_4 6 rfl) (by decide +kernel)
theorem dX12_tellsMarks_55 : decode cX12_tellsMarks 55 = .ok (.aload_n 0, 1) := dk_1042 (dk_g tcX12_tellsMarks_4 7 rfl)
theorem dX12_tellsMarks_56 : decode cX12_tellsMarks 56 = .ok (.bipush 59, 2) := dk_1016 (dk_g tcX12_tellsMarks_4 8 rfl) (dk_g tcX12_tellsMarks_4 9 rfl) (by decide +kernel)
theorem tcX12_tellsMarks_5 : (cX12_tellsMarks.data.toList.drop 60).take 12 = [173, 42, 180, 1, 176, 172] := by decide +kernel
theorem dX12_tellsMarks_58 : decode cX12_tellsMarks 58 = .ok (.invokevirtual 429, 3) := dk_1182 (dk_g tcX12_tellsMarks_4 10 rfl) (dk_g tcX12_tellsMarks_4 11 rfl) (dk_g tcX12_tellsMarks_5 0 rfl) rfl
theorem dX12_tellsMarks_61 : decode cX12_tellsMarks 61 = .ok (.aload_n 0, 1) := dk_1042 (dk_g tcX12_tellsMarks_5 1 rfl)
theorem dX12_tellsMarks_62 : decode cX12_tellsMarks 62 = .ok (.getfield 432, 3) := dk_1180 (dk_g tcX12_tellsMarks_5 2 rfl) (dk_g tcX12_tellsMarks_5 3 rfl) (dk_g tcX12_tellsMarks_5 4 rfl) rfl
theorem dX12_tellsMarks_65 : decode cX12_tellsMarks 65 = .ok (.ireturn, 1) := dk_1172 (dk_g tcX12_tellsMarks_5 5 rfl)
theorem tcX12_tell_0 : (cX12_tell.data.toList.drop 0).take 12 = [42, 42, 27, 28, 29, 182, 1, 106, 182, 1, 53, 154] := by decide +kernel
theorem dX12_tell_0 : decode cX12_tell 0 = .ok (.aload_n 0, 1) := dk_1042 (dk_g tcX12_tell_0 0 rfl)
theorem dX12_tell_1 : decode cX12_tell 1 = .ok (.aload_n 0, 1) := dk_1042 (dk_g tcX12_tell_0 1 rfl)
theorem dX12_tell_2 : decode cX12_tell 2 = .ok (.iload_n 1, 1) := dk_1027 (dk_g tcX12_tell_0 2 rfl)
theorem dX12_tell_3 : decode cX12_tell 3 = .ok (.iload_n 2, 1) := dk_1028 (dk_g tcX12_tell_0 3 rfl)
theorem dX12_tell_4 : decode cX12_tell 4 = .ok (.iload_n 3, 1) := dk_1029 (dk_g tcX12_tell_0 4 rfl)
theorem dX12_tell_5 : decode cX12_tell 5 = .ok (.invokevirtual 362, 3) := dk_1182 (dk_g tcX12_tell_0 5 rfl) (dk_g tcX12_tell_0 6 rfl) (dk_g tcX12_tell_0 7 rfl) rfl
theorem dX12_tell_8 : decode cX12_tell 8 = .ok (.invokevirtual 309, 3) := dk_1182 (dk_g tcX12_tell_0 8 rfl) (dk_g tcX12_tell_0 9 rfl) (dk_g tcX12_tell_0 10 rfl) rfl
theorem tcX12_tell_1 : (cX12_tell.data.toList.drop 12).take 12 = [0, 5, 2, 172, 42, 3, 181, 1, 176, 42, 19, 1] := by decide +kernel
theorem dX12_tell_11 : decode cX12_tell 11 = .ok (.ifCond .ne 5, 3) := dk_2154 (dk_g tcX12_tell_0 11 rfl) (dk_g tcX12_tell_1 0 rfl) (dk_g tcX12_tell_1 1 rfl) rfl rfl
theorem dX12_tell_14 : decode cX12_tell 14 = .ok (.iconst (-1), 1) := dk_1002 (dk_g tcX12_tell_1 2 rfl)
theorem dX12_tell_15 : decode cX12_tell 15 = .ok (.ireturn, 1) := dk_1172 (dk_g tcX12_tell_1 3 rfl)
theorem dX12_tell_16 : decode cX12_tell 16 = .ok (.aload_n 0, 1) := dk_1042 (dk_g tcX12_tell_1 4 rfl)
theorem dX12_tell_17 : decode cX12_tell 17 = .ok (.iconst 0, 1) := dk_1003 (dk_g tcX12_tell_1 5 rfl)
theorem dX12_tell_18 : decode cX12_tell 18 = .ok (.putfield 432, 3) := dk_1181 (dk_g tcX12_tell_1 6 rfl) (dk_g tcX12_tell_1 7 rfl) (dk_g tcX12_tell_1 8 rfl) rfl
theorem dX12_tell_21 : decode cX12_tell 21 = .ok (.aload_n 0, 1) := dk_1042 (dk_g tcX12_tell_1 9 rfl)
theorem tcX12_tell_2 : (cX12_tell.data.toList.drop 24).take 12 = [191, 28, 182, 1, 193, 42, 19, 1, 197, 29, 182, 1] := by decide +kernel
theorem dX12_tell_22 : decode cX12_tell 22 = .ok (.ldc_w 447, 3) := dk_1019 (dk_g tcX12_tell_1 10 rfl) (dk_g tcX12_tell_1 11 rfl) (dk_g tcX12_tell_2 0 rfl) rfl
theorem dX12_tell_25 : decode cX12_tell 25 = .ok (.iload_n 2, 1) := dk_1028 (dk_g tcX12_tell_2 1 rfl)
theorem dX12_tell_26 : decode cX12_tell 26 = .ok (.invokevirtual 449, 3) := dk_1182 (dk_g tcX12_tell_2 2 rfl) (dk_g tcX12_tell_2 3 rfl) (dk_g tcX12_tell_2 4 rfl) rfl
theorem dX12_tell_29 : decode cX12_tell 29 = .ok (.aload_n 0, 1) := dk_1042 (dk_g tcX12_tell_2 5 rfl)
theorem dX12_tell_30 : decode cX12_tell 30 = .ok (.ldc_w 453, 3) := dk_1019 (dk_g tcX12_tell_2 6 rfl) (dk_g tcX12_tell_2 7 rfl) (dk_g tcX12_tell_2 8 rfl) rfl
theorem dX12_tell_33 : decode cX12_tell 33 = .ok (.iload_n 3, 1) := dk_1029 (dk_g tcX12_tell_2 9 rfl)
theorem tcX12_tell_3 : (cX12_tell.data.toList.drop 36).take 12 = [193, 42, 19, 1, 199, 42, 27, 28, 182, 0, 125, 182] := by decide +kernel
theorem dX12_tell_34 : decode cX12_tell 34 = .ok (.invokevirtual 449, 3) := dk_1182 (dk_g tcX12_tell_2 10 rfl) (dk_g tcX12_tell_2 11 rfl) (dk_g tcX12_tell_3 0 rfl) rfl
theorem dX12_tell_37 : decode cX12_tell 37 = .ok (.aload_n 0, 1) := dk_1042 (dk_g tcX12_tell_3 1 rfl)
theorem dX12_tell_38 : decode cX12_tell 38 = .ok (.ldc_w 455, 3) := dk_1019 (dk_g tcX12_tell_3 2 rfl) (dk_g tcX12_tell_3 3 rfl) (dk_g tcX12_tell_3 4 rfl) rfl
theorem dX12_tell_41 : decode cX12_tell 41 = .ok (.aload_n 0, 1) := dk_1042 (dk_g tcX12_tell_3 5 rfl)
theorem dX12_tell_42 : decode cX12_tell 42 = .ok (.iload_n 1, 1) := dk_1027 (dk_g tcX12_tell_3 6 rfl)
theorem dX12_tell_43 : decode cX12_tell 43 = .ok (.iload_n 2, 1) := dk_1028 (dk_g tcX12_tell_3 7 rfl)
theorem dX12_tell_44 : decode cX12_tell 44 = .ok (.invokevirtual 125, 3) := dk_1182 (dk_g tcX12_tell_3 8 rfl) (dk_g tcX12_tell_3 9 rfl) (dk_g tcX12_tell_3 10 rfl) rfl
theorem tcX12_tell_4 : (cX12_tell.data.toList.drop 48).take 12 = [1, 193, 42, 19, 1, 201, 42, 27, 29, 182, 0, 215] := by decide +kernel
theorem dX12_tell_47 : decode cX12_tell 47 = .ok (.invokevirtual 449, 3) := dk_1182 (dk_g tcX12_tell_3 11 rfl) (dk_g tcX12_tell_4 0 rfl) (dk_g tcX12_tell_4 1 rfl) rfl
theorem dX12_tell_50 : decode cX12_tell 50 = .ok (.aload_n 0, 1) := dk_1042 (dk_g tcX12_tell_4 2 rfl)
theorem dX12_tell_51 : decode cX12_tell 51 = .ok (.ldc_w 457, 3) := dk_1019 (dk_g tcX12_tell_4 3 rfl) (dk_g tcX12_tell_4 4 rfl) (dk_g tcX12_tell_4 5 rfl) rfl
theorem dX12_tell_54 : decode cX12_tell 54 = .ok (.aload_n 0, 1) := dk_1042 (dk_g tcX12_tell_4 6 rfl)
theorem dX12_tell_55 : decode cX12_tell 55 = .ok (.iload_n 1, 1) := dk_1027 (dk_g tcX12_tell_4 7 rfl)
theorem dX12_tell_56 : decode cX12_tell 56 = .ok (.iload_n 3, 1) := dk_1029 (dk_g tcX12_tell_4 8 rfl)
theorem dX12_tell_57 : decode cX12_tell 57 = .ok (.invokevirtual 215, 3) := dk_1182 (dk_g tcX12_tell_4 9 rfl) (dk_g tcX12_tell_4 10 rfl) (dk_g tcX12_tell_4 11 rfl) rfl
theorem tcX12_tell_5 : (cX12_tell.data.toList.drop 60).take 12 = [182, 1, 193, 42, 28, 29, 182, 0, 171, 42, 27, 182] := by decide +kernel
theorem dX12_tell_60 : decode cX12_tell 60 = .ok (.invokevirtual 449, 3) := dk_1182 (dk_g tcX12_tell_5 0 rfl) (dk_g tcX12_tell_5 1 rfl) (dk_g tcX12_tell_5 2 rfl) rfl
theorem dX12_tell_63 : decode cX12_tell 63 = .ok (.aload_n 0, 1) := dk_1042 (dk_g tcX12_tell_5 3 rfl)
theorem dX12_tell_64 : decode cX12_tell 64 = .ok (.iload_n 2, 1) := dk_1028 (dk_g tcX12_tell_5 4 rfl)
theorem dX12_tell_65 : decode cX12_tell 65 = .ok (.iload_n 3, 1) := dk_1029 (dk_g tcX12_tell_5 5 rfl)
theorem dX12_tell_66 : decode cX12_tell 66 = .ok (.invokevirtual 171, 3) := dk_1182 (dk_g tcX12_tell_5 6 rfl) (dk_g tcX12_tell_5 7 rfl) (dk_g tcX12_tell_5 8 rfl) rfl
theorem dX12_tell_69 : decode cX12_tell 69 = .ok (.aload_n 0, 1) := dk_1042 (dk_g tcX12_tell_5 9 rfl)
theorem dX12_tell_70 : decode cX12_tell 70 = .ok (.iload_n 1, 1) := dk_1027 (dk_g tcX12_tell_5 10 rfl)
theorem tcX12_tell_6 : (cX12_tell.data.toList.drop 72).take 12 = [1, 203, 172] := by decide +kernel
theorem dX12_tell_71 : decode cX12_tell 71 = .ok (.invokevirtual 459, 3) := dk_1182 (dk_g tcX12_tell_5 11 rfl) (dk_g tcX12_tell_6 0 rfl) (dk_g tcX12_tell_6 1 rfl) rfl
theorem dX12_tell_74 : decode cX12_tell 74 = .ok (.ireturn, 1) := dk_1172 (dk_g tcX12_tell_6 2 rfl)
theorem tcX12_tellGrowth_0 : (cX12_tellGrowth.data.toList.drop 0).take 12 = [42, 28, 155, 0, 8, 28, 29, 164, 0, 7, 4, 167] := by decide +kernel
theorem dX12_tellGrowth_0 : decode cX12_tellGrowth 0 = .ok (.aload_n 0, 1) := dk_1042 (dk_g tcX12_tellGrowth_0 0 rfl)
theorem dX12_tellGrowth_1 : decode cX12_tellGrowth 1 = .ok (.iload_n 2, 1) := dk_1028 (dk_g tcX12_tellGrowth_0 1 rfl)
theorem dX12_tellGrowth_2 : decode cX12_tellGrowth 2 = .ok (.ifCond .lt 8, 3) := dk_2155 (dk_g tcX12_tellGrowth_0 2 rfl) (dk_g tcX12_tellGrowth_0 3 rfl) (dk_g tcX12_tellGrowth_0 4 rfl) rfl rfl
theorem dX12_tellGrowth_5 : decode cX12_tellGrowth 5 = .ok (.iload_n 2, 1) := dk_1028 (dk_g tcX12_tellGrowth_0 5 rfl)
theorem dX12_tellGrowth_6 : decode cX12_tellGrowth 6 = .ok (.iload_n 3, 1) := dk_1029 (dk_g tcX12_tellGrowth_0 6 rfl)
theorem dX12_tellGrowth_7 : decode cX12_tellGrowth 7 = .ok (.if_icmp .le 7, 3) := dk_2164 (dk_g tcX12_tellGrowth_0 7 rfl) (dk_g tcX12_tellGrowth_0 8 rfl) (dk_g tcX12_tellGrowth_0 9 rfl) rfl rfl
theorem dX12_tellGrowth_10 : decode cX12_tellGrowth 10 = .ok (.iconst 1, 1) := dk_1004 (dk_g tcX12_tellGrowth_0 10 rfl)
theorem tcX12_tellGrowth_1 : (cX12_tellGrowth.data.toList.drop 12).take 12 = [0, 9, 42, 27, 29, 182, 1, 91, 182, 1, 53, 154] := by decide +kernel
theorem dX12_tellGrowth_11 : decode cX12_tellGrowth 11 = .ok (.goto 9, 3) := dk_2167 (dk_g tcX12_tellGrowth_0 11 rfl) (dk_g tcX12_tellGrowth_1 0 rfl) (dk_g tcX12_tellGrowth_1 1 rfl) rfl rfl
theorem dX12_tellGrowth_14 : decode cX12_tellGrowth 14 = .ok (.aload_n 0, 1) := dk_1042 (dk_g tcX12_tellGrowth_1 2 rfl)
theorem dX12_tellGrowth_15 : decode cX12_tellGrowth 15 = .ok (.iload_n 1, 1) := dk_1027 (dk_g tcX12_tellGrowth_1 3 rfl)
theorem dX12_tellGrowth_16 : decode cX12_tellGrowth 16 = .ok (.iload_n 3, 1) := dk_1029 (dk_g tcX12_tellGrowth_1 4 rfl)
theorem dX12_tellGrowth_17 : decode cX12_tellGrowth 17 = .ok (.invokevirtual 347, 3) := dk_1182 (dk_g tcX12_tellGrowth_1 5 rfl) (dk_g tcX12_tellGrowth_1 6 rfl) (dk_g tcX12_tellGrowth_1 7 rfl) rfl
theorem dX12_tellGrowth_20 : decode cX12_tellGrowth 20 = .ok (.invokevirtual 309, 3) := dk_1182 (dk_g tcX12_tellGrowth_1 8 rfl) (dk_g tcX12_tellGrowth_1 9 rfl) (dk_g tcX12_tellGrowth_1 10 rfl) rfl
theorem tcX12_tellGrowth_2 : (cX12_tellGrowth.data.toList.drop 24).take 12 = [0, 5, 2, 172, 42, 3, 181, 1, 176, 42, 19, 1] := by decide +kernel
theorem dX12_tellGrowth_23 : decode cX12_tellGrowth 23 = .ok (.ifCond .ne 5, 3) := dk_2154 (dk_g tcX12_tellGrowth_1 11 rfl) (dk_g tcX12_tellGrowth_2 0 rfl) (dk_g tcX12_tellGrowth_2 1 rfl) rfl rfl
theorem dX12_tellGrowth_26 : decode cX12_tellGrowth 26 = .ok (.iconst (-1), 1) := dk_1002 (dk_g tcX12_tellGrowth_2 2 rfl)
theorem dX12_tellGrowth_27 : decode cX12_tellGrowth 27 = .ok (.ireturn, 1) := dk_1172 (dk_g tcX12_tellGrowth_2 3 rfl)
theorem dX12_tellGrowth_28 : decode cX12_tellGrowth 28 = .ok (.aload_n 0, 1) := dk_1042 (dk_g tcX12_tellGrowth_2 4 rfl)
theorem dX12_tellGrowth_29 : decode cX12_tellGrowth 29 = .ok (.iconst 0, 1) := dk_1003 (dk_g tcX12_tellGrowth_2 5 rfl)
theorem dX12_tellGrowth_30 : decode cX12_tellGrowth 30 = .ok (.putfield 432, 3) := dk_1181 (dk_g tcX12_tellGrowth_2 6 rfl) (dk_g tcX12_tellGrowth_2 7 rfl) (dk_g tcX12_tellGrowth_2 8 rfl) rfl
theorem dX12_tellGrowth_33 : decode cX12_tellGrowth 33 = .ok (.aload_n 0, 1) := dk_1042 (dk_g tcX12_tellGrowth_2 9 rfl)
theorem tcX12_tellGrowth_3 : (cX12_tellGrowth.data.toList.drop 36).take 12 = [206, 28, 182, 1, 193, 42, 19, 1, 199, 42, 27, 28] := by decide +kernel
theorem dX12_tellGrowth_34 : decode cX12_tellGrowth 34 = .ok (.ldc_w 462, 3) := dk_1019 (dk_g tcX12_tellGrowth_2 10 rfl) (dk_g tcX12_tellGrowth_2 11 rfl) (dk_g tcX12_tellGrowth_3 0 rfl) rfl
theorem dX12_tellGrowth_37 : decode cX12_tellGrowth 37 = .ok (.iload_n 2, 1) := dk_1028 (dk_g tcX12_tellGrowth_3 1 rfl)
theorem dX12_tellGrowth_38 : decode cX12_tellGrowth 38 = .ok (.invokevirtual 449, 3) := dk_1182 (dk_g tcX12_tellGrowth_3 2 rfl) (dk_g tcX12_tellGrowth_3 3 rfl) (dk_g tcX12_tellGrowth_3 4 rfl) rfl
theorem dX12_tellGrowth_41 : decode cX12_tellGrowth 41 = .ok (.aload_n 0, 1) := dk_1042 (dk_g tcX12_tellGrowth_3 5 rfl)
theorem dX12_tellGrowth_42 : decode cX12_tellGrowth 42 = .ok (.ldc_w 455, 3) := dk_1019 (dk_g tcX12_tellGrowth_3 6 rfl) (dk_g tcX12_tellGrowth_3 7 rfl) (dk_g tcX12_tellGrowth_3 8 rfl) rfl
theorem dX12_tellGrowth_45 : decode cX12_tellGrowth 45 = .ok (.aload_n 0, 1) := dk_1042 (dk_g tcX12_tellGrowth_3 9 rfl)
theorem dX12_tellGrowth_46 : decode cX12_tellGrowth 46 = .ok (.iload_n 1, 1) := dk_1027 (dk_g tcX12_tellGrowth_3 10 rfl)
theorem dX12_tellGrowth_47 : decode cX12_tellGrowth 47 = .ok (.iload_n 2, 1) := dk_1028 (dk_g tcX12_tellGrowth_3 11 rfl)
theorem tcX12_tellGrowth_4 : (cX12_tellGrowth.data.toList.drop 48).take 12 = [182, 0, 215, 182, 1, 193, 42, 19, 1, 208, 29, 182] := by decide +kernel
theorem dX12_tellGrowth_48 : decode cX12_tellGrowth 48 = .ok (.invokevirtual 215, 3) := dk_1182 (dk_g tcX12_tellGrowth_4 0 rfl) (dk_g tcX12_tellGrowth_4 1 rfl) (dk_g tcX12_tellGrowth_4 2 rfl) rfl
theorem dX12_tellGrowth_51 : decode cX12_tellGrowth 51 = .ok (.invokevirtual 449, 3) := dk_1182 (dk_g tcX12_tellGrowth_4 3 rfl) (dk_g tcX12_tellGrowth_4 4 rfl) (dk_g tcX12_tellGrowth_4 5 rfl) rfl
theorem dX12_tellGrowth_54 : decode cX12_tellGrowth 54 = .ok (.aload_n 0, 1) := dk_1042 (dk_g tcX12_tellGrowth_4 6 rfl)
theorem dX12_tellGrowth_55 : decode cX12_tellGrowth 55 = .ok (.ldc_w 464, 3) := dk_1019 (dk_g tcX12_tellGrowth_4 7 rfl) (dk_g tcX12_tellGrowth_4 8 rfl) (dk_g tcX12_tellGrowth_4 9 rfl) rfl
theorem dX12_tellGrowth_58 : decode cX12_tellGrowth 58 = .ok (.iload_n 3, 1) := dk_1029 (dk_g tcX12_tellGrowth_4 10 rfl)
theorem tcX12_tellGrowth_5 : (cX12_tellGrowth.data.toList.drop 60).take 12 = [1, 193, 42, 19, 1, 201, 42, 27, 29, 182, 0, 215] := by decide +kernel
theorem dX12_tellGrowth_59 : decode cX12_tellGrowth 59 = .ok (.invokevirtual 449, 3) := dk_1182 (dk_g tcX12_tellGrowth_4 11 rfl) (dk_g tcX12_tellGrowth_5 0 rfl) (dk_g tcX12_tellGrowth_5 1 rfl) rfl
theorem dX12_tellGrowth_62 : decode cX12_tellGrowth 62 = .ok (.aload_n 0, 1) := dk_1042 (dk_g tcX12_tellGrowth_5 2 rfl)
theorem dX12_tellGrowth_63 : decode cX12_tellGrowth 63 = .ok (.ldc_w 457, 3) := dk_1019 (dk_g tcX12_tellGrowth_5 3 rfl) (dk_g tcX12_tellGrowth_5 4 rfl) (dk_g tcX12_tellGrowth_5 5 rfl) rfl
theorem dX12_tellGrowth_66 : decode cX12_tellGrowth 66 = .ok (.aload_n 0, 1) := dk_1042 (dk_g tcX12_tellGrowth_5 6 rfl)
theorem dX12_tellGrowth_67 : decode cX12_tellGrowth 67 = .ok (.iload_n 1, 1) := dk_1027 (dk_g tcX12_tellGrowth_5 7 rfl)
theorem dX12_tellGrowth_68 : decode cX12_tellGrowth 68 = .ok (.iload_n 3, 1) := dk_1029 (dk_g tcX12_tellGrowth_5 8 rfl)
theorem dX12_tellGrowth_69 : decode cX12_tellGrowth 69 = .ok (.invokevirtual 215, 3) := dk_1182 (dk_g tcX12_tellGrowth_5 9 rfl) (dk_g tcX12_tellGrowth_5 10 rfl) (dk_g tcX12_tellGrowth_5 11 rfl) rfl
theorem tcX12_tellGrowth_6 : (cX12_tellGrowth.data.toList.drop 72).take 12 = [182, 1, 193, 42, 28, 29, 182, 0, 190, 42, 27, 182] := by decide +kernel
theorem dX12_tellGrowth_72 : decode cX12_tellGrowth 72 = .ok (.invokevirtual 449, 3) := dk_1182 (dk_g tcX12_tellGrowth_6 0 rfl) (dk_g tcX12_tellGrowth_6 1 rfl) (dk_g tcX12_tellGrowth_6 2 rfl) rfl
theorem dX12_tellGrowth_75 : decode cX12_tellGrowth 75 = .ok (.aload_n 0, 1) := dk_1042 (dk_g tcX12_tellGrowth_6 3 rfl)
theorem dX12_tellGrowth_76 : decode cX12_tellGrowth 76 = .ok (.iload_n 2, 1) := dk_1028 (dk_g tcX12_tellGrowth_6 4 rfl)
theorem dX12_tellGrowth_77 : decode cX12_tellGrowth 77 = .ok (.iload_n 3, 1) := dk_1029 (dk_g tcX12_tellGrowth_6 5 rfl)
theorem dX12_tellGrowth_78 : decode cX12_tellGrowth 78 = .ok (.invokevirtual 190, 3) := dk_1182 (dk_g tcX12_tellGrowth_6 6 rfl) (dk_g tcX12_tellGrowth_6 7 rfl) (dk_g tcX12_tellGrowth_6 8 rfl) rfl
theorem dX12_tellGrowth_81 : decode cX12_tellGrowth 81 = .ok (.aload_n 0, 1) := dk_1042 (dk_g tcX12_tellGrowth_6 9 rfl)
theorem dX12_tellGrowth_82 : decode cX12_tellGrowth 82 = .ok (.iload_n 1, 1) := dk_1027 (dk_g tcX12_tellGrowth_6 10 rfl)
theorem tcX12_tellGrowth_7 : (cX12_tellGrowth.data.toList.drop 84).take 12 = [1, 203, 172] := by decide +kernel
theorem dX12_tellGrowth_83 : decode cX12_tellGrowth 83 = .ok (.invokevirtual 459, 3) := dk_1182 (dk_g tcX12_tellGrowth_6 11 rfl) (dk_g tcX12_tellGrowth_7 0 rfl) (dk_g tcX12_tellGrowth_7 1 rfl) rfl
theorem dX12_tellGrowth_86 : decode cX12_tellGrowth 86 = .ok (.ireturn, 1) := dk_1172 (dk_g tcX12_tellGrowth_7 2 rfl)
theorem tcX12_out_0 : (cX12_out.data.toList.drop 0).take 12 = [42, 27, 156, 0, 7, 4, 167, 0, 16, 27, 42, 180] := by decide +kernel
theorem dX12_out_0 : decode cX12_out 0 = .ok (.aload_n 0, 1) := dk_1042 (dk_g tcX12_out_0 0 rfl)
theorem dX12_out_1 : decode cX12_out 1 = .ok (.iload_n 1, 1) := dk_1027 (dk_g tcX12_out_0 1 rfl)
theorem dX12_out_2 : decode cX12_out 2 = .ok (.ifCond .ge 7, 3) := dk_2156 (dk_g tcX12_out_0 2 rfl) (dk_g tcX12_out_0 3 rfl) (dk_g tcX12_out_0 4 rfl) rfl rfl
theorem dX12_out_5 : decode cX12_out 5 = .ok (.iconst 1, 1) := dk_1004 (dk_g tcX12_out_0 5 rfl)
theorem dX12_out_6 : decode cX12_out 6 = .ok (.goto 16, 3) := dk_2167 (dk_g tcX12_out_0 6 rfl) (dk_g tcX12_out_0 7 rfl) (dk_g tcX12_out_0 8 rfl) rfl rfl
theorem dX12_out_9 : decode cX12_out 9 = .ok (.iload_n 1, 1) := dk_1027 (dk_g tcX12_out_0 9 rfl)
theorem dX12_out_10 : decode cX12_out 10 = .ok (.aload_n 0, 1) := dk_1042 (dk_g tcX12_out_0 10 rfl)
theorem tcX12_out_1 : (cX12_out.data.toList.drop 12).take 12 = [1, 176, 161, 0, 7, 8, 167, 0, 4, 3, 182, 1] := by decide +kernel
theorem dX12_out_11 : decode cX12_out 11 = .ok (.getfield 432, 3) := dk_1180 (dk_g tcX12_out_0 11 rfl) (dk_g tcX12_out_1 0 rfl) (dk_g tcX12_out_1 1 rfl) rfl
theorem dX12_out_14 : decode cX12_out 14 = .ok (.if_icmp .lt 7, 3) := dk_2161 (dk_g tcX12_out_1 2 rfl) (dk_g tcX12_out_1 3 rfl) (dk_g tcX12_out_1 4 rfl) rfl rfl
theorem dX12_out_17 : decode cX12_out 17 = .ok (.iconst 5, 1) := dk_1008 (dk_g tcX12_out_1 5 rfl)
theorem dX12_out_18 : decode cX12_out 18 = .ok (.goto 4, 3) := dk_2167 (dk_g tcX12_out_1 6 rfl) (dk_g tcX12_out_1 7 rfl) (dk_g tcX12_out_1 8 rfl) rfl rfl
theorem dX12_out_21 : decode cX12_out 21 = .ok (.iconst 0, 1) := dk_1003 (dk_g tcX12_out_1 9 rfl)
theorem tcX12_out_2 : (cX12_out.data.toList.drop 24).take 12 = [53, 153, 0, 12, 42, 180, 0, 100, 27, 46, 167, 0] := by decide +kernel
theorem dX12_out_22 : decode cX12_out 22 = .ok (.invokevirtual 309, 3) := dk_1182 (dk_g tcX12_out_1 10 rfl) (dk_g tcX12_out_1 11 rfl) (dk_g tcX12_out_2 0 rfl) rfl
theorem dX12_out_25 : decode cX12_out 25 = .ok (.ifCond .eq 12, 3) := dk_2153 (dk_g tcX12_out_2 1 rfl) (dk_g tcX12_out_2 2 rfl) (dk_g tcX12_out_2 3 rfl) rfl rfl
theorem dX12_out_28 : decode cX12_out 28 = .ok (.aload_n 0, 1) := dk_1042 (dk_g tcX12_out_2 4 rfl)
theorem dX12_out_29 : decode cX12_out 29 = .ok (.getfield 100, 3) := dk_1180 (dk_g tcX12_out_2 5 rfl) (dk_g tcX12_out_2 6 rfl) (dk_g tcX12_out_2 7 rfl) rfl
theorem dX12_out_32 : decode cX12_out 32 = .ok (.iload_n 1, 1) := dk_1027 (dk_g tcX12_out_2 8 rfl)
theorem dX12_out_33 : decode cX12_out 33 = .ok (.iaload, 1) := dk_1046 (dk_g tcX12_out_2 9 rfl)
theorem tcX12_out_3 : (cX12_out.data.toList.drop 36).take 12 = [4, 2, 172] := by decide +kernel
theorem dX12_out_34 : decode cX12_out 34 = .ok (.goto 4, 3) := dk_2167 (dk_g tcX12_out_2 10 rfl) (dk_g tcX12_out_2 11 rfl) (dk_g tcX12_out_3 0 rfl) rfl rfl
theorem dX12_out_37 : decode cX12_out 37 = .ok (.iconst (-1), 1) := dk_1002 (dk_g tcX12_out_3 1 rfl)
theorem dX12_out_38 : decode cX12_out 38 = .ok (.ireturn, 1) := dk_1172 (dk_g tcX12_out_3 2 rfl)
theorem tcX12_trusted_0 : (cX12_trusted.data.toList.drop 0).take 12 = [42, 27, 155, 0, 11, 42, 28, 182, 1, 65, 154, 0] := by decide +kernel
theorem dX12_trusted_0 : decode cX12_trusted 0 = .ok (.aload_n 0, 1) := dk_1042 (dk_g tcX12_trusted_0 0 rfl)
theorem dX12_trusted_1 : decode cX12_trusted 1 = .ok (.iload_n 1, 1) := dk_1027 (dk_g tcX12_trusted_0 1 rfl)
theorem dX12_trusted_2 : decode cX12_trusted 2 = .ok (.ifCond .lt 11, 3) := dk_2155 (dk_g tcX12_trusted_0 2 rfl) (dk_g tcX12_trusted_0 3 rfl) (dk_g tcX12_trusted_0 4 rfl) rfl rfl
theorem dX12_trusted_5 : decode cX12_trusted 5 = .ok (.aload_n 0, 1) := dk_1042 (dk_g tcX12_trusted_0 5 rfl)
theorem dX12_trusted_6 : decode cX12_trusted 6 = .ok (.iload_n 2, 1) := dk_1028 (dk_g tcX12_trusted_0 6 rfl)
theorem dX12_trusted_7 : decode cX12_trusted 7 = .ok (.invokevirtual 321, 3) := dk_1182 (dk_g tcX12_trusted_0 7 rfl) (dk_g tcX12_trusted_0 8 rfl) (dk_g tcX12_trusted_0 9 rfl) rfl
theorem tcX12_trusted_1 : (cX12_trusted.data.toList.drop 12).take 12 = [7, 4, 167, 0, 4, 3, 182, 1, 53, 154, 0, 5] := by decide +kernel
theorem dX12_trusted_10 : decode cX12_trusted 10 = .ok (.ifCond .ne 7, 3) := dk_2154 (dk_g tcX12_trusted_0 10 rfl) (dk_g tcX12_trusted_0 11 rfl) (dk_g tcX12_trusted_1 0 rfl) rfl rfl
theorem dX12_trusted_13 : decode cX12_trusted 13 = .ok (.iconst 1, 1) := dk_1004 (dk_g tcX12_trusted_1 1 rfl)
theorem dX12_trusted_14 : decode cX12_trusted 14 = .ok (.goto 4, 3) := dk_2167 (dk_g tcX12_trusted_1 2 rfl) (dk_g tcX12_trusted_1 3 rfl) (dk_g tcX12_trusted_1 4 rfl) rfl rfl
theorem dX12_trusted_17 : decode cX12_trusted 17 = .ok (.iconst 0, 1) := dk_1003 (dk_g tcX12_trusted_1 5 rfl)
theorem dX12_trusted_18 : decode cX12_trusted 18 = .ok (.invokevirtual 309, 3) := dk_1182 (dk_g tcX12_trusted_1 6 rfl) (dk_g tcX12_trusted_1 7 rfl) (dk_g tcX12_trusted_1 8 rfl) rfl
theorem dX12_trusted_21 : decode cX12_trusted 21 = .ok (.ifCond .ne 5, 3) := dk_2154 (dk_g tcX12_trusted_1 9 rfl) (dk_g tcX12_trusted_1 10 rfl) (dk_g tcX12_trusted_1 11 rfl) rfl rfl
theorem tcX12_trusted_2 : (cX12_trusted.data.toList.drop 24).take 12 = [2, 172, 3, 62, 3, 54, 4, 21, 4, 7, 162, 0] := by decide +kernel
theorem dX12_trusted_24 : decode cX12_trusted 24 = .ok (.iconst (-1), 1) := dk_1002 (dk_g tcX12_trusted_2 0 rfl)
theorem dX12_trusted_25 : decode cX12_trusted 25 = .ok (.ireturn, 1) := dk_1172 (dk_g tcX12_trusted_2 1 rfl)
theorem dX12_trusted_26 : decode cX12_trusted 26 = .ok (.iconst 0, 1) := dk_1003 (dk_g tcX12_trusted_2 2 rfl)
theorem dX12_trusted_27 : decode cX12_trusted 27 = .ok (.istore_n 3, 1) := dk_1062 (dk_g tcX12_trusted_2 3 rfl)
theorem dX12_trusted_28 : decode cX12_trusted 28 = .ok (.iconst 0, 1) := dk_1003 (dk_g tcX12_trusted_2 4 rfl)
theorem dX12_trusted_29 : decode cX12_trusted 29 = .ok (.istore 4, 2) := dk_1054 (dk_g tcX12_trusted_2 5 rfl) (dk_g tcX12_trusted_2 6 rfl) rfl
theorem dX12_trusted_31 : decode cX12_trusted 31 = .ok (.iload 4, 2) := dk_1021 (dk_g tcX12_trusted_2 7 rfl) (dk_g tcX12_trusted_2 8 rfl) rfl
theorem dX12_trusted_33 : decode cX12_trusted 33 = .ok (.iconst 4, 1) := dk_1007 (dk_g tcX12_trusted_2 9 rfl)
theorem tcX12_trusted_3 : (cX12_trusted.data.toList.drop 36).take 12 = [39, 29, 42, 21, 4, 3, 182, 0, 221, 27, 160, 0] := by decide +kernel
theorem dX12_trusted_34 : decode cX12_trusted 34 = .ok (.if_icmp .ge 39, 3) := dk_2162 (dk_g tcX12_trusted_2 10 rfl) (dk_g tcX12_trusted_2 11 rfl) (dk_g tcX12_trusted_3 0 rfl) rfl rfl
theorem dX12_trusted_37 : decode cX12_trusted 37 = .ok (.iload_n 3, 1) := dk_1029 (dk_g tcX12_trusted_3 1 rfl)
theorem dX12_trusted_38 : decode cX12_trusted 38 = .ok (.aload_n 0, 1) := dk_1042 (dk_g tcX12_trusted_3 2 rfl)
theorem dX12_trusted_39 : decode cX12_trusted 39 = .ok (.iload 4, 2) := dk_1021 (dk_g tcX12_trusted_3 3 rfl) (dk_g tcX12_trusted_3 4 rfl) rfl
theorem dX12_trusted_41 : decode cX12_trusted 41 = .ok (.iconst 0, 1) := dk_1003 (dk_g tcX12_trusted_3 5 rfl)
theorem dX12_trusted_42 : decode cX12_trusted 42 = .ok (.invokevirtual 221, 3) := dk_1182 (dk_g tcX12_trusted_3 6 rfl) (dk_g tcX12_trusted_3 7 rfl) (dk_g tcX12_trusted_3 8 rfl) rfl
theorem dX12_trusted_45 : decode cX12_trusted 45 = .ok (.iload_n 1, 1) := dk_1027 (dk_g tcX12_trusted_3 9 rfl)
theorem tcX12_trusted_4 : (cX12_trusted.data.toList.drop 48).take 12 = [18, 42, 21, 4, 4, 182, 0, 221, 28, 160, 0, 7] := by decide +kernel
theorem dX12_trusted_46 : decode cX12_trusted 46 = .ok (.if_icmp .ne 18, 3) := dk_2160 (dk_g tcX12_trusted_3 10 rfl) (dk_g tcX12_trusted_3 11 rfl) (dk_g tcX12_trusted_4 0 rfl) rfl rfl
theorem dX12_trusted_49 : decode cX12_trusted 49 = .ok (.aload_n 0, 1) := dk_1042 (dk_g tcX12_trusted_4 1 rfl)
theorem dX12_trusted_50 : decode cX12_trusted 50 = .ok (.iload 4, 2) := dk_1021 (dk_g tcX12_trusted_4 2 rfl) (dk_g tcX12_trusted_4 3 rfl) rfl
theorem dX12_trusted_52 : decode cX12_trusted 52 = .ok (.iconst 1, 1) := dk_1004 (dk_g tcX12_trusted_4 4 rfl)
theorem dX12_trusted_53 : decode cX12_trusted 53 = .ok (.invokevirtual 221, 3) := dk_1182 (dk_g tcX12_trusted_4 5 rfl) (dk_g tcX12_trusted_4 6 rfl) (dk_g tcX12_trusted_4 7 rfl) rfl
theorem dX12_trusted_56 : decode cX12_trusted 56 = .ok (.iload_n 2, 1) := dk_1028 (dk_g tcX12_trusted_4 8 rfl)
theorem dX12_trusted_57 : decode cX12_trusted 57 = .ok (.if_icmp .ne 7, 3) := dk_2160 (dk_g tcX12_trusted_4 9 rfl) (dk_g tcX12_trusted_4 10 rfl) (dk_g tcX12_trusted_4 11 rfl) rfl rfl
theorem tcX12_trusted_5 : (cX12_trusted.data.toList.drop 60).take 12 = [4, 167, 0, 4, 3, 96, 62, 132, 4, 1, 167, 255] := by decide +kernel
theorem dX12_trusted_60 : decode cX12_trusted 60 = .ok (.iconst 1, 1) := dk_1004 (dk_g tcX12_trusted_5 0 rfl)
theorem dX12_trusted_61 : decode cX12_trusted 61 = .ok (.goto 4, 3) := dk_2167 (dk_g tcX12_trusted_5 1 rfl) (dk_g tcX12_trusted_5 2 rfl) (dk_g tcX12_trusted_5 3 rfl) rfl rfl
theorem dX12_trusted_64 : decode cX12_trusted 64 = .ok (.iconst 0, 1) := dk_1003 (dk_g tcX12_trusted_5 4 rfl)
theorem dX12_trusted_65 : decode cX12_trusted 65 = .ok (.iadd, 1) := dk_1096 (dk_g tcX12_trusted_5 5 rfl)
theorem dX12_trusted_66 : decode cX12_trusted 66 = .ok (.istore_n 3, 1) := dk_1062 (dk_g tcX12_trusted_5 6 rfl)
theorem dX12_trusted_67 : decode cX12_trusted 67 = .ok (.iinc 4 1, 3) := dk_1132 (dk_g tcX12_trusted_5 7 rfl) (dk_g tcX12_trusted_5 8 rfl) (dk_g tcX12_trusted_5 9 rfl) rfl (by decide +kernel)
theorem tcX12_trusted_6 : (cX12_trusted.data.toList.drop 72).take 12 = [217, 29, 172] := by decide +kernel
theorem dX12_trusted_70 : decode cX12_trusted 70 = .ok (.goto (-39), 3) := dk_1167 (dk_g tcX12_trusted_5 10 rfl) (dk_g tcX12_trusted_5 11 rfl) (dk_g tcX12_trusted_6 0 rfl) (by decide +kernel)
theorem dX12_trusted_73 : decode cX12_trusted 73 = .ok (.iload_n 3, 1) := dk_1029 (dk_g tcX12_trusted_6 1 rfl)
theorem dX12_trusted_74 : decode cX12_trusted 74 = .ok (.ireturn, 1) := dk_1172 (dk_g tcX12_trusted_6 2 rfl)
theorem tcX12_saves_0 : (cX12_saves.data.toList.drop 0).take 12 = [42, 27, 158, 0, 11, 27, 28, 184, 1, 112, 153, 0] := by decide +kernel
theorem dX12_saves_0 : decode cX12_saves 0 = .ok (.aload_n 0, 1) := dk_1042 (dk_g tcX12_saves_0 0 rfl)
theorem dX12_saves_1 : decode cX12_saves 1 = .ok (.iload_n 1, 1) := dk_1027 (dk_g tcX12_saves_0 1 rfl)
theorem dX12_saves_2 : decode cX12_saves 2 = .ok (.ifCond .le 11, 3) := dk_2158 (dk_g tcX12_saves_0 2 rfl) (dk_g tcX12_saves_0 3 rfl) (dk_g tcX12_saves_0 4 rfl) rfl rfl
theorem dX12_saves_5 : decode cX12_saves 5 = .ok (.iload_n 1, 1) := dk_1027 (dk_g tcX12_saves_0 5 rfl)
theorem dX12_saves_6 : decode cX12_saves 6 = .ok (.iload_n 2, 1) := dk_1028 (dk_g tcX12_saves_0 6 rfl)
theorem dX12_saves_7 : decode cX12_saves 7 = .ok (.invokestatic 368, 3) := dk_1184 (dk_g tcX12_saves_0 7 rfl) (dk_g tcX12_saves_0 8 rfl) (dk_g tcX12_saves_0 9 rfl) rfl
theorem tcX12_saves_1 : (cX12_saves.data.toList.drop 12).take 12 = [7, 4, 167, 0, 4, 3, 182, 1, 53, 154, 0, 5] := by decide +kernel
theorem dX12_saves_10 : decode cX12_saves 10 = .ok (.ifCond .eq 7, 3) := dk_2153 (dk_g tcX12_saves_0 10 rfl) (dk_g tcX12_saves_0 11 rfl) (dk_g tcX12_saves_1 0 rfl) rfl rfl
theorem dX12_saves_13 : decode cX12_saves 13 = .ok (.iconst 1, 1) := dk_1004 (dk_g tcX12_saves_1 1 rfl)
theorem dX12_saves_14 : decode cX12_saves 14 = .ok (.goto 4, 3) := dk_2167 (dk_g tcX12_saves_1 2 rfl) (dk_g tcX12_saves_1 3 rfl) (dk_g tcX12_saves_1 4 rfl) rfl rfl
theorem dX12_saves_17 : decode cX12_saves 17 = .ok (.iconst 0, 1) := dk_1003 (dk_g tcX12_saves_1 5 rfl)
theorem dX12_saves_18 : decode cX12_saves 18 = .ok (.invokevirtual 309, 3) := dk_1182 (dk_g tcX12_saves_1 6 rfl) (dk_g tcX12_saves_1 7 rfl) (dk_g tcX12_saves_1 8 rfl) rfl
theorem dX12_saves_21 : decode cX12_saves 21 = .ok (.ifCond .ne 5, 3) := dk_2154 (dk_g tcX12_saves_1 9 rfl) (dk_g tcX12_saves_1 10 rfl) (dk_g tcX12_saves_1 11 rfl) rfl rfl
theorem tcX12_saves_2 : (cX12_saves.data.toList.drop 24).take 12 = [2, 172, 3, 62, 3, 54, 4, 21, 4, 16, 30, 162] := by decide +kernel
theorem dX12_saves_24 : decode cX12_saves 24 = .ok (.iconst (-1), 1) := dk_1002 (dk_g tcX12_saves_2 0 rfl)
theorem dX12_saves_25 : decode cX12_saves 25 = .ok (.ireturn, 1) := dk_1172 (dk_g tcX12_saves_2 1 rfl)
theorem dX12_saves_26 : decode cX12_saves 26 = .ok (.iconst 0, 1) := dk_1003 (dk_g tcX12_saves_2 2 rfl)
theorem dX12_saves_27 : decode cX12_saves 27 = .ok (.istore_n 3, 1) := dk_1062 (dk_g tcX12_saves_2 3 rfl)
theorem dX12_saves_28 : decode cX12_saves 28 = .ok (.iconst 0, 1) := dk_1003 (dk_g tcX12_saves_2 4 rfl)
theorem dX12_saves_29 : decode cX12_saves 29 = .ok (.istore 4, 2) := dk_1054 (dk_g tcX12_saves_2 5 rfl) (dk_g tcX12_saves_2 6 rfl) rfl
theorem dX12_saves_31 : decode cX12_saves 31 = .ok (.iload 4, 2) := dk_1021 (dk_g tcX12_saves_2 7 rfl) (dk_g tcX12_saves_2 8 rfl) rfl
theorem dX12_saves_33 : decode cX12_saves 33 = .ok (.bipush 30, 2) := dk_1016 (dk_g tcX12_saves_2 9 rfl) (dk_g tcX12_saves_2 10 rfl) (by decide +kernel)
theorem tcX12_saves_3 : (cX12_saves.data.toList.drop 36).take 12 = [0, 35, 27, 21, 4, 122, 4, 126, 154, 0, 6, 167] := by decide +kernel
theorem dX12_saves_35 : decode cX12_saves 35 = .ok (.if_icmp .ge 35, 3) := dk_2162 (dk_g tcX12_saves_2 11 rfl) (dk_g tcX12_saves_3 0 rfl) (dk_g tcX12_saves_3 1 rfl) rfl rfl
theorem dX12_saves_38 : decode cX12_saves 38 = .ok (.iload_n 1, 1) := dk_1027 (dk_g tcX12_saves_3 2 rfl)
theorem dX12_saves_39 : decode cX12_saves 39 = .ok (.iload 4, 2) := dk_1021 (dk_g tcX12_saves_3 3 rfl) (dk_g tcX12_saves_3 4 rfl) rfl
theorem dX12_saves_41 : decode cX12_saves 41 = .ok (.ishr, 1) := dk_1122 (dk_g tcX12_saves_3 5 rfl)
theorem dX12_saves_42 : decode cX12_saves 42 = .ok (.iconst 1, 1) := dk_1004 (dk_g tcX12_saves_3 6 rfl)
theorem dX12_saves_43 : decode cX12_saves 43 = .ok (.iand, 1) := dk_1126 (dk_g tcX12_saves_3 7 rfl)
theorem dX12_saves_44 : decode cX12_saves 44 = .ok (.ifCond .ne 6, 3) := dk_2154 (dk_g tcX12_saves_3 8 rfl) (dk_g tcX12_saves_3 9 rfl) (dk_g tcX12_saves_3 10 rfl) rfl rfl
theorem tcX12_saves_4 : (cX12_saves.data.toList.drop 48).take 12 = [0, 17, 42, 21, 4, 28, 182, 0, 171, 29, 42, 180] := by decide +kernel
theorem dX12_saves_47 : decode cX12_saves 47 = .ok (.goto 17, 3) := dk_2167 (dk_g tcX12_saves_3 11 rfl) (dk_g tcX12_saves_4 0 rfl) (dk_g tcX12_saves_4 1 rfl) rfl rfl
theorem dX12_saves_50 : decode cX12_saves 50 = .ok (.aload_n 0, 1) := dk_1042 (dk_g tcX12_saves_4 2 rfl)
theorem dX12_saves_51 : decode cX12_saves 51 = .ok (.iload 4, 2) := dk_1021 (dk_g tcX12_saves_4 3 rfl) (dk_g tcX12_saves_4 4 rfl) rfl
theorem dX12_saves_53 : decode cX12_saves 53 = .ok (.iload_n 2, 1) := dk_1028 (dk_g tcX12_saves_4 5 rfl)
theorem dX12_saves_54 : decode cX12_saves 54 = .ok (.invokevirtual 171, 3) := dk_1182 (dk_g tcX12_saves_4 6 rfl) (dk_g tcX12_saves_4 7 rfl) (dk_g tcX12_saves_4 8 rfl) rfl
theorem dX12_saves_57 : decode cX12_saves 57 = .ok (.iload_n 3, 1) := dk_1029 (dk_g tcX12_saves_4 9 rfl)
theorem dX12_saves_58 : decode cX12_saves 58 = .ok (.aload_n 0, 1) := dk_1042 (dk_g tcX12_saves_4 10 rfl)
theorem tcX12_saves_5 : (cX12_saves.data.toList.drop 60).take 12 = [0, 139, 96, 62, 132, 4, 1, 167, 255, 220, 42, 27] := by decide +kernel
theorem dX12_saves_59 : decode cX12_saves 59 = .ok (.getfield 139, 3) := dk_1180 (dk_g tcX12_saves_4 11 rfl) (dk_g tcX12_saves_5 0 rfl) (dk_g tcX12_saves_5 1 rfl) rfl
theorem dX12_saves_62 : decode cX12_saves 62 = .ok (.iadd, 1) := dk_1096 (dk_g tcX12_saves_5 2 rfl)
theorem dX12_saves_63 : decode cX12_saves 63 = .ok (.istore_n 3, 1) := dk_1062 (dk_g tcX12_saves_5 3 rfl)
theorem dX12_saves_64 : decode cX12_saves 64 = .ok (.iinc 4 1, 3) := dk_1132 (dk_g tcX12_saves_5 4 rfl) (dk_g tcX12_saves_5 5 rfl) (dk_g tcX12_saves_5 6 rfl) rfl (by decide +kernel)
theorem dX12_saves_67 : decode cX12_saves 67 = .ok (.goto (-36), 3) := dk_1167 (dk_g tcX12_saves_5 7 rfl) (dk_g tcX12_saves_5 8 rfl) (dk_g tcX12_saves_5 9 rfl) (by decide +kernel)
theorem dX12_saves_70 : decode cX12_saves 70 = .ok (.aload_n 0, 1) := dk_1042 (dk_g tcX12_saves_5 10 rfl)
theorem dX12_saves_71 : decode cX12_saves 71 = .ok (.iload_n 1, 1) := dk_1027 (dk_g tcX12_saves_5 11 rfl)
theorem tcX12_saves_6 : (cX12_saves.data.toList.drop 72).take 12 = [28, 182, 1, 116, 29, 42, 180, 0, 139, 100, 172] := by decide +kernel
theorem dX12_saves_72 : decode cX12_saves 72 = .ok (.iload_n 2, 1) := dk_1028 (dk_g tcX12_saves_6 0 rfl)
theorem dX12_saves_73 : decode cX12_saves 73 = .ok (.invokevirtual 372, 3) := dk_1182 (dk_g tcX12_saves_6 1 rfl) (dk_g tcX12_saves_6 2 rfl) (dk_g tcX12_saves_6 3 rfl) rfl
theorem dX12_saves_76 : decode cX12_saves 76 = .ok (.iload_n 3, 1) := dk_1029 (dk_g tcX12_saves_6 4 rfl)
theorem dX12_saves_77 : decode cX12_saves 77 = .ok (.aload_n 0, 1) := dk_1042 (dk_g tcX12_saves_6 5 rfl)
theorem dX12_saves_78 : decode cX12_saves 78 = .ok (.getfield 139, 3) := dk_1180 (dk_g tcX12_saves_6 6 rfl) (dk_g tcX12_saves_6 7 rfl) (dk_g tcX12_saves_6 8 rfl) rfl
theorem dX12_saves_81 : decode cX12_saves 81 = .ok (.isub, 1) := dk_1100 (dk_g tcX12_saves_6 9 rfl)
theorem dX12_saves_82 : decode cX12_saves 82 = .ok (.ireturn, 1) := dk_1172 (dk_g tcX12_saves_6 10 rfl)
theorem tcX12_who_0 : (cX12_who.data.toList.drop 0).take 12 = [42, 27, 155, 0, 11, 42, 28, 182, 1, 65, 154, 0] := by decide +kernel
theorem dX12_who_0 : decode cX12_who 0 = .ok (.aload_n 0, 1) := dk_1042 (dk_g tcX12_who_0 0 rfl)
theorem dX12_who_1 : decode cX12_who 1 = .ok (.iload_n 1, 1) := dk_1027 (dk_g tcX12_who_0 1 rfl)
theorem dX12_who_2 : decode cX12_who 2 = .ok (.ifCond .lt 11, 3) := dk_2155 (dk_g tcX12_who_0 2 rfl) (dk_g tcX12_who_0 3 rfl) (dk_g tcX12_who_0 4 rfl) rfl rfl
theorem dX12_who_5 : decode cX12_who 5 = .ok (.aload_n 0, 1) := dk_1042 (dk_g tcX12_who_0 5 rfl)
theorem dX12_who_6 : decode cX12_who 6 = .ok (.iload_n 2, 1) := dk_1028 (dk_g tcX12_who_0 6 rfl)
theorem dX12_who_7 : decode cX12_who 7 = .ok (.invokevirtual 321, 3) := dk_1182 (dk_g tcX12_who_0 7 rfl) (dk_g tcX12_who_0 8 rfl) (dk_g tcX12_who_0 9 rfl) rfl
theorem tcX12_who_1 : (cX12_who.data.toList.drop 12).take 12 = [7, 4, 167, 0, 4, 3, 182, 1, 53, 154, 0, 5] := by decide +kernel
theorem dX12_who_10 : decode cX12_who 10 = .ok (.ifCond .ne 7, 3) := dk_2154 (dk_g tcX12_who_0 10 rfl) (dk_g tcX12_who_0 11 rfl) (dk_g tcX12_who_1 0 rfl) rfl rfl
theorem dX12_who_13 : decode cX12_who 13 = .ok (.iconst 1, 1) := dk_1004 (dk_g tcX12_who_1 1 rfl)
theorem dX12_who_14 : decode cX12_who 14 = .ok (.goto 4, 3) := dk_2167 (dk_g tcX12_who_1 2 rfl) (dk_g tcX12_who_1 3 rfl) (dk_g tcX12_who_1 4 rfl) rfl rfl
theorem dX12_who_17 : decode cX12_who 17 = .ok (.iconst 0, 1) := dk_1003 (dk_g tcX12_who_1 5 rfl)
theorem dX12_who_18 : decode cX12_who 18 = .ok (.invokevirtual 309, 3) := dk_1182 (dk_g tcX12_who_1 6 rfl) (dk_g tcX12_who_1 7 rfl) (dk_g tcX12_who_1 8 rfl) rfl
theorem dX12_who_21 : decode cX12_who 21 = .ok (.ifCond .ne 5, 3) := dk_2154 (dk_g tcX12_who_1 9 rfl) (dk_g tcX12_who_1 10 rfl) (dk_g tcX12_who_1 11 rfl) rfl rfl
theorem tcX12_who_2 : (cX12_who.data.toList.drop 24).take 12 = [2, 172, 3, 62, 3, 54, 4, 21, 4, 42, 180, 0] := by decide +kernel
theorem dX12_who_24 : decode cX12_who 24 = .ok (.iconst (-1), 1) := dk_1002 (dk_g tcX12_who_2 0 rfl)
theorem dX12_who_25 : decode cX12_who 25 = .ok (.ireturn, 1) := dk_1172 (dk_g tcX12_who_2 1 rfl)
theorem dX12_who_26 : decode cX12_who 26 = .ok (.iconst 0, 1) := dk_1003 (dk_g tcX12_who_2 2 rfl)
theorem dX12_who_27 : decode cX12_who 27 = .ok (.istore_n 3, 1) := dk_1062 (dk_g tcX12_who_2 3 rfl)
theorem dX12_who_28 : decode cX12_who 28 = .ok (.iconst 0, 1) := dk_1003 (dk_g tcX12_who_2 4 rfl)
theorem dX12_who_29 : decode cX12_who 29 = .ok (.istore 4, 2) := dk_1054 (dk_g tcX12_who_2 5 rfl) (dk_g tcX12_who_2 6 rfl) rfl
theorem dX12_who_31 : decode cX12_who 31 = .ok (.iload 4, 2) := dk_1021 (dk_g tcX12_who_2 7 rfl) (dk_g tcX12_who_2 8 rfl) rfl
theorem dX12_who_33 : decode cX12_who 33 = .ok (.aload_n 0, 1) := dk_1042 (dk_g tcX12_who_2 9 rfl)
theorem tcX12_who_3 : (cX12_who.data.toList.drop 36).take 12 = [7, 3, 46, 162, 0, 31, 29, 42, 21, 4, 27, 28] := by decide +kernel
theorem dX12_who_34 : decode cX12_who 34 = .ok (.getfield 7, 3) := dk_1180 (dk_g tcX12_who_2 10 rfl) (dk_g tcX12_who_2 11 rfl) (dk_g tcX12_who_3 0 rfl) rfl
theorem dX12_who_37 : decode cX12_who 37 = .ok (.iconst 0, 1) := dk_1003 (dk_g tcX12_who_3 1 rfl)
theorem dX12_who_38 : decode cX12_who 38 = .ok (.iaload, 1) := dk_1046 (dk_g tcX12_who_3 2 rfl)
theorem dX12_who_39 : decode cX12_who 39 = .ok (.if_icmp .ge 31, 3) := dk_2162 (dk_g tcX12_who_3 3 rfl) (dk_g tcX12_who_3 4 rfl) (dk_g tcX12_who_3 5 rfl) rfl rfl
theorem dX12_who_42 : decode cX12_who 42 = .ok (.iload_n 3, 1) := dk_1029 (dk_g tcX12_who_3 6 rfl)
theorem dX12_who_43 : decode cX12_who 43 = .ok (.aload_n 0, 1) := dk_1042 (dk_g tcX12_who_3 7 rfl)
theorem dX12_who_44 : decode cX12_who 44 = .ok (.iload 4, 2) := dk_1021 (dk_g tcX12_who_3 8 rfl) (dk_g tcX12_who_3 9 rfl) rfl
theorem dX12_who_46 : decode cX12_who 46 = .ok (.iload_n 1, 1) := dk_1027 (dk_g tcX12_who_3 10 rfl)
theorem dX12_who_47 : decode cX12_who 47 = .ok (.iload_n 2, 1) := dk_1028 (dk_g tcX12_who_3 11 rfl)
theorem tcX12_who_4 : (cX12_who.data.toList.drop 48).take 12 = [182, 1, 131, 153, 0, 10, 4, 21, 4, 120, 167, 0] := by decide +kernel
theorem dX12_who_48 : decode cX12_who 48 = .ok (.invokevirtual 387, 3) := dk_1182 (dk_g tcX12_who_4 0 rfl) (dk_g tcX12_who_4 1 rfl) (dk_g tcX12_who_4 2 rfl) rfl
theorem dX12_who_51 : decode cX12_who 51 = .ok (.ifCond .eq 10, 3) := dk_2153 (dk_g tcX12_who_4 3 rfl) (dk_g tcX12_who_4 4 rfl) (dk_g tcX12_who_4 5 rfl) rfl rfl
theorem dX12_who_54 : decode cX12_who 54 = .ok (.iconst 1, 1) := dk_1004 (dk_g tcX12_who_4 6 rfl)
theorem dX12_who_55 : decode cX12_who 55 = .ok (.iload 4, 2) := dk_1021 (dk_g tcX12_who_4 7 rfl) (dk_g tcX12_who_4 8 rfl) rfl
theorem dX12_who_57 : decode cX12_who 57 = .ok (.ishl, 1) := dk_1120 (dk_g tcX12_who_4 9 rfl)
theorem tcX12_who_5 : (cX12_who.data.toList.drop 60).take 12 = [4, 3, 128, 62, 132, 4, 1, 167, 255, 220, 29, 172] := by decide +kernel
theorem dX12_who_58 : decode cX12_who 58 = .ok (.goto 4, 3) := dk_2167 (dk_g tcX12_who_4 10 rfl) (dk_g tcX12_who_4 11 rfl) (dk_g tcX12_who_5 0 rfl) rfl rfl
theorem dX12_who_61 : decode cX12_who 61 = .ok (.iconst 0, 1) := dk_1003 (dk_g tcX12_who_5 1 rfl)
theorem dX12_who_62 : decode cX12_who 62 = .ok (.ior, 1) := dk_1128 (dk_g tcX12_who_5 2 rfl)
theorem dX12_who_63 : decode cX12_who 63 = .ok (.istore_n 3, 1) := dk_1062 (dk_g tcX12_who_5 3 rfl)
theorem dX12_who_64 : decode cX12_who 64 = .ok (.iinc 4 1, 3) := dk_1132 (dk_g tcX12_who_5 4 rfl) (dk_g tcX12_who_5 5 rfl) (dk_g tcX12_who_5 6 rfl) rfl (by decide +kernel)
theorem dX12_who_67 : decode cX12_who 67 = .ok (.goto (-36), 3) := dk_1167 (dk_g tcX12_who_5 7 rfl) (dk_g tcX12_who_5 8 rfl) (dk_g tcX12_who_5 9 rfl) (by decide +kernel)
theorem dX12_who_70 : decode cX12_who 70 = .ok (.iload_n 3, 1) := dk_1029 (dk_g tcX12_who_5 10 rfl)
theorem dX12_who_71 : decode cX12_who 71 = .ok (.ireturn, 1) := dk_1172 (dk_g tcX12_who_5 11 rfl)
