theorem tcX11_init_0 : (cX11_init.data.toList.drop 0).take 12 = [42, 183, 0, 1, 42, 3, 181, 0, 9, 42, 187, 0] := by decide +kernel
theorem dX11_init_0 : decode cX11_init 0 = .ok (.aload_n 0, 1) := dk_1042 (dk_g tcX11_init_0 0 rfl)
theorem dX11_init_1 : decode cX11_init 1 = .ok (.invokespecial 1, 3) := dk_1183 (dk_g tcX11_init_0 1 rfl) (dk_g tcX11_init_0 2 rfl) (dk_g tcX11_init_0 3 rfl) rfl
theorem dX11_init_4 : decode cX11_init 4 = .ok (.aload_n 0, 1) := dk_1042 (dk_g tcX11_init_0 4 rfl)
theorem dX11_init_5 : decode cX11_init 5 = .ok (.iconst 0, 1) := dk_1003 (dk_g tcX11_init_0 5 rfl)
theorem dX11_init_6 : decode cX11_init 6 = .ok (.putfield 9, 3) := dk_1181 (dk_g tcX11_init_0 6 rfl) (dk_g tcX11_init_0 7 rfl) (dk_g tcX11_init_0 8 rfl) rfl
theorem dX11_init_9 : decode cX11_init 9 = .ok (.aload_n 0, 1) := dk_1042 (dk_g tcX11_init_0 9 rfl)
theorem tcX11_init_1 : (cX11_init.data.toList.drop 12).take 12 = [13, 89, 183, 0, 15, 181, 0, 16, 42, 187, 0, 13] := by decide +kernel
theorem dX11_init_10 : decode cX11_init 10 = .ok (.new 13, 3) := dk_1187 (dk_g tcX11_init_0 10 rfl) (dk_g tcX11_init_0 11 rfl) (dk_g tcX11_init_1 0 rfl) rfl
theorem dX11_init_13 : decode cX11_init 13 = .ok (.dup, 1) := dk_1089 (dk_g tcX11_init_1 1 rfl)
theorem dX11_init_14 : decode cX11_init 14 = .ok (.invokespecial 15, 3) := dk_1183 (dk_g tcX11_init_1 2 rfl) (dk_g tcX11_init_1 3 rfl) (dk_g tcX11_init_1 4 rfl) rfl
theorem dX11_init_17 : decode cX11_init 17 = .ok (.putfield 16, 3) := dk_1181 (dk_g tcX11_init_1 5 rfl) (dk_g tcX11_init_1 6 rfl) (dk_g tcX11_init_1 7 rfl) rfl
theorem dX11_init_20 : decode cX11_init 20 = .ok (.aload_n 0, 1) := dk_1042 (dk_g tcX11_init_1 8 rfl)
theorem dX11_init_21 : decode cX11_init 21 = .ok (.new 13, 3) := dk_1187 (dk_g tcX11_init_1 9 rfl) (dk_g tcX11_init_1 10 rfl) (dk_g tcX11_init_1 11 rfl) rfl
theorem tcX11_init_2 : (cX11_init.data.toList.drop 24).take 12 = [89, 183, 0, 15, 181, 0, 20, 42, 187, 0, 23, 89] := by decide +kernel
theorem dX11_init_24 : decode cX11_init 24 = .ok (.dup, 1) := dk_1089 (dk_g tcX11_init_2 0 rfl)
theorem dX11_init_25 : decode cX11_init 25 = .ok (.invokespecial 15, 3) := dk_1183 (dk_g tcX11_init_2 1 rfl) (dk_g tcX11_init_2 2 rfl) (dk_g tcX11_init_2 3 rfl) rfl
theorem dX11_init_28 : decode cX11_init 28 = .ok (.putfield 20, 3) := dk_1181 (dk_g tcX11_init_2 4 rfl) (dk_g tcX11_init_2 5 rfl) (dk_g tcX11_init_2 6 rfl) rfl
theorem dX11_init_31 : decode cX11_init 31 = .ok (.aload_n 0, 1) := dk_1042 (dk_g tcX11_init_2 7 rfl)
theorem dX11_init_32 : decode cX11_init 32 = .ok (.new 23, 3) := dk_1187 (dk_g tcX11_init_2 8 rfl) (dk_g tcX11_init_2 9 rfl) (dk_g tcX11_init_2 10 rfl) rfl
theorem dX11_init_35 : decode cX11_init 35 = .ok (.dup, 1) := dk_1089 (dk_g tcX11_init_2 11 rfl)
theorem tcX11_init_3 : (cX11_init.data.toList.drop 36).take 12 = [183, 0, 25, 181, 0, 26, 42, 17, 3, 132, 188, 8] := by decide +kernel
theorem dX11_init_36 : decode cX11_init 36 = .ok (.invokespecial 25, 3) := dk_1183 (dk_g tcX11_init_3 0 rfl) (dk_g tcX11_init_3 1 rfl) (dk_g tcX11_init_3 2 rfl) rfl
theorem dX11_init_39 : decode cX11_init 39 = .ok (.putfield 26, 3) := dk_1181 (dk_g tcX11_init_3 3 rfl) (dk_g tcX11_init_3 4 rfl) (dk_g tcX11_init_3 5 rfl) rfl
theorem dX11_init_42 : decode cX11_init 42 = .ok (.aload_n 0, 1) := dk_1042 (dk_g tcX11_init_3 6 rfl)
theorem dX11_init_43 : decode cX11_init 43 = .ok (.sipush 900, 3) := dk_2017 (dk_g tcX11_init_3 7 rfl) (dk_g tcX11_init_3 8 rfl) (dk_g tcX11_init_3 9 rfl) rfl rfl
theorem dX11_init_46 : decode cX11_init 46 = .ok (.newarray .byte, 2) := dk_1188_8 (dk_g tcX11_init_3 10 rfl) (dk_g tcX11_init_3 11 rfl)
theorem tcX11_init_4 : (cX11_init.data.toList.drop 48).take 12 = [181, 0, 30, 42, 3, 181, 0, 34, 42, 187, 0, 37] := by decide +kernel
theorem dX11_init_48 : decode cX11_init 48 = .ok (.putfield 30, 3) := dk_1181 (dk_g tcX11_init_4 0 rfl) (dk_g tcX11_init_4 1 rfl) (dk_g tcX11_init_4 2 rfl) rfl
theorem dX11_init_51 : decode cX11_init 51 = .ok (.aload_n 0, 1) := dk_1042 (dk_g tcX11_init_4 3 rfl)
theorem dX11_init_52 : decode cX11_init 52 = .ok (.iconst 0, 1) := dk_1003 (dk_g tcX11_init_4 4 rfl)
theorem dX11_init_53 : decode cX11_init 53 = .ok (.putfield 34, 3) := dk_1181 (dk_g tcX11_init_4 5 rfl) (dk_g tcX11_init_4 6 rfl) (dk_g tcX11_init_4 7 rfl) rfl
theorem dX11_init_56 : decode cX11_init 56 = .ok (.aload_n 0, 1) := dk_1042 (dk_g tcX11_init_4 8 rfl)
theorem dX11_init_57 : decode cX11_init 57 = .ok (.new 37, 3) := dk_1187 (dk_g tcX11_init_4 9 rfl) (dk_g tcX11_init_4 10 rfl) (dk_g tcX11_init_4 11 rfl) rfl
theorem tcX11_init_5 : (cX11_init.data.toList.drop 60).take 12 = [89, 183, 0, 39, 181, 0, 40, 42, 187, 0, 37, 89] := by decide +kernel
theorem dX11_init_60 : decode cX11_init 60 = .ok (.dup, 1) := dk_1089 (dk_g tcX11_init_5 0 rfl)
theorem dX11_init_61 : decode cX11_init 61 = .ok (.invokespecial 39, 3) := dk_1183 (dk_g tcX11_init_5 1 rfl) (dk_g tcX11_init_5 2 rfl) (dk_g tcX11_init_5 3 rfl) rfl
theorem dX11_init_64 : decode cX11_init 64 = .ok (.putfield 40, 3) := dk_1181 (dk_g tcX11_init_5 4 rfl) (dk_g tcX11_init_5 5 rfl) (dk_g tcX11_init_5 6 rfl) rfl
theorem dX11_init_67 : decode cX11_init 67 = .ok (.aload_n 0, 1) := dk_1042 (dk_g tcX11_init_5 7 rfl)
theorem dX11_init_68 : decode cX11_init 68 = .ok (.new 37, 3) := dk_1187 (dk_g tcX11_init_5 8 rfl) (dk_g tcX11_init_5 9 rfl) (dk_g tcX11_init_5 10 rfl) rfl
theorem dX11_init_71 : decode cX11_init 71 = .ok (.dup, 1) := dk_1089 (dk_g tcX11_init_5 11 rfl)
theorem tcX11_init_6 : (cX11_init.data.toList.drop 72).take 12 = [183, 0, 39, 181, 0, 44, 42, 187, 0, 23, 89, 183] := by decide +kernel
theorem dX11_init_72 : decode cX11_init 72 = .ok (.invokespecial 39, 3) := dk_1183 (dk_g tcX11_init_6 0 rfl) (dk_g tcX11_init_6 1 rfl) (dk_g tcX11_init_6 2 rfl) rfl
theorem dX11_init_75 : decode cX11_init 75 = .ok (.putfield 44, 3) := dk_1181 (dk_g tcX11_init_6 3 rfl) (dk_g tcX11_init_6 4 rfl) (dk_g tcX11_init_6 5 rfl) rfl
theorem dX11_init_78 : decode cX11_init 78 = .ok (.aload_n 0, 1) := dk_1042 (dk_g tcX11_init_6 6 rfl)
theorem dX11_init_79 : decode cX11_init 79 = .ok (.new 23, 3) := dk_1187 (dk_g tcX11_init_6 7 rfl) (dk_g tcX11_init_6 8 rfl) (dk_g tcX11_init_6 9 rfl) rfl
theorem dX11_init_82 : decode cX11_init 82 = .ok (.dup, 1) := dk_1089 (dk_g tcX11_init_6 10 rfl)
theorem tcX11_init_7 : (cX11_init.data.toList.drop 84).take 12 = [0, 25, 181, 0, 47, 42, 187, 0, 23, 89, 183, 0] := by decide +kernel
theorem dX11_init_83 : decode cX11_init 83 = .ok (.invokespecial 25, 3) := dk_1183 (dk_g tcX11_init_6 11 rfl) (dk_g tcX11_init_7 0 rfl) (dk_g tcX11_init_7 1 rfl) rfl
theorem dX11_init_86 : decode cX11_init 86 = .ok (.putfield 47, 3) := dk_1181 (dk_g tcX11_init_7 2 rfl) (dk_g tcX11_init_7 3 rfl) (dk_g tcX11_init_7 4 rfl) rfl
theorem dX11_init_89 : decode cX11_init 89 = .ok (.aload_n 0, 1) := dk_1042 (dk_g tcX11_init_7 5 rfl)
theorem dX11_init_90 : decode cX11_init 90 = .ok (.new 23, 3) := dk_1187 (dk_g tcX11_init_7 6 rfl) (dk_g tcX11_init_7 7 rfl) (dk_g tcX11_init_7 8 rfl) rfl
theorem dX11_init_93 : decode cX11_init 93 = .ok (.dup, 1) := dk_1089 (dk_g tcX11_init_7 9 rfl)
theorem tcX11_init_8 : (cX11_init.data.toList.drop 96).take 12 = [25, 181, 0, 50, 42, 17, 1, 0, 188, 8, 181, 0] := by decide +kernel
theorem dX11_init_94 : decode cX11_init 94 = .ok (.invokespecial 25, 3) := dk_1183 (dk_g tcX11_init_7 10 rfl) (dk_g tcX11_init_7 11 rfl) (dk_g tcX11_init_8 0 rfl) rfl
theorem dX11_init_97 : decode cX11_init 97 = .ok (.putfield 50, 3) := dk_1181 (dk_g tcX11_init_8 1 rfl) (dk_g tcX11_init_8 2 rfl) (dk_g tcX11_init_8 3 rfl) rfl
theorem dX11_init_100 : decode cX11_init 100 = .ok (.aload_n 0, 1) := dk_1042 (dk_g tcX11_init_8 4 rfl)
theorem dX11_init_101 : decode cX11_init 101 = .ok (.sipush 256, 3) := dk_2017 (dk_g tcX11_init_8 5 rfl) (dk_g tcX11_init_8 6 rfl) (dk_g tcX11_init_8 7 rfl) rfl rfl
theorem dX11_init_104 : decode cX11_init 104 = .ok (.newarray .byte, 2) := dk_1188_8 (dk_g tcX11_init_8 8 rfl) (dk_g tcX11_init_8 9 rfl)
theorem tcX11_init_9 : (cX11_init.data.toList.drop 108).take 12 = [53, 42, 3, 181, 0, 56, 42, 187, 0, 59, 89, 183] := by decide +kernel
theorem dX11_init_106 : decode cX11_init 106 = .ok (.putfield 53, 3) := dk_1181 (dk_g tcX11_init_8 10 rfl) (dk_g tcX11_init_8 11 rfl) (dk_g tcX11_init_9 0 rfl) rfl
theorem dX11_init_109 : decode cX11_init 109 = .ok (.aload_n 0, 1) := dk_1042 (dk_g tcX11_init_9 1 rfl)
theorem dX11_init_110 : decode cX11_init 110 = .ok (.iconst 0, 1) := dk_1003 (dk_g tcX11_init_9 2 rfl)
theorem dX11_init_111 : decode cX11_init 111 = .ok (.putfield 56, 3) := dk_1181 (dk_g tcX11_init_9 3 rfl) (dk_g tcX11_init_9 4 rfl) (dk_g tcX11_init_9 5 rfl) rfl
theorem dX11_init_114 : decode cX11_init 114 = .ok (.aload_n 0, 1) := dk_1042 (dk_g tcX11_init_9 6 rfl)
theorem dX11_init_115 : decode cX11_init 115 = .ok (.new 59, 3) := dk_1187 (dk_g tcX11_init_9 7 rfl) (dk_g tcX11_init_9 8 rfl) (dk_g tcX11_init_9 9 rfl) rfl
theorem dX11_init_118 : decode cX11_init 118 = .ok (.dup, 1) := dk_1089 (dk_g tcX11_init_9 10 rfl)
theorem tcX11_init_10 : (cX11_init.data.toList.drop 120).take 12 = [0, 61, 181, 0, 62, 42, 187, 0, 59, 89, 183, 0] := by decide +kernel
theorem dX11_init_119 : decode cX11_init 119 = .ok (.invokespecial 61, 3) := dk_1183 (dk_g tcX11_init_9 11 rfl) (dk_g tcX11_init_10 0 rfl) (dk_g tcX11_init_10 1 rfl) rfl
theorem dX11_init_122 : decode cX11_init 122 = .ok (.putfield 62, 3) := dk_1181 (dk_g tcX11_init_10 2 rfl) (dk_g tcX11_init_10 3 rfl) (dk_g tcX11_init_10 4 rfl) rfl
theorem dX11_init_125 : decode cX11_init 125 = .ok (.aload_n 0, 1) := dk_1042 (dk_g tcX11_init_10 5 rfl)
theorem dX11_init_126 : decode cX11_init 126 = .ok (.new 59, 3) := dk_1187 (dk_g tcX11_init_10 6 rfl) (dk_g tcX11_init_10 7 rfl) (dk_g tcX11_init_10 8 rfl) rfl
theorem dX11_init_129 : decode cX11_init 129 = .ok (.dup, 1) := dk_1089 (dk_g tcX11_init_10 9 rfl)
theorem tcX11_init_11 : (cX11_init.data.toList.drop 132).take 12 = [61, 181, 0, 66, 42, 187, 0, 23, 89, 183, 0, 25] := by decide +kernel
theorem dX11_init_130 : decode cX11_init 130 = .ok (.invokespecial 61, 3) := dk_1183 (dk_g tcX11_init_10 10 rfl) (dk_g tcX11_init_10 11 rfl) (dk_g tcX11_init_11 0 rfl) rfl
theorem dX11_init_133 : decode cX11_init 133 = .ok (.putfield 66, 3) := dk_1181 (dk_g tcX11_init_11 1 rfl) (dk_g tcX11_init_11 2 rfl) (dk_g tcX11_init_11 3 rfl) rfl
theorem dX11_init_136 : decode cX11_init 136 = .ok (.aload_n 0, 1) := dk_1042 (dk_g tcX11_init_11 4 rfl)
theorem dX11_init_137 : decode cX11_init 137 = .ok (.new 23, 3) := dk_1187 (dk_g tcX11_init_11 5 rfl) (dk_g tcX11_init_11 6 rfl) (dk_g tcX11_init_11 7 rfl) rfl
theorem dX11_init_140 : decode cX11_init 140 = .ok (.dup, 1) := dk_1089 (dk_g tcX11_init_11 8 rfl)
theorem dX11_init_141 : decode cX11_init 141 = .ok (.invokespecial 25, 3) := dk_1183 (dk_g tcX11_init_11 9 rfl) (dk_g tcX11_init_11 10 rfl) (dk_g tcX11_init_11 11 rfl) rfl
theorem tcX11_init_12 : (cX11_init.data.toList.drop 144).take 12 = [181, 0, 69, 42, 187, 0, 72, 89, 183, 0, 74, 181] := by decide +kernel
theorem dX11_init_144 : decode cX11_init 144 = .ok (.putfield 69, 3) := dk_1181 (dk_g tcX11_init_12 0 rfl) (dk_g tcX11_init_12 1 rfl) (dk_g tcX11_init_12 2 rfl) rfl
theorem dX11_init_147 : decode cX11_init 147 = .ok (.aload_n 0, 1) := dk_1042 (dk_g tcX11_init_12 3 rfl)
theorem dX11_init_148 : decode cX11_init 148 = .ok (.new 72, 3) := dk_1187 (dk_g tcX11_init_12 4 rfl) (dk_g tcX11_init_12 5 rfl) (dk_g tcX11_init_12 6 rfl) rfl
theorem dX11_init_151 : decode cX11_init 151 = .ok (.dup, 1) := dk_1089 (dk_g tcX11_init_12 7 rfl)
theorem dX11_init_152 : decode cX11_init 152 = .ok (.invokespecial 74, 3) := dk_1183 (dk_g tcX11_init_12 8 rfl) (dk_g tcX11_init_12 9 rfl) (dk_g tcX11_init_12 10 rfl) rfl
theorem tcX11_init_13 : (cX11_init.data.toList.drop 156).take 12 = [0, 75, 42, 187, 0, 79, 89, 183, 0, 81, 181, 0] := by decide +kernel
theorem dX11_init_155 : decode cX11_init 155 = .ok (.putfield 75, 3) := dk_1181 (dk_g tcX11_init_12 11 rfl) (dk_g tcX11_init_13 0 rfl) (dk_g tcX11_init_13 1 rfl) rfl
theorem dX11_init_158 : decode cX11_init 158 = .ok (.aload_n 0, 1) := dk_1042 (dk_g tcX11_init_13 2 rfl)
theorem dX11_init_159 : decode cX11_init 159 = .ok (.new 79, 3) := dk_1187 (dk_g tcX11_init_13 3 rfl) (dk_g tcX11_init_13 4 rfl) (dk_g tcX11_init_13 5 rfl) rfl
theorem dX11_init_162 : decode cX11_init 162 = .ok (.dup, 1) := dk_1089 (dk_g tcX11_init_13 6 rfl)
theorem dX11_init_163 : decode cX11_init 163 = .ok (.invokespecial 81, 3) := dk_1183 (dk_g tcX11_init_13 7 rfl) (dk_g tcX11_init_13 8 rfl) (dk_g tcX11_init_13 9 rfl) rfl
theorem tcX11_init_14 : (cX11_init.data.toList.drop 168).take 12 = [82, 42, 17, 1, 0, 188, 10, 181, 0, 86, 42, 1] := by decide +kernel
theorem dX11_init_166 : decode cX11_init 166 = .ok (.putfield 82, 3) := dk_1181 (dk_g tcX11_init_13 10 rfl) (dk_g tcX11_init_13 11 rfl) (dk_g tcX11_init_14 0 rfl) rfl
theorem dX11_init_169 : decode cX11_init 169 = .ok (.aload_n 0, 1) := dk_1042 (dk_g tcX11_init_14 1 rfl)
theorem dX11_init_170 : decode cX11_init 170 = .ok (.sipush 256, 3) := dk_2017 (dk_g tcX11_init_14 2 rfl) (dk_g tcX11_init_14 3 rfl) (dk_g tcX11_init_14 4 rfl) rfl rfl
theorem dX11_init_173 : decode cX11_init 173 = .ok (.newarray .int, 2) := dk_1188_10 (dk_g tcX11_init_14 5 rfl) (dk_g tcX11_init_14 6 rfl)
theorem dX11_init_175 : decode cX11_init 175 = .ok (.putfield 86, 3) := dk_1181 (dk_g tcX11_init_14 7 rfl) (dk_g tcX11_init_14 8 rfl) (dk_g tcX11_init_14 9 rfl) rfl
theorem dX11_init_178 : decode cX11_init 178 = .ok (.aload_n 0, 1) := dk_1042 (dk_g tcX11_init_14 10 rfl)
theorem dX11_init_179 : decode cX11_init 179 = .ok (.aconst_null, 1) := dk_1001 (dk_g tcX11_init_14 11 rfl)
theorem tcX11_init_15 : (cX11_init.data.toList.drop 180).take 12 = [181, 0, 90, 177] := by decide +kernel
theorem dX11_init_180 : decode cX11_init 180 = .ok (.putfield 90, 3) := dk_1181 (dk_g tcX11_init_15 0 rfl) (dk_g tcX11_init_15 1 rfl) (dk_g tcX11_init_15 2 rfl) rfl
theorem dX11_init_183 : decode cX11_init 183 = .ok (.return_, 1) := dk_1177 (dk_g tcX11_init_15 3 rfl)
theorem tcX11_status_0 : (cX11_status.data.toList.drop 0).take 12 = [42, 180, 0, 9, 172] := by decide +kernel
theorem dX11_status_0 : decode cX11_status 0 = .ok (.aload_n 0, 1) := dk_1042 (dk_g tcX11_status_0 0 rfl)
theorem dX11_status_1 : decode cX11_status 1 = .ok (.getfield 9, 3) := dk_1180 (dk_g tcX11_status_0 1 rfl) (dk_g tcX11_status_0 2 rfl) (dk_g tcX11_status_0 3 rfl) rfl
theorem dX11_status_4 : decode cX11_status 4 = .ok (.ireturn, 1) := dk_1172 (dk_g tcX11_status_0 4 rfl)
theorem tcX11_feed_0 : (cX11_feed.data.toList.drop 0).take 12 = [42, 180, 0, 34, 16, 20, 96, 17, 3, 132, 164, 0] := by decide +kernel
theorem dX11_feed_0 : decode cX11_feed 0 = .ok (.aload_n 0, 1) := dk_1042 (dk_g tcX11_feed_0 0 rfl)
theorem dX11_feed_1 : decode cX11_feed 1 = .ok (.getfield 34, 3) := dk_1180 (dk_g tcX11_feed_0 1 rfl) (dk_g tcX11_feed_0 2 rfl) (dk_g tcX11_feed_0 3 rfl) rfl
theorem dX11_feed_4 : decode cX11_feed 4 = .ok (.bipush 20, 2) := dk_1016 (dk_g tcX11_feed_0 4 rfl) (dk_g tcX11_feed_0 5 rfl) (by decide +kernel)
theorem dX11_feed_6 : decode cX11_feed 6 = .ok (.iadd, 1) := dk_1096 (dk_g tcX11_feed_0 6 rfl)
theorem dX11_feed_7 : decode cX11_feed 7 = .ok (.sipush 900, 3) := dk_2017 (dk_g tcX11_feed_0 7 rfl) (dk_g tcX11_feed_0 8 rfl) (dk_g tcX11_feed_0 9 rfl) rfl rfl
theorem tcX11_feed_1 : (cX11_feed.data.toList.drop 12).take 12 = [5, 2, 172, 42, 27, 182, 0, 94, 42, 28, 182, 0] := by decide +kernel
theorem dX11_feed_10 : decode cX11_feed 10 = .ok (.if_icmp .le 5, 3) := dk_2164 (dk_g tcX11_feed_0 10 rfl) (dk_g tcX11_feed_0 11 rfl) (dk_g tcX11_feed_1 0 rfl) rfl rfl
theorem dX11_feed_13 : decode cX11_feed 13 = .ok (.iconst (-1), 1) := dk_1002 (dk_g tcX11_feed_1 1 rfl)
theorem dX11_feed_14 : decode cX11_feed 14 = .ok (.ireturn, 1) := dk_1172 (dk_g tcX11_feed_1 2 rfl)
theorem dX11_feed_15 : decode cX11_feed 15 = .ok (.aload_n 0, 1) := dk_1042 (dk_g tcX11_feed_1 3 rfl)
theorem dX11_feed_16 : decode cX11_feed 16 = .ok (.iload_n 1, 1) := dk_1027 (dk_g tcX11_feed_1 4 rfl)
theorem dX11_feed_17 : decode cX11_feed 17 = .ok (.invokevirtual 94, 3) := dk_1182 (dk_g tcX11_feed_1 5 rfl) (dk_g tcX11_feed_1 6 rfl) (dk_g tcX11_feed_1 7 rfl) rfl
theorem dX11_feed_20 : decode cX11_feed 20 = .ok (.aload_n 0, 1) := dk_1042 (dk_g tcX11_feed_1 8 rfl)
theorem dX11_feed_21 : decode cX11_feed 21 = .ok (.iload_n 2, 1) := dk_1028 (dk_g tcX11_feed_1 9 rfl)
theorem tcX11_feed_2 : (cX11_feed.data.toList.drop 24).take 12 = [94, 42, 29, 182, 0, 94, 42, 21, 4, 182, 0, 94] := by decide +kernel
theorem dX11_feed_22 : decode cX11_feed 22 = .ok (.invokevirtual 94, 3) := dk_1182 (dk_g tcX11_feed_1 10 rfl) (dk_g tcX11_feed_1 11 rfl) (dk_g tcX11_feed_2 0 rfl) rfl
theorem dX11_feed_25 : decode cX11_feed 25 = .ok (.aload_n 0, 1) := dk_1042 (dk_g tcX11_feed_2 1 rfl)
theorem dX11_feed_26 : decode cX11_feed 26 = .ok (.iload_n 3, 1) := dk_1029 (dk_g tcX11_feed_2 2 rfl)
theorem dX11_feed_27 : decode cX11_feed 27 = .ok (.invokevirtual 94, 3) := dk_1182 (dk_g tcX11_feed_2 3 rfl) (dk_g tcX11_feed_2 4 rfl) (dk_g tcX11_feed_2 5 rfl) rfl
theorem dX11_feed_30 : decode cX11_feed 30 = .ok (.aload_n 0, 1) := dk_1042 (dk_g tcX11_feed_2 6 rfl)
theorem dX11_feed_31 : decode cX11_feed 31 = .ok (.iload 4, 2) := dk_1021 (dk_g tcX11_feed_2 7 rfl) (dk_g tcX11_feed_2 8 rfl) rfl
theorem dX11_feed_33 : decode cX11_feed 33 = .ok (.invokevirtual 94, 3) := dk_1182 (dk_g tcX11_feed_2 9 rfl) (dk_g tcX11_feed_2 10 rfl) (dk_g tcX11_feed_2 11 rfl) rfl
theorem tcX11_feed_3 : (cX11_feed.data.toList.drop 36).take 12 = [42, 21, 5, 182, 0, 94, 42, 180, 0, 34, 172] := by decide +kernel
theorem dX11_feed_36 : decode cX11_feed 36 = .ok (.aload_n 0, 1) := dk_1042 (dk_g tcX11_feed_3 0 rfl)
theorem dX11_feed_37 : decode cX11_feed 37 = .ok (.iload 5, 2) := dk_1021 (dk_g tcX11_feed_3 1 rfl) (dk_g tcX11_feed_3 2 rfl) rfl
theorem dX11_feed_39 : decode cX11_feed 39 = .ok (.invokevirtual 94, 3) := dk_1182 (dk_g tcX11_feed_3 3 rfl) (dk_g tcX11_feed_3 4 rfl) (dk_g tcX11_feed_3 5 rfl) rfl
theorem dX11_feed_42 : decode cX11_feed 42 = .ok (.aload_n 0, 1) := dk_1042 (dk_g tcX11_feed_3 6 rfl)
theorem dX11_feed_43 : decode cX11_feed 43 = .ok (.getfield 34, 3) := dk_1180 (dk_g tcX11_feed_3 7 rfl) (dk_g tcX11_feed_3 8 rfl) (dk_g tcX11_feed_3 9 rfl) rfl
theorem dX11_feed_46 : decode cX11_feed 46 = .ok (.ireturn, 1) := dk_1172 (dk_g tcX11_feed_3 10 rfl)
theorem tcX11_load_0 : (cX11_load.data.toList.drop 0).take 12 = [27, 155, 0, 11, 27, 42, 180, 0, 34, 164, 0, 9] := by decide +kernel
theorem dX11_load_0 : decode cX11_load 0 = .ok (.iload_n 1, 1) := dk_1027 (dk_g tcX11_load_0 0 rfl)
theorem dX11_load_1 : decode cX11_load 1 = .ok (.ifCond .lt 11, 3) := dk_2155 (dk_g tcX11_load_0 1 rfl) (dk_g tcX11_load_0 2 rfl) (dk_g tcX11_load_0 3 rfl) rfl rfl
theorem dX11_load_4 : decode cX11_load 4 = .ok (.iload_n 1, 1) := dk_1027 (dk_g tcX11_load_0 4 rfl)
theorem dX11_load_5 : decode cX11_load 5 = .ok (.aload_n 0, 1) := dk_1042 (dk_g tcX11_load_0 5 rfl)
theorem dX11_load_6 : decode cX11_load 6 = .ok (.getfield 34, 3) := dk_1180 (dk_g tcX11_load_0 6 rfl) (dk_g tcX11_load_0 7 rfl) (dk_g tcX11_load_0 8 rfl) rfl
theorem dX11_load_9 : decode cX11_load 9 = .ok (.if_icmp .le 9, 3) := dk_2164 (dk_g tcX11_load_0 9 rfl) (dk_g tcX11_load_0 10 rfl) (dk_g tcX11_load_0 11 rfl) rfl rfl
theorem tcX11_load_1 : (cX11_load.data.toList.drop 12).take 12 = [42, 4, 182, 0, 98, 172, 42, 180, 0, 20, 182, 0] := by decide +kernel
theorem dX11_load_12 : decode cX11_load 12 = .ok (.aload_n 0, 1) := dk_1042 (dk_g tcX11_load_1 0 rfl)
theorem dX11_load_13 : decode cX11_load 13 = .ok (.iconst 1, 1) := dk_1004 (dk_g tcX11_load_1 1 rfl)
theorem dX11_load_14 : decode cX11_load 14 = .ok (.invokevirtual 98, 3) := dk_1182 (dk_g tcX11_load_1 2 rfl) (dk_g tcX11_load_1 3 rfl) (dk_g tcX11_load_1 4 rfl) rfl
theorem dX11_load_17 : decode cX11_load 17 = .ok (.ireturn, 1) := dk_1172 (dk_g tcX11_load_1 5 rfl)
theorem dX11_load_18 : decode cX11_load 18 = .ok (.aload_n 0, 1) := dk_1042 (dk_g tcX11_load_1 6 rfl)
theorem dX11_load_19 : decode cX11_load 19 = .ok (.getfield 20, 3) := dk_1180 (dk_g tcX11_load_1 7 rfl) (dk_g tcX11_load_1 8 rfl) (dk_g tcX11_load_1 9 rfl) rfl
theorem tcX11_load_2 : (cX11_load.data.toList.drop 24).take 12 = [102, 42, 27, 182, 0, 105, 61, 42, 3, 181, 0, 34] := by decide +kernel
theorem dX11_load_22 : decode cX11_load 22 = .ok (.invokevirtual 102, 3) := dk_1182 (dk_g tcX11_load_1 10 rfl) (dk_g tcX11_load_1 11 rfl) (dk_g tcX11_load_2 0 rfl) rfl
theorem dX11_load_25 : decode cX11_load 25 = .ok (.aload_n 0, 1) := dk_1042 (dk_g tcX11_load_2 1 rfl)
theorem dX11_load_26 : decode cX11_load 26 = .ok (.iload_n 1, 1) := dk_1027 (dk_g tcX11_load_2 2 rfl)
theorem dX11_load_27 : decode cX11_load 27 = .ok (.invokevirtual 105, 3) := dk_1182 (dk_g tcX11_load_2 3 rfl) (dk_g tcX11_load_2 4 rfl) (dk_g tcX11_load_2 5 rfl) rfl
theorem dX11_load_30 : decode cX11_load 30 = .ok (.istore_n 2, 1) := dk_1061 (dk_g tcX11_load_2 6 rfl)
theorem dX11_load_31 : decode cX11_load 31 = .ok (.aload_n 0, 1) := dk_1042 (dk_g tcX11_load_2 7 rfl)
theorem dX11_load_32 : decode cX11_load 32 = .ok (.iconst 0, 1) := dk_1003 (dk_g tcX11_load_2 8 rfl)
theorem dX11_load_33 : decode cX11_load 33 = .ok (.putfield 34, 3) := dk_1181 (dk_g tcX11_load_2 9 rfl) (dk_g tcX11_load_2 10 rfl) (dk_g tcX11_load_2 11 rfl) rfl
theorem tcX11_load_3 : (cX11_load.data.toList.drop 36).take 12 = [28, 154, 0, 10, 42, 16, 9, 182, 0, 98, 172, 42] := by decide +kernel
theorem dX11_load_36 : decode cX11_load 36 = .ok (.iload_n 2, 1) := dk_1028 (dk_g tcX11_load_3 0 rfl)
theorem dX11_load_37 : decode cX11_load 37 = .ok (.ifCond .ne 10, 3) := dk_2154 (dk_g tcX11_load_3 1 rfl) (dk_g tcX11_load_3 2 rfl) (dk_g tcX11_load_3 3 rfl) rfl rfl
theorem dX11_load_40 : decode cX11_load 40 = .ok (.aload_n 0, 1) := dk_1042 (dk_g tcX11_load_3 4 rfl)
theorem dX11_load_41 : decode cX11_load 41 = .ok (.bipush 9, 2) := dk_1016 (dk_g tcX11_load_3 5 rfl) (dk_g tcX11_load_3 6 rfl) (by decide +kernel)
theorem dX11_load_43 : decode cX11_load 43 = .ok (.invokevirtual 98, 3) := dk_1182 (dk_g tcX11_load_3 7 rfl) (dk_g tcX11_load_3 8 rfl) (dk_g tcX11_load_3 9 rfl) rfl
theorem dX11_load_46 : decode cX11_load 46 = .ok (.ireturn, 1) := dk_1172 (dk_g tcX11_load_3 10 rfl)
theorem dX11_load_47 : decode cX11_load 47 = .ok (.aload_n 0, 1) := dk_1042 (dk_g tcX11_load_3 11 rfl)
theorem tcX11_load_4 : (cX11_load.data.toList.drop 48).take 12 = [180, 0, 16, 78, 42, 42, 180, 0, 20, 181, 0, 16] := by decide +kernel
theorem dX11_load_48 : decode cX11_load 48 = .ok (.getfield 16, 3) := dk_1180 (dk_g tcX11_load_4 0 rfl) (dk_g tcX11_load_4 1 rfl) (dk_g tcX11_load_4 2 rfl) rfl
theorem dX11_load_51 : decode cX11_load 51 = .ok (.astore_n 3, 1) := dk_1078 (dk_g tcX11_load_4 3 rfl)
theorem dX11_load_52 : decode cX11_load 52 = .ok (.aload_n 0, 1) := dk_1042 (dk_g tcX11_load_4 4 rfl)
theorem dX11_load_53 : decode cX11_load 53 = .ok (.aload_n 0, 1) := dk_1042 (dk_g tcX11_load_4 5 rfl)
theorem dX11_load_54 : decode cX11_load 54 = .ok (.getfield 20, 3) := dk_1180 (dk_g tcX11_load_4 6 rfl) (dk_g tcX11_load_4 7 rfl) (dk_g tcX11_load_4 8 rfl) rfl
theorem dX11_load_57 : decode cX11_load 57 = .ok (.putfield 16, 3) := dk_1181 (dk_g tcX11_load_4 9 rfl) (dk_g tcX11_load_4 10 rfl) (dk_g tcX11_load_4 11 rfl) rfl
theorem tcX11_load_5 : (cX11_load.data.toList.drop 60).take 12 = [42, 45, 181, 0, 20, 42, 180, 0, 26, 3, 182, 0] := by decide +kernel
theorem dX11_load_60 : decode cX11_load 60 = .ok (.aload_n 0, 1) := dk_1042 (dk_g tcX11_load_5 0 rfl)
theorem dX11_load_61 : decode cX11_load 61 = .ok (.aload_n 3, 1) := dk_1045 (dk_g tcX11_load_5 1 rfl)
theorem dX11_load_62 : decode cX11_load 62 = .ok (.putfield 20, 3) := dk_1181 (dk_g tcX11_load_5 2 rfl) (dk_g tcX11_load_5 3 rfl) (dk_g tcX11_load_5 4 rfl) rfl
theorem dX11_load_65 : decode cX11_load 65 = .ok (.aload_n 0, 1) := dk_1042 (dk_g tcX11_load_5 5 rfl)
theorem dX11_load_66 : decode cX11_load 66 = .ok (.getfield 26, 3) := dk_1180 (dk_g tcX11_load_5 6 rfl) (dk_g tcX11_load_5 7 rfl) (dk_g tcX11_load_5 8 rfl) rfl
theorem dX11_load_69 : decode cX11_load 69 = .ok (.iconst 0, 1) := dk_1003 (dk_g tcX11_load_5 9 rfl)
theorem tcX11_load_6 : (cX11_load.data.toList.drop 72).take 12 = [109, 42, 42, 180, 0, 16, 180, 0, 112, 182, 0, 115] := by decide +kernel
theorem dX11_load_70 : decode cX11_load 70 = .ok (.invokevirtual 109, 3) := dk_1182 (dk_g tcX11_load_5 10 rfl) (dk_g tcX11_load_5 11 rfl) (dk_g tcX11_load_6 0 rfl) rfl
theorem dX11_load_73 : decode cX11_load 73 = .ok (.aload_n 0, 1) := dk_1042 (dk_g tcX11_load_6 1 rfl)
theorem dX11_load_74 : decode cX11_load 74 = .ok (.aload_n 0, 1) := dk_1042 (dk_g tcX11_load_6 2 rfl)
theorem dX11_load_75 : decode cX11_load 75 = .ok (.getfield 16, 3) := dk_1180 (dk_g tcX11_load_6 3 rfl) (dk_g tcX11_load_6 4 rfl) (dk_g tcX11_load_6 5 rfl) rfl
theorem dX11_load_78 : decode cX11_load 78 = .ok (.getfield 112, 3) := dk_1180 (dk_g tcX11_load_6 6 rfl) (dk_g tcX11_load_6 7 rfl) (dk_g tcX11_load_6 8 rfl) rfl
theorem dX11_load_81 : decode cX11_load 81 = .ok (.invokevirtual 115, 3) := dk_1182 (dk_g tcX11_load_6 9 rfl) (dk_g tcX11_load_6 10 rfl) (dk_g tcX11_load_6 11 rfl) rfl
theorem tcX11_load_7 : (cX11_load.data.toList.drop 84).take 12 = [172] := by decide +kernel
theorem dX11_load_84 : decode cX11_load 84 = .ok (.ireturn, 1) := dk_1172 (dk_g tcX11_load_7 0 rfl)
theorem tcX11_hear_0 : (cX11_hear.data.toList.drop 0).take 12 = [27, 155, 0, 11, 27, 42, 180, 0, 34, 164, 0, 9] := by decide +kernel
theorem dX11_hear_0 : decode cX11_hear 0 = .ok (.iload_n 1, 1) := dk_1027 (dk_g tcX11_hear_0 0 rfl)
theorem dX11_hear_1 : decode cX11_hear 1 = .ok (.ifCond .lt 11, 3) := dk_2155 (dk_g tcX11_hear_0 1 rfl) (dk_g tcX11_hear_0 2 rfl) (dk_g tcX11_hear_0 3 rfl) rfl rfl
theorem dX11_hear_4 : decode cX11_hear 4 = .ok (.iload_n 1, 1) := dk_1027 (dk_g tcX11_hear_0 4 rfl)
theorem dX11_hear_5 : decode cX11_hear 5 = .ok (.aload_n 0, 1) := dk_1042 (dk_g tcX11_hear_0 5 rfl)
theorem dX11_hear_6 : decode cX11_hear 6 = .ok (.getfield 34, 3) := dk_1180 (dk_g tcX11_hear_0 6 rfl) (dk_g tcX11_hear_0 7 rfl) (dk_g tcX11_hear_0 8 rfl) rfl
theorem dX11_hear_9 : decode cX11_hear 9 = .ok (.if_icmp .le 9, 3) := dk_2164 (dk_g tcX11_hear_0 9 rfl) (dk_g tcX11_hear_0 10 rfl) (dk_g tcX11_hear_0 11 rfl) rfl rfl
theorem tcX11_hear_1 : (cX11_hear.data.toList.drop 12).take 12 = [42, 4, 182, 0, 98, 172, 42, 180, 0, 82, 42, 180] := by decide +kernel
theorem dX11_hear_12 : decode cX11_hear 12 = .ok (.aload_n 0, 1) := dk_1042 (dk_g tcX11_hear_1 0 rfl)
theorem dX11_hear_13 : decode cX11_hear 13 = .ok (.iconst 1, 1) := dk_1004 (dk_g tcX11_hear_1 1 rfl)
theorem dX11_hear_14 : decode cX11_hear 14 = .ok (.invokevirtual 98, 3) := dk_1182 (dk_g tcX11_hear_1 2 rfl) (dk_g tcX11_hear_1 3 rfl) (dk_g tcX11_hear_1 4 rfl) rfl
theorem dX11_hear_17 : decode cX11_hear 17 = .ok (.ireturn, 1) := dk_1172 (dk_g tcX11_hear_1 5 rfl)
theorem dX11_hear_18 : decode cX11_hear 18 = .ok (.aload_n 0, 1) := dk_1042 (dk_g tcX11_hear_1 6 rfl)
theorem dX11_hear_19 : decode cX11_hear 19 = .ok (.getfield 82, 3) := dk_1180 (dk_g tcX11_hear_1 7 rfl) (dk_g tcX11_hear_1 8 rfl) (dk_g tcX11_hear_1 9 rfl) rfl
theorem dX11_hear_22 : decode cX11_hear 22 = .ok (.aload_n 0, 1) := dk_1042 (dk_g tcX11_hear_1 10 rfl)
theorem tcX11_hear_2 : (cX11_hear.data.toList.drop 24).take 12 = [0, 30, 27, 182, 0, 118, 42, 180, 0, 82, 42, 180] := by decide +kernel
theorem dX11_hear_23 : decode cX11_hear 23 = .ok (.getfield 30, 3) := dk_1180 (dk_g tcX11_hear_1 11 rfl) (dk_g tcX11_hear_2 0 rfl) (dk_g tcX11_hear_2 1 rfl) rfl
theorem dX11_hear_26 : decode cX11_hear 26 = .ok (.iload_n 1, 1) := dk_1027 (dk_g tcX11_hear_2 2 rfl)
theorem dX11_hear_27 : decode cX11_hear 27 = .ok (.invokevirtual 118, 3) := dk_1182 (dk_g tcX11_hear_2 3 rfl) (dk_g tcX11_hear_2 4 rfl) (dk_g tcX11_hear_2 5 rfl) rfl
theorem dX11_hear_30 : decode cX11_hear 30 = .ok (.aload_n 0, 1) := dk_1042 (dk_g tcX11_hear_2 6 rfl)
theorem dX11_hear_31 : decode cX11_hear 31 = .ok (.getfield 82, 3) := dk_1180 (dk_g tcX11_hear_2 7 rfl) (dk_g tcX11_hear_2 8 rfl) (dk_g tcX11_hear_2 9 rfl) rfl
theorem dX11_hear_34 : decode cX11_hear 34 = .ok (.aload_n 0, 1) := dk_1042 (dk_g tcX11_hear_2 10 rfl)
theorem tcX11_hear_3 : (cX11_hear.data.toList.drop 36).take 12 = [0, 16, 180, 0, 122, 42, 180, 0, 50, 182, 0, 125] := by decide +kernel
theorem dX11_hear_35 : decode cX11_hear 35 = .ok (.getfield 16, 3) := dk_1180 (dk_g tcX11_hear_2 11 rfl) (dk_g tcX11_hear_3 0 rfl) (dk_g tcX11_hear_3 1 rfl) rfl
theorem dX11_hear_38 : decode cX11_hear 38 = .ok (.getfield 122, 3) := dk_1180 (dk_g tcX11_hear_3 2 rfl) (dk_g tcX11_hear_3 3 rfl) (dk_g tcX11_hear_3 4 rfl) rfl
theorem dX11_hear_41 : decode cX11_hear 41 = .ok (.aload_n 0, 1) := dk_1042 (dk_g tcX11_hear_3 5 rfl)
theorem dX11_hear_42 : decode cX11_hear 42 = .ok (.getfield 50, 3) := dk_1180 (dk_g tcX11_hear_3 6 rfl) (dk_g tcX11_hear_3 7 rfl) (dk_g tcX11_hear_3 8 rfl) rfl
theorem dX11_hear_45 : decode cX11_hear 45 = .ok (.invokevirtual 125, 3) := dk_1182 (dk_g tcX11_hear_3 9 rfl) (dk_g tcX11_hear_3 10 rfl) (dk_g tcX11_hear_3 11 rfl) rfl
theorem tcX11_hear_4 : (cX11_hear.data.toList.drop 48).take 12 = [61, 42, 3, 181, 0, 34, 28, 154, 0, 10, 42, 16] := by decide +kernel
theorem dX11_hear_48 : decode cX11_hear 48 = .ok (.istore_n 2, 1) := dk_1061 (dk_g tcX11_hear_4 0 rfl)
theorem dX11_hear_49 : decode cX11_hear 49 = .ok (.aload_n 0, 1) := dk_1042 (dk_g tcX11_hear_4 1 rfl)
theorem dX11_hear_50 : decode cX11_hear 50 = .ok (.iconst 0, 1) := dk_1003 (dk_g tcX11_hear_4 2 rfl)
theorem dX11_hear_51 : decode cX11_hear 51 = .ok (.putfield 34, 3) := dk_1181 (dk_g tcX11_hear_4 3 rfl) (dk_g tcX11_hear_4 4 rfl) (dk_g tcX11_hear_4 5 rfl) rfl
theorem dX11_hear_54 : decode cX11_hear 54 = .ok (.iload_n 2, 1) := dk_1028 (dk_g tcX11_hear_4 6 rfl)
theorem dX11_hear_55 : decode cX11_hear 55 = .ok (.ifCond .ne 10, 3) := dk_2154 (dk_g tcX11_hear_4 7 rfl) (dk_g tcX11_hear_4 8 rfl) (dk_g tcX11_hear_4 9 rfl) rfl rfl
theorem dX11_hear_58 : decode cX11_hear 58 = .ok (.aload_n 0, 1) := dk_1042 (dk_g tcX11_hear_4 10 rfl)
theorem tcX11_hear_5 : (cX11_hear.data.toList.drop 60).take 12 = [9, 182, 0, 98, 172, 42, 180, 0, 47, 78, 42, 42] := by decide +kernel
theorem dX11_hear_59 : decode cX11_hear 59 = .ok (.bipush 9, 2) := dk_1016 (dk_g tcX11_hear_4 11 rfl) (dk_g tcX11_hear_5 0 rfl) (by decide +kernel)
theorem dX11_hear_61 : decode cX11_hear 61 = .ok (.invokevirtual 98, 3) := dk_1182 (dk_g tcX11_hear_5 1 rfl) (dk_g tcX11_hear_5 2 rfl) (dk_g tcX11_hear_5 3 rfl) rfl
theorem dX11_hear_64 : decode cX11_hear 64 = .ok (.ireturn, 1) := dk_1172 (dk_g tcX11_hear_5 4 rfl)
theorem dX11_hear_65 : decode cX11_hear 65 = .ok (.aload_n 0, 1) := dk_1042 (dk_g tcX11_hear_5 5 rfl)
theorem dX11_hear_66 : decode cX11_hear 66 = .ok (.getfield 47, 3) := dk_1180 (dk_g tcX11_hear_5 6 rfl) (dk_g tcX11_hear_5 7 rfl) (dk_g tcX11_hear_5 8 rfl) rfl
theorem dX11_hear_69 : decode cX11_hear 69 = .ok (.astore_n 3, 1) := dk_1078 (dk_g tcX11_hear_5 9 rfl)
theorem dX11_hear_70 : decode cX11_hear 70 = .ok (.aload_n 0, 1) := dk_1042 (dk_g tcX11_hear_5 10 rfl)
theorem dX11_hear_71 : decode cX11_hear 71 = .ok (.aload_n 0, 1) := dk_1042 (dk_g tcX11_hear_5 11 rfl)
theorem tcX11_hear_6 : (cX11_hear.data.toList.drop 72).take 12 = [180, 0, 50, 181, 0, 47, 42, 45, 181, 0, 50, 42] := by decide +kernel
theorem dX11_hear_72 : decode cX11_hear 72 = .ok (.getfield 50, 3) := dk_1180 (dk_g tcX11_hear_6 0 rfl) (dk_g tcX11_hear_6 1 rfl) (dk_g tcX11_hear_6 2 rfl) rfl
theorem dX11_hear_75 : decode cX11_hear 75 = .ok (.putfield 47, 3) := dk_1181 (dk_g tcX11_hear_6 3 rfl) (dk_g tcX11_hear_6 4 rfl) (dk_g tcX11_hear_6 5 rfl) rfl
theorem dX11_hear_78 : decode cX11_hear 78 = .ok (.aload_n 0, 1) := dk_1042 (dk_g tcX11_hear_6 6 rfl)
theorem dX11_hear_79 : decode cX11_hear 79 = .ok (.aload_n 3, 1) := dk_1045 (dk_g tcX11_hear_6 7 rfl)
theorem dX11_hear_80 : decode cX11_hear 80 = .ok (.putfield 50, 3) := dk_1181 (dk_g tcX11_hear_6 8 rfl) (dk_g tcX11_hear_6 9 rfl) (dk_g tcX11_hear_6 10 rfl) rfl
theorem dX11_hear_83 : decode cX11_hear 83 = .ok (.aload_n 0, 1) := dk_1042 (dk_g tcX11_hear_6 11 rfl)
theorem tcX11_hear_7 : (cX11_hear.data.toList.drop 84).take 12 = [42, 180, 0, 47, 3, 182, 0, 129, 182, 0, 115, 172] := by decide +kernel
theorem dX11_hear_84 : decode cX11_hear 84 = .ok (.aload_n 0, 1) := dk_1042 (dk_g tcX11_hear_7 0 rfl)
theorem dX11_hear_85 : decode cX11_hear 85 = .ok (.getfield 47, 3) := dk_1180 (dk_g tcX11_hear_7 1 rfl) (dk_g tcX11_hear_7 2 rfl) (dk_g tcX11_hear_7 3 rfl) rfl
theorem dX11_hear_88 : decode cX11_hear 88 = .ok (.iconst 0, 1) := dk_1003 (dk_g tcX11_hear_7 4 rfl)
theorem dX11_hear_89 : decode cX11_hear 89 = .ok (.invokevirtual 129, 3) := dk_1182 (dk_g tcX11_hear_7 5 rfl) (dk_g tcX11_hear_7 6 rfl) (dk_g tcX11_hear_7 7 rfl) rfl
theorem dX11_hear_92 : decode cX11_hear 92 = .ok (.invokevirtual 115, 3) := dk_1182 (dk_g tcX11_hear_7 8 rfl) (dk_g tcX11_hear_7 9 rfl) (dk_g tcX11_hear_7 10 rfl) rfl
theorem dX11_hear_95 : decode cX11_hear 95 = .ok (.ireturn, 1) := dk_1172 (dk_g tcX11_hear_7 11 rfl)
theorem tcX11_heard_0 : (cX11_heard.data.toList.drop 0).take 12 = [27, 156, 0, 9, 42, 4, 182, 0, 98, 172, 27, 42] := by decide +kernel
theorem dX11_heard_0 : decode cX11_heard 0 = .ok (.iload_n 1, 1) := dk_1027 (dk_g tcX11_heard_0 0 rfl)
theorem dX11_heard_1 : decode cX11_heard 1 = .ok (.ifCond .ge 9, 3) := dk_2156 (dk_g tcX11_heard_0 1 rfl) (dk_g tcX11_heard_0 2 rfl) (dk_g tcX11_heard_0 3 rfl) rfl rfl
theorem dX11_heard_4 : decode cX11_heard 4 = .ok (.aload_n 0, 1) := dk_1042 (dk_g tcX11_heard_0 4 rfl)
theorem dX11_heard_5 : decode cX11_heard 5 = .ok (.iconst 1, 1) := dk_1004 (dk_g tcX11_heard_0 5 rfl)
theorem dX11_heard_6 : decode cX11_heard 6 = .ok (.invokevirtual 98, 3) := dk_1182 (dk_g tcX11_heard_0 6 rfl) (dk_g tcX11_heard_0 7 rfl) (dk_g tcX11_heard_0 8 rfl) rfl
theorem dX11_heard_9 : decode cX11_heard 9 = .ok (.ireturn, 1) := dk_1172 (dk_g tcX11_heard_0 9 rfl)
theorem dX11_heard_10 : decode cX11_heard 10 = .ok (.iload_n 1, 1) := dk_1027 (dk_g tcX11_heard_0 10 rfl)
theorem dX11_heard_11 : decode cX11_heard 11 = .ok (.aload_n 0, 1) := dk_1042 (dk_g tcX11_heard_0 11 rfl)
theorem tcX11_heard_1 : (cX11_heard.data.toList.drop 12).take 12 = [180, 0, 47, 180, 0, 132, 161, 0, 9, 42, 8, 182] := by decide +kernel
theorem dX11_heard_12 : decode cX11_heard 12 = .ok (.getfield 47, 3) := dk_1180 (dk_g tcX11_heard_1 0 rfl) (dk_g tcX11_heard_1 1 rfl) (dk_g tcX11_heard_1 2 rfl) rfl
theorem dX11_heard_15 : decode cX11_heard 15 = .ok (.getfield 132, 3) := dk_1180 (dk_g tcX11_heard_1 3 rfl) (dk_g tcX11_heard_1 4 rfl) (dk_g tcX11_heard_1 5 rfl) rfl
theorem dX11_heard_18 : decode cX11_heard 18 = .ok (.if_icmp .lt 9, 3) := dk_2161 (dk_g tcX11_heard_1 6 rfl) (dk_g tcX11_heard_1 7 rfl) (dk_g tcX11_heard_1 8 rfl) rfl rfl
theorem dX11_heard_21 : decode cX11_heard 21 = .ok (.aload_n 0, 1) := dk_1042 (dk_g tcX11_heard_1 9 rfl)
theorem dX11_heard_22 : decode cX11_heard 22 = .ok (.iconst 5, 1) := dk_1008 (dk_g tcX11_heard_1 10 rfl)
theorem tcX11_heard_2 : (cX11_heard.data.toList.drop 24).take 12 = [0, 98, 172, 42, 42, 180, 0, 47, 27, 182, 0, 135] := by decide +kernel
theorem dX11_heard_23 : decode cX11_heard 23 = .ok (.invokevirtual 98, 3) := dk_1182 (dk_g tcX11_heard_1 11 rfl) (dk_g tcX11_heard_2 0 rfl) (dk_g tcX11_heard_2 1 rfl) rfl
theorem dX11_heard_26 : decode cX11_heard 26 = .ok (.ireturn, 1) := dk_1172 (dk_g tcX11_heard_2 2 rfl)
theorem dX11_heard_27 : decode cX11_heard 27 = .ok (.aload_n 0, 1) := dk_1042 (dk_g tcX11_heard_2 3 rfl)
theorem dX11_heard_28 : decode cX11_heard 28 = .ok (.aload_n 0, 1) := dk_1042 (dk_g tcX11_heard_2 4 rfl)
theorem dX11_heard_29 : decode cX11_heard 29 = .ok (.getfield 47, 3) := dk_1180 (dk_g tcX11_heard_2 5 rfl) (dk_g tcX11_heard_2 6 rfl) (dk_g tcX11_heard_2 7 rfl) rfl
theorem dX11_heard_32 : decode cX11_heard 32 = .ok (.iload_n 1, 1) := dk_1027 (dk_g tcX11_heard_2 8 rfl)
theorem dX11_heard_33 : decode cX11_heard 33 = .ok (.invokevirtual 135, 3) := dk_1182 (dk_g tcX11_heard_2 9 rfl) (dk_g tcX11_heard_2 10 rfl) (dk_g tcX11_heard_2 11 rfl) rfl
theorem tcX11_heard_3 : (cX11_heard.data.toList.drop 36).take 12 = [182, 0, 115, 172] := by decide +kernel
theorem dX11_heard_36 : decode cX11_heard 36 = .ok (.invokevirtual 115, 3) := dk_1182 (dk_g tcX11_heard_3 0 rfl) (dk_g tcX11_heard_3 1 rfl) (dk_g tcX11_heard_3 2 rfl) rfl
theorem dX11_heard_39 : decode cX11_heard 39 = .ok (.ireturn, 1) := dk_1172 (dk_g tcX11_heard_3 3 rfl)
theorem tcX11_fault_0 : (cX11_fault.data.toList.drop 0).take 12 = [27, 154, 0, 11, 42, 180, 0, 82, 180, 0, 138, 172] := by decide +kernel
theorem dX11_fault_0 : decode cX11_fault 0 = .ok (.iload_n 1, 1) := dk_1027 (dk_g tcX11_fault_0 0 rfl)
theorem dX11_fault_1 : decode cX11_fault 1 = .ok (.ifCond .ne 11, 3) := dk_2154 (dk_g tcX11_fault_0 1 rfl) (dk_g tcX11_fault_0 2 rfl) (dk_g tcX11_fault_0 3 rfl) rfl rfl
theorem dX11_fault_4 : decode cX11_fault 4 = .ok (.aload_n 0, 1) := dk_1042 (dk_g tcX11_fault_0 4 rfl)
theorem dX11_fault_5 : decode cX11_fault 5 = .ok (.getfield 82, 3) := dk_1180 (dk_g tcX11_fault_0 5 rfl) (dk_g tcX11_fault_0 6 rfl) (dk_g tcX11_fault_0 7 rfl) rfl
theorem dX11_fault_8 : decode cX11_fault 8 = .ok (.getfield 138, 3) := dk_1180 (dk_g tcX11_fault_0 8 rfl) (dk_g tcX11_fault_0 9 rfl) (dk_g tcX11_fault_0 10 rfl) rfl
theorem dX11_fault_11 : decode cX11_fault 11 = .ok (.ireturn, 1) := dk_1172 (dk_g tcX11_fault_0 11 rfl)
theorem tcX11_fault_1 : (cX11_fault.data.toList.drop 12).take 12 = [27, 4, 160, 0, 13, 42, 180, 0, 82, 180, 0, 141] := by decide +kernel
theorem dX11_fault_12 : decode cX11_fault 12 = .ok (.iload_n 1, 1) := dk_1027 (dk_g tcX11_fault_1 0 rfl)
theorem dX11_fault_13 : decode cX11_fault 13 = .ok (.iconst 1, 1) := dk_1004 (dk_g tcX11_fault_1 1 rfl)
theorem dX11_fault_14 : decode cX11_fault 14 = .ok (.if_icmp .ne 13, 3) := dk_2160 (dk_g tcX11_fault_1 2 rfl) (dk_g tcX11_fault_1 3 rfl) (dk_g tcX11_fault_1 4 rfl) rfl rfl
theorem dX11_fault_17 : decode cX11_fault 17 = .ok (.aload_n 0, 1) := dk_1042 (dk_g tcX11_fault_1 5 rfl)
theorem dX11_fault_18 : decode cX11_fault 18 = .ok (.getfield 82, 3) := dk_1180 (dk_g tcX11_fault_1 6 rfl) (dk_g tcX11_fault_1 7 rfl) (dk_g tcX11_fault_1 8 rfl) rfl
theorem dX11_fault_21 : decode cX11_fault 21 = .ok (.getfield 141, 3) := dk_1180 (dk_g tcX11_fault_1 9 rfl) (dk_g tcX11_fault_1 10 rfl) (dk_g tcX11_fault_1 11 rfl) rfl
theorem tcX11_fault_2 : (cX11_fault.data.toList.drop 24).take 12 = [167, 0, 4, 2, 172] := by decide +kernel
theorem dX11_fault_24 : decode cX11_fault 24 = .ok (.goto 4, 3) := dk_2167 (dk_g tcX11_fault_2 0 rfl) (dk_g tcX11_fault_2 1 rfl) (dk_g tcX11_fault_2 2 rfl) rfl rfl
theorem dX11_fault_27 : decode cX11_fault 27 = .ok (.iconst (-1), 1) := dk_1002 (dk_g tcX11_fault_2 3 rfl)
theorem dX11_fault_28 : decode cX11_fault 28 = .ok (.ireturn, 1) := dk_1172 (dk_g tcX11_fault_2 4 rfl)
theorem tcX11_type_0 : (cX11_type.data.toList.drop 0).take 12 = [42, 180, 0, 44, 182, 0, 144, 3, 62, 29, 16, 8] := by decide +kernel
theorem dX11_type_0 : decode cX11_type 0 = .ok (.aload_n 0, 1) := dk_1042 (dk_g tcX11_type_0 0 rfl)
theorem dX11_type_1 : decode cX11_type 1 = .ok (.getfield 44, 3) := dk_1180 (dk_g tcX11_type_0 1 rfl) (dk_g tcX11_type_0 2 rfl) (dk_g tcX11_type_0 3 rfl) rfl
theorem dX11_type_4 : decode cX11_type 4 = .ok (.invokevirtual 144, 3) := dk_1182 (dk_g tcX11_type_0 4 rfl) (dk_g tcX11_type_0 5 rfl) (dk_g tcX11_type_0 6 rfl) rfl
theorem dX11_type_7 : decode cX11_type 7 = .ok (.iconst 0, 1) := dk_1003 (dk_g tcX11_type_0 7 rfl)
theorem dX11_type_8 : decode cX11_type 8 = .ok (.istore_n 3, 1) := dk_1062 (dk_g tcX11_type_0 8 rfl)
theorem dX11_type_9 : decode cX11_type 9 = .ok (.iload_n 3, 1) := dk_1029 (dk_g tcX11_type_0 9 rfl)
theorem dX11_type_10 : decode cX11_type 10 = .ok (.bipush 8, 2) := dk_1016 (dk_g tcX11_type_0 10 rfl) (dk_g tcX11_type_0 11 rfl) (by decide +kernel)
theorem tcX11_type_1 : (cX11_type.data.toList.drop 12).take 12 = [162, 0, 65, 29, 16, 6, 162, 0, 14, 27, 8, 29] := by decide +kernel
theorem dX11_type_12 : decode cX11_type 12 = .ok (.if_icmp .ge 65, 3) := dk_2162 (dk_g tcX11_type_1 0 rfl) (dk_g tcX11_type_1 1 rfl) (dk_g tcX11_type_1 2 rfl) rfl rfl
theorem dX11_type_15 : decode cX11_type 15 = .ok (.iload_n 3, 1) := dk_1029 (dk_g tcX11_type_1 3 rfl)
theorem dX11_type_16 : decode cX11_type 16 = .ok (.bipush 6, 2) := dk_1016 (dk_g tcX11_type_1 4 rfl) (dk_g tcX11_type_1 5 rfl) (by decide +kernel)
theorem dX11_type_18 : decode cX11_type 18 = .ok (.if_icmp .ge 14, 3) := dk_2162 (dk_g tcX11_type_1 6 rfl) (dk_g tcX11_type_1 7 rfl) (dk_g tcX11_type_1 8 rfl) rfl rfl
theorem dX11_type_21 : decode cX11_type 21 = .ok (.iload_n 1, 1) := dk_1027 (dk_g tcX11_type_1 9 rfl)
theorem dX11_type_22 : decode cX11_type 22 = .ok (.iconst 5, 1) := dk_1008 (dk_g tcX11_type_1 10 rfl)
theorem dX11_type_23 : decode cX11_type 23 = .ok (.iload_n 3, 1) := dk_1029 (dk_g tcX11_type_1 11 rfl)
theorem tcX11_type_2 : (cX11_type.data.toList.drop 24).take 12 = [104, 124, 16, 31, 126, 167, 0, 14, 28, 8, 29, 16] := by decide +kernel
theorem dX11_type_24 : decode cX11_type 24 = .ok (.imul, 1) := dk_1104 (dk_g tcX11_type_2 0 rfl)
theorem dX11_type_25 : decode cX11_type 25 = .ok (.iushr, 1) := dk_1124 (dk_g tcX11_type_2 1 rfl)
theorem dX11_type_26 : decode cX11_type 26 = .ok (.bipush 31, 2) := dk_1016 (dk_g tcX11_type_2 2 rfl) (dk_g tcX11_type_2 3 rfl) (by decide +kernel)
theorem dX11_type_28 : decode cX11_type 28 = .ok (.iand, 1) := dk_1126 (dk_g tcX11_type_2 4 rfl)
theorem dX11_type_29 : decode cX11_type 29 = .ok (.goto 14, 3) := dk_2167 (dk_g tcX11_type_2 5 rfl) (dk_g tcX11_type_2 6 rfl) (dk_g tcX11_type_2 7 rfl) rfl rfl
theorem dX11_type_32 : decode cX11_type 32 = .ok (.iload_n 2, 1) := dk_1028 (dk_g tcX11_type_2 8 rfl)
theorem dX11_type_33 : decode cX11_type 33 = .ok (.iconst 5, 1) := dk_1008 (dk_g tcX11_type_2 9 rfl)
theorem dX11_type_34 : decode cX11_type 34 = .ok (.iload_n 3, 1) := dk_1029 (dk_g tcX11_type_2 10 rfl)
theorem tcX11_type_3 : (cX11_type.data.toList.drop 36).take 12 = [6, 100, 104, 124, 16, 31, 126, 54, 4, 21, 4, 154] := by decide +kernel
theorem dX11_type_35 : decode cX11_type 35 = .ok (.bipush 6, 2) := dk_1016 (dk_g tcX11_type_2 11 rfl) (dk_g tcX11_type_3 0 rfl) (by decide +kernel)
theorem dX11_type_37 : decode cX11_type 37 = .ok (.isub, 1) := dk_1100 (dk_g tcX11_type_3 1 rfl)
theorem dX11_type_38 : decode cX11_type 38 = .ok (.imul, 1) := dk_1104 (dk_g tcX11_type_3 2 rfl)
theorem dX11_type_39 : decode cX11_type 39 = .ok (.iushr, 1) := dk_1124 (dk_g tcX11_type_3 3 rfl)
theorem dX11_type_40 : decode cX11_type 40 = .ok (.bipush 31, 2) := dk_1016 (dk_g tcX11_type_3 4 rfl) (dk_g tcX11_type_3 5 rfl) (by decide +kernel)
theorem dX11_type_42 : decode cX11_type 42 = .ok (.iand, 1) := dk_1126 (dk_g tcX11_type_3 6 rfl)
theorem dX11_type_43 : decode cX11_type 43 = .ok (.istore 4, 2) := dk_1054 (dk_g tcX11_type_3 7 rfl) (dk_g tcX11_type_3 8 rfl) rfl
theorem dX11_type_45 : decode cX11_type 45 = .ok (.iload 4, 2) := dk_1021 (dk_g tcX11_type_3 9 rfl) (dk_g tcX11_type_3 10 rfl) rfl
theorem tcX11_type_4 : (cX11_type.data.toList.drop 48).take 12 = [0, 6, 167, 0, 27, 21, 4, 16, 26, 164, 0, 5] := by decide +kernel
theorem dX11_type_47 : decode cX11_type 47 = .ok (.ifCond .ne 6, 3) := dk_2154 (dk_g tcX11_type_3 11 rfl) (dk_g tcX11_type_4 0 rfl) (dk_g tcX11_type_4 1 rfl) rfl rfl
theorem dX11_type_50 : decode cX11_type 50 = .ok (.goto 27, 3) := dk_2167 (dk_g tcX11_type_4 2 rfl) (dk_g tcX11_type_4 3 rfl) (dk_g tcX11_type_4 4 rfl) rfl rfl
theorem dX11_type_53 : decode cX11_type 53 = .ok (.iload 4, 2) := dk_1021 (dk_g tcX11_type_4 5 rfl) (dk_g tcX11_type_4 6 rfl) rfl
theorem dX11_type_55 : decode cX11_type 55 = .ok (.bipush 26, 2) := dk_1016 (dk_g tcX11_type_4 7 rfl) (dk_g tcX11_type_4 8 rfl) (by decide +kernel)
theorem dX11_type_57 : decode cX11_type 57 = .ok (.if_icmp .le 5, 3) := dk_2164 (dk_g tcX11_type_4 9 rfl) (dk_g tcX11_type_4 10 rfl) (dk_g tcX11_type_4 11 rfl) rfl rfl
theorem tcX11_type_5 : (cX11_type.data.toList.drop 60).take 12 = [2, 172, 42, 180, 0, 44, 21, 4, 182, 0, 147, 132] := by decide +kernel
theorem dX11_type_60 : decode cX11_type 60 = .ok (.iconst (-1), 1) := dk_1002 (dk_g tcX11_type_5 0 rfl)
theorem dX11_type_61 : decode cX11_type 61 = .ok (.ireturn, 1) := dk_1172 (dk_g tcX11_type_5 1 rfl)
theorem dX11_type_62 : decode cX11_type 62 = .ok (.aload_n 0, 1) := dk_1042 (dk_g tcX11_type_5 2 rfl)
theorem dX11_type_63 : decode cX11_type 63 = .ok (.getfield 44, 3) := dk_1180 (dk_g tcX11_type_5 3 rfl) (dk_g tcX11_type_5 4 rfl) (dk_g tcX11_type_5 5 rfl) rfl
theorem dX11_type_66 : decode cX11_type 66 = .ok (.iload 4, 2) := dk_1021 (dk_g tcX11_type_5 6 rfl) (dk_g tcX11_type_5 7 rfl) rfl
theorem dX11_type_68 : decode cX11_type 68 = .ok (.invokevirtual 147, 3) := dk_1182 (dk_g tcX11_type_5 8 rfl) (dk_g tcX11_type_5 9 rfl) (dk_g tcX11_type_5 10 rfl) rfl
theorem tcX11_type_6 : (cX11_type.data.toList.drop 72).take 12 = [3, 1, 167, 255, 191, 42, 180, 0, 40, 78, 42, 42] := by decide +kernel
theorem dX11_type_71 : decode cX11_type 71 = .ok (.iinc 3 1, 3) := dk_1132 (dk_g tcX11_type_5 11 rfl) (dk_g tcX11_type_6 0 rfl) (dk_g tcX11_type_6 1 rfl) rfl (by decide +kernel)
theorem dX11_type_74 : decode cX11_type 74 = .ok (.goto (-65), 3) := dk_1167 (dk_g tcX11_type_6 2 rfl) (dk_g tcX11_type_6 3 rfl) (dk_g tcX11_type_6 4 rfl) (by decide +kernel)
theorem dX11_type_77 : decode cX11_type 77 = .ok (.aload_n 0, 1) := dk_1042 (dk_g tcX11_type_6 5 rfl)
theorem dX11_type_78 : decode cX11_type 78 = .ok (.getfield 40, 3) := dk_1180 (dk_g tcX11_type_6 6 rfl) (dk_g tcX11_type_6 7 rfl) (dk_g tcX11_type_6 8 rfl) rfl
theorem dX11_type_81 : decode cX11_type 81 = .ok (.astore_n 3, 1) := dk_1078 (dk_g tcX11_type_6 9 rfl)
theorem dX11_type_82 : decode cX11_type 82 = .ok (.aload_n 0, 1) := dk_1042 (dk_g tcX11_type_6 10 rfl)
theorem dX11_type_83 : decode cX11_type 83 = .ok (.aload_n 0, 1) := dk_1042 (dk_g tcX11_type_6 11 rfl)
theorem tcX11_type_7 : (cX11_type.data.toList.drop 84).take 12 = [180, 0, 44, 181, 0, 40, 42, 45, 181, 0, 44, 42] := by decide +kernel
theorem dX11_type_84 : decode cX11_type 84 = .ok (.getfield 44, 3) := dk_1180 (dk_g tcX11_type_7 0 rfl) (dk_g tcX11_type_7 1 rfl) (dk_g tcX11_type_7 2 rfl) rfl
theorem dX11_type_87 : decode cX11_type 87 = .ok (.putfield 40, 3) := dk_1181 (dk_g tcX11_type_7 3 rfl) (dk_g tcX11_type_7 4 rfl) (dk_g tcX11_type_7 5 rfl) rfl
theorem dX11_type_90 : decode cX11_type 90 = .ok (.aload_n 0, 1) := dk_1042 (dk_g tcX11_type_7 6 rfl)
theorem dX11_type_91 : decode cX11_type 91 = .ok (.aload_n 3, 1) := dk_1045 (dk_g tcX11_type_7 7 rfl)
theorem dX11_type_92 : decode cX11_type 92 = .ok (.putfield 44, 3) := dk_1181 (dk_g tcX11_type_7 8 rfl) (dk_g tcX11_type_7 9 rfl) (dk_g tcX11_type_7 10 rfl) rfl
theorem dX11_type_95 : decode cX11_type 95 = .ok (.aload_n 0, 1) := dk_1042 (dk_g tcX11_type_7 11 rfl)
theorem tcX11_type_8 : (cX11_type.data.toList.drop 96).take 12 = [180, 0, 40, 180, 0, 150, 172] := by decide +kernel
theorem dX11_type_96 : decode cX11_type 96 = .ok (.getfield 40, 3) := dk_1180 (dk_g tcX11_type_8 0 rfl) (dk_g tcX11_type_8 1 rfl) (dk_g tcX11_type_8 2 rfl) rfl
theorem dX11_type_99 : decode cX11_type 99 = .ok (.getfield 150, 3) := dk_1180 (dk_g tcX11_type_8 3 rfl) (dk_g tcX11_type_8 4 rfl) (dk_g tcX11_type_8 5 rfl) rfl
theorem dX11_type_102 : decode cX11_type 102 = .ok (.ireturn, 1) := dk_1172 (dk_g tcX11_type_8 6 rfl)
theorem tcX11_many_0 : (cX11_many.data.toList.drop 0).take 12 = [27, 170, 0, 0, 0, 0, 0, 111, 0, 0, 0, 0] := by decide +kernel
theorem dX11_many_0 : decode cX11_many 0 = .ok (.iload_n 1, 1) := dk_1027 (dk_g tcX11_many_0 0 rfl)
theorem dX11_many_1 : decode cX11_many 1 = .ok (.tableswitch 111 0 5 #[39, 51, 63, 75, 87, 99], 39) := by decide +kernel
theorem tcX11_many_3 : (cX11_many.data.toList.drop 36).take 12 = [0, 0, 0, 99, 42, 42, 180, 0, 16, 180, 0, 112] := by decide +kernel
theorem dX11_many_40 : decode cX11_many 40 = .ok (.aload_n 0, 1) := dk_1042 (dk_g tcX11_many_3 4 rfl)
theorem dX11_many_41 : decode cX11_many 41 = .ok (.aload_n 0, 1) := dk_1042 (dk_g tcX11_many_3 5 rfl)
theorem dX11_many_42 : decode cX11_many 42 = .ok (.getfield 16, 3) := dk_1180 (dk_g tcX11_many_3 6 rfl) (dk_g tcX11_many_3 7 rfl) (dk_g tcX11_many_3 8 rfl) rfl
theorem dX11_many_45 : decode cX11_many 45 = .ok (.getfield 112, 3) := dk_1180 (dk_g tcX11_many_3 9 rfl) (dk_g tcX11_many_3 10 rfl) (dk_g tcX11_many_3 11 rfl) rfl
theorem tcX11_many_4 : (cX11_many.data.toList.drop 48).take 12 = [182, 0, 115, 172, 42, 42, 180, 0, 16, 180, 0, 122] := by decide +kernel
theorem dX11_many_48 : decode cX11_many 48 = .ok (.invokevirtual 115, 3) := dk_1182 (dk_g tcX11_many_4 0 rfl) (dk_g tcX11_many_4 1 rfl) (dk_g tcX11_many_4 2 rfl) rfl
theorem dX11_many_51 : decode cX11_many 51 = .ok (.ireturn, 1) := dk_1172 (dk_g tcX11_many_4 3 rfl)
theorem dX11_many_52 : decode cX11_many 52 = .ok (.aload_n 0, 1) := dk_1042 (dk_g tcX11_many_4 4 rfl)
theorem dX11_many_53 : decode cX11_many 53 = .ok (.aload_n 0, 1) := dk_1042 (dk_g tcX11_many_4 5 rfl)
theorem dX11_many_54 : decode cX11_many 54 = .ok (.getfield 16, 3) := dk_1180 (dk_g tcX11_many_4 6 rfl) (dk_g tcX11_many_4 7 rfl) (dk_g tcX11_many_4 8 rfl) rfl
theorem dX11_many_57 : decode cX11_many 57 = .ok (.getfield 122, 3) := dk_1180 (dk_g tcX11_many_4 9 rfl) (dk_g tcX11_many_4 10 rfl) (dk_g tcX11_many_4 11 rfl) rfl
theorem tcX11_many_5 : (cX11_many.data.toList.drop 60).take 12 = [182, 0, 115, 172, 42, 42, 180, 0, 26, 180, 0, 132] := by decide +kernel
theorem dX11_many_60 : decode cX11_many 60 = .ok (.invokevirtual 115, 3) := dk_1182 (dk_g tcX11_many_5 0 rfl) (dk_g tcX11_many_5 1 rfl) (dk_g tcX11_many_5 2 rfl) rfl
theorem dX11_many_63 : decode cX11_many 63 = .ok (.ireturn, 1) := dk_1172 (dk_g tcX11_many_5 3 rfl)
theorem dX11_many_64 : decode cX11_many 64 = .ok (.aload_n 0, 1) := dk_1042 (dk_g tcX11_many_5 4 rfl)
theorem dX11_many_65 : decode cX11_many 65 = .ok (.aload_n 0, 1) := dk_1042 (dk_g tcX11_many_5 5 rfl)
theorem dX11_many_66 : decode cX11_many 66 = .ok (.getfield 26, 3) := dk_1180 (dk_g tcX11_many_5 6 rfl) (dk_g tcX11_many_5 7 rfl) (dk_g tcX11_many_5 8 rfl) rfl
theorem dX11_many_69 : decode cX11_many 69 = .ok (.getfield 132, 3) := dk_1180 (dk_g tcX11_many_5 9 rfl) (dk_g tcX11_many_5 10 rfl) (dk_g tcX11_many_5 11 rfl) rfl
theorem tcX11_many_6 : (cX11_many.data.toList.drop 72).take 12 = [182, 0, 115, 172, 42, 42, 180, 0, 16, 180, 0, 153] := by decide +kernel
theorem dX11_many_72 : decode cX11_many 72 = .ok (.invokevirtual 115, 3) := dk_1182 (dk_g tcX11_many_6 0 rfl) (dk_g tcX11_many_6 1 rfl) (dk_g tcX11_many_6 2 rfl) rfl
theorem dX11_many_75 : decode cX11_many 75 = .ok (.ireturn, 1) := dk_1172 (dk_g tcX11_many_6 3 rfl)
theorem dX11_many_76 : decode cX11_many 76 = .ok (.aload_n 0, 1) := dk_1042 (dk_g tcX11_many_6 4 rfl)
theorem dX11_many_77 : decode cX11_many 77 = .ok (.aload_n 0, 1) := dk_1042 (dk_g tcX11_many_6 5 rfl)
theorem dX11_many_78 : decode cX11_many 78 = .ok (.getfield 16, 3) := dk_1180 (dk_g tcX11_many_6 6 rfl) (dk_g tcX11_many_6 7 rfl) (dk_g tcX11_many_6 8 rfl) rfl
theorem dX11_many_81 : decode cX11_many 81 = .ok (.getfield 153, 3) := dk_1180 (dk_g tcX11_many_6 9 rfl) (dk_g tcX11_many_6 10 rfl) (dk_g tcX11_many_6 11 rfl) rfl
theorem tcX11_many_7 : (cX11_many.data.toList.drop 84).take 12 = [182, 0, 115, 172, 42, 42, 180, 0, 16, 180, 0, 156] := by decide +kernel
theorem dX11_many_84 : decode cX11_many 84 = .ok (.invokevirtual 115, 3) := dk_1182 (dk_g tcX11_many_7 0 rfl) (dk_g tcX11_many_7 1 rfl) (dk_g tcX11_many_7 2 rfl) rfl
theorem dX11_many_87 : decode cX11_many 87 = .ok (.ireturn, 1) := dk_1172 (dk_g tcX11_many_7 3 rfl)
theorem dX11_many_88 : decode cX11_many 88 = .ok (.aload_n 0, 1) := dk_1042 (dk_g tcX11_many_7 4 rfl)
theorem dX11_many_89 : decode cX11_many 89 = .ok (.aload_n 0, 1) := dk_1042 (dk_g tcX11_many_7 5 rfl)
theorem dX11_many_90 : decode cX11_many 90 = .ok (.getfield 16, 3) := dk_1180 (dk_g tcX11_many_7 6 rfl) (dk_g tcX11_many_7 7 rfl) (dk_g tcX11_many_7 8 rfl) rfl
theorem dX11_many_93 : decode cX11_many 93 = .ok (.getfield 156, 3) := dk_1180 (dk_g tcX11_many_7 9 rfl) (dk_g tcX11_many_7 10 rfl) (dk_g tcX11_many_7 11 rfl) rfl
theorem tcX11_many_8 : (cX11_many.data.toList.drop 96).take 12 = [182, 0, 115, 172, 42, 42, 180, 0, 16, 182, 0, 159] := by decide +kernel
theorem dX11_many_96 : decode cX11_many 96 = .ok (.invokevirtual 115, 3) := dk_1182 (dk_g tcX11_many_8 0 rfl) (dk_g tcX11_many_8 1 rfl) (dk_g tcX11_many_8 2 rfl) rfl
theorem dX11_many_99 : decode cX11_many 99 = .ok (.ireturn, 1) := dk_1172 (dk_g tcX11_many_8 3 rfl)
theorem dX11_many_100 : decode cX11_many 100 = .ok (.aload_n 0, 1) := dk_1042 (dk_g tcX11_many_8 4 rfl)
theorem dX11_many_101 : decode cX11_many 101 = .ok (.aload_n 0, 1) := dk_1042 (dk_g tcX11_many_8 5 rfl)
theorem dX11_many_102 : decode cX11_many 102 = .ok (.getfield 16, 3) := dk_1180 (dk_g tcX11_many_8 6 rfl) (dk_g tcX11_many_8 7 rfl) (dk_g tcX11_many_8 8 rfl) rfl
theorem dX11_many_105 : decode cX11_many 105 = .ok (.invokevirtual 159, 3) := dk_1182 (dk_g tcX11_many_8 9 rfl) (dk_g tcX11_many_8 10 rfl) (dk_g tcX11_many_8 11 rfl) rfl
theorem tcX11_many_9 : (cX11_many.data.toList.drop 108).take 12 = [182, 0, 115, 172, 42, 4, 182, 0, 98, 172] := by decide +kernel
theorem dX11_many_108 : decode cX11_many 108 = .ok (.invokevirtual 115, 3) := dk_1182 (dk_g tcX11_many_9 0 rfl) (dk_g tcX11_many_9 1 rfl) (dk_g tcX11_many_9 2 rfl) rfl
theorem dX11_many_111 : decode cX11_many 111 = .ok (.ireturn, 1) := dk_1172 (dk_g tcX11_many_9 3 rfl)
theorem dX11_many_112 : decode cX11_many 112 = .ok (.aload_n 0, 1) := dk_1042 (dk_g tcX11_many_9 4 rfl)
theorem dX11_many_113 : decode cX11_many 113 = .ok (.iconst 1, 1) := dk_1004 (dk_g tcX11_many_9 5 rfl)
theorem dX11_many_114 : decode cX11_many 114 = .ok (.invokevirtual 98, 3) := dk_1182 (dk_g tcX11_many_9 6 rfl) (dk_g tcX11_many_9 7 rfl) (dk_g tcX11_many_9 8 rfl) rfl
theorem dX11_many_117 : decode cX11_many 117 = .ok (.ireturn, 1) := dk_1172 (dk_g tcX11_many_9 9 rfl)
theorem tcX11_size_0 : (cX11_size.data.toList.drop 0).take 12 = [42, 180, 0, 16, 27, 182, 0, 163, 77, 44, 199, 0] := by decide +kernel
theorem dX11_size_0 : decode cX11_size 0 = .ok (.aload_n 0, 1) := dk_1042 (dk_g tcX11_size_0 0 rfl)
theorem dX11_size_1 : decode cX11_size 1 = .ok (.getfield 16, 3) := dk_1180 (dk_g tcX11_size_0 1 rfl) (dk_g tcX11_size_0 2 rfl) (dk_g tcX11_size_0 3 rfl) rfl
theorem dX11_size_4 : decode cX11_size 4 = .ok (.iload_n 1, 1) := dk_1027 (dk_g tcX11_size_0 4 rfl)
theorem dX11_size_5 : decode cX11_size 5 = .ok (.invokevirtual 163, 3) := dk_1182 (dk_g tcX11_size_0 5 rfl) (dk_g tcX11_size_0 6 rfl) (dk_g tcX11_size_0 7 rfl) rfl
theorem dX11_size_8 : decode cX11_size 8 = .ok (.astore_n 2, 1) := dk_1077 (dk_g tcX11_size_0 8 rfl)
theorem dX11_size_9 : decode cX11_size 9 = .ok (.aload_n 2, 1) := dk_1044 (dk_g tcX11_size_0 9 rfl)
theorem tcX11_size_1 : (cX11_size.data.toList.drop 12).take 12 = [11, 42, 5, 182, 0, 98, 167, 0, 11, 42, 44, 180] := by decide +kernel
theorem dX11_size_10 : decode cX11_size 10 = .ok (.ifnonnull 11, 3) := dk_2199 (dk_g tcX11_size_0 10 rfl) (dk_g tcX11_size_0 11 rfl) (dk_g tcX11_size_1 0 rfl) rfl rfl
theorem dX11_size_13 : decode cX11_size 13 = .ok (.aload_n 0, 1) := dk_1042 (dk_g tcX11_size_1 1 rfl)
theorem dX11_size_14 : decode cX11_size 14 = .ok (.iconst 2, 1) := dk_1005 (dk_g tcX11_size_1 2 rfl)
theorem dX11_size_15 : decode cX11_size 15 = .ok (.invokevirtual 98, 3) := dk_1182 (dk_g tcX11_size_1 3 rfl) (dk_g tcX11_size_1 4 rfl) (dk_g tcX11_size_1 5 rfl) rfl
theorem dX11_size_18 : decode cX11_size 18 = .ok (.goto 11, 3) := dk_2167 (dk_g tcX11_size_1 6 rfl) (dk_g tcX11_size_1 7 rfl) (dk_g tcX11_size_1 8 rfl) rfl rfl
theorem dX11_size_21 : decode cX11_size 21 = .ok (.aload_n 0, 1) := dk_1042 (dk_g tcX11_size_1 9 rfl)
theorem dX11_size_22 : decode cX11_size 22 = .ok (.aload_n 2, 1) := dk_1044 (dk_g tcX11_size_1 10 rfl)
theorem tcX11_size_2 : (cX11_size.data.toList.drop 24).take 12 = [0, 167, 182, 0, 115, 172] := by decide +kernel
theorem dX11_size_23 : decode cX11_size 23 = .ok (.getfield 167, 3) := dk_1180 (dk_g tcX11_size_1 11 rfl) (dk_g tcX11_size_2 0 rfl) (dk_g tcX11_size_2 1 rfl) rfl
theorem dX11_size_26 : decode cX11_size 26 = .ok (.invokevirtual 115, 3) := dk_1182 (dk_g tcX11_size_2 2 rfl) (dk_g tcX11_size_2 3 rfl) (dk_g tcX11_size_2 4 rfl) rfl
theorem dX11_size_29 : decode cX11_size 29 = .ok (.ireturn, 1) := dk_1172 (dk_g tcX11_size_2 5 rfl)
theorem tcX11_entry_0 : (cX11_entry.data.toList.drop 0).take 12 = [28, 155, 0, 7, 29, 156, 0, 9, 42, 4, 182, 0] := by decide +kernel
theorem dX11_entry_0 : decode cX11_entry 0 = .ok (.iload_n 2, 1) := dk_1028 (dk_g tcX11_entry_0 0 rfl)
theorem dX11_entry_1 : decode cX11_entry 1 = .ok (.ifCond .lt 7, 3) := dk_2155 (dk_g tcX11_entry_0 1 rfl) (dk_g tcX11_entry_0 2 rfl) (dk_g tcX11_entry_0 3 rfl) rfl rfl
theorem dX11_entry_4 : decode cX11_entry 4 = .ok (.iload_n 3, 1) := dk_1029 (dk_g tcX11_entry_0 4 rfl)
theorem dX11_entry_5 : decode cX11_entry 5 = .ok (.ifCond .ge 9, 3) := dk_2156 (dk_g tcX11_entry_0 5 rfl) (dk_g tcX11_entry_0 6 rfl) (dk_g tcX11_entry_0 7 rfl) rfl rfl
theorem dX11_entry_8 : decode cX11_entry 8 = .ok (.aload_n 0, 1) := dk_1042 (dk_g tcX11_entry_0 8 rfl)
theorem dX11_entry_9 : decode cX11_entry 9 = .ok (.iconst 1, 1) := dk_1004 (dk_g tcX11_entry_0 9 rfl)
theorem tcX11_entry_1 : (cX11_entry.data.toList.drop 12).take 12 = [98, 172, 42, 180, 0, 16, 27, 182, 0, 163, 58, 4] := by decide +kernel
theorem dX11_entry_10 : decode cX11_entry 10 = .ok (.invokevirtual 98, 3) := dk_1182 (dk_g tcX11_entry_0 10 rfl) (dk_g tcX11_entry_0 11 rfl) (dk_g tcX11_entry_1 0 rfl) rfl
theorem dX11_entry_13 : decode cX11_entry 13 = .ok (.ireturn, 1) := dk_1172 (dk_g tcX11_entry_1 1 rfl)
theorem dX11_entry_14 : decode cX11_entry 14 = .ok (.aload_n 0, 1) := dk_1042 (dk_g tcX11_entry_1 2 rfl)
theorem dX11_entry_15 : decode cX11_entry 15 = .ok (.getfield 16, 3) := dk_1180 (dk_g tcX11_entry_1 3 rfl) (dk_g tcX11_entry_1 4 rfl) (dk_g tcX11_entry_1 5 rfl) rfl
theorem dX11_entry_18 : decode cX11_entry 18 = .ok (.iload_n 1, 1) := dk_1027 (dk_g tcX11_entry_1 6 rfl)
theorem dX11_entry_19 : decode cX11_entry 19 = .ok (.invokevirtual 163, 3) := dk_1182 (dk_g tcX11_entry_1 7 rfl) (dk_g tcX11_entry_1 8 rfl) (dk_g tcX11_entry_1 9 rfl) rfl
theorem dX11_entry_22 : decode cX11_entry 22 = .ok (.astore 4, 2) := dk_1058 (dk_g tcX11_entry_1 10 rfl) (dk_g tcX11_entry_1 11 rfl) rfl
theorem tcX11_entry_2 : (cX11_entry.data.toList.drop 24).take 12 = [25, 4, 199, 0, 9, 42, 5, 182, 0, 98, 172, 25] := by decide +kernel
theorem dX11_entry_24 : decode cX11_entry 24 = .ok (.aload 4, 2) := dk_1025 (dk_g tcX11_entry_2 0 rfl) (dk_g tcX11_entry_2 1 rfl) rfl
theorem dX11_entry_26 : decode cX11_entry 26 = .ok (.ifnonnull 9, 3) := dk_2199 (dk_g tcX11_entry_2 2 rfl) (dk_g tcX11_entry_2 3 rfl) (dk_g tcX11_entry_2 4 rfl) rfl rfl
theorem dX11_entry_29 : decode cX11_entry 29 = .ok (.aload_n 0, 1) := dk_1042 (dk_g tcX11_entry_2 5 rfl)
theorem dX11_entry_30 : decode cX11_entry 30 = .ok (.iconst 2, 1) := dk_1005 (dk_g tcX11_entry_2 6 rfl)
theorem dX11_entry_31 : decode cX11_entry 31 = .ok (.invokevirtual 98, 3) := dk_1182 (dk_g tcX11_entry_2 7 rfl) (dk_g tcX11_entry_2 8 rfl) (dk_g tcX11_entry_2 9 rfl) rfl
theorem dX11_entry_34 : decode cX11_entry 34 = .ok (.ireturn, 1) := dk_1172 (dk_g tcX11_entry_2 10 rfl)
theorem tcX11_entry_3 : (cX11_entry.data.toList.drop 36).take 12 = [4, 28, 182, 0, 170, 58, 5, 25, 5, 199, 0, 9] := by decide +kernel
theorem dX11_entry_35 : decode cX11_entry 35 = .ok (.aload 4, 2) := dk_1025 (dk_g tcX11_entry_2 11 rfl) (dk_g tcX11_entry_3 0 rfl) rfl
theorem dX11_entry_37 : decode cX11_entry 37 = .ok (.iload_n 2, 1) := dk_1028 (dk_g tcX11_entry_3 1 rfl)
theorem dX11_entry_38 : decode cX11_entry 38 = .ok (.invokevirtual 170, 3) := dk_1182 (dk_g tcX11_entry_3 2 rfl) (dk_g tcX11_entry_3 3 rfl) (dk_g tcX11_entry_3 4 rfl) rfl
theorem dX11_entry_41 : decode cX11_entry 41 = .ok (.astore 5, 2) := dk_1058 (dk_g tcX11_entry_3 5 rfl) (dk_g tcX11_entry_3 6 rfl) rfl
theorem dX11_entry_43 : decode cX11_entry 43 = .ok (.aload 5, 2) := dk_1025 (dk_g tcX11_entry_3 7 rfl) (dk_g tcX11_entry_3 8 rfl) rfl
theorem dX11_entry_45 : decode cX11_entry 45 = .ok (.ifnonnull 9, 3) := dk_2199 (dk_g tcX11_entry_3 9 rfl) (dk_g tcX11_entry_3 10 rfl) (dk_g tcX11_entry_3 11 rfl) rfl rfl
theorem tcX11_entry_4 : (cX11_entry.data.toList.drop 48).take 12 = [42, 8, 182, 0, 98, 172, 29, 154, 0, 13, 42, 25] := by decide +kernel
theorem dX11_entry_48 : decode cX11_entry 48 = .ok (.aload_n 0, 1) := dk_1042 (dk_g tcX11_entry_4 0 rfl)
theorem dX11_entry_49 : decode cX11_entry 49 = .ok (.iconst 5, 1) := dk_1008 (dk_g tcX11_entry_4 1 rfl)
theorem dX11_entry_50 : decode cX11_entry 50 = .ok (.invokevirtual 98, 3) := dk_1182 (dk_g tcX11_entry_4 2 rfl) (dk_g tcX11_entry_4 3 rfl) (dk_g tcX11_entry_4 4 rfl) rfl
theorem dX11_entry_53 : decode cX11_entry 53 = .ok (.ireturn, 1) := dk_1172 (dk_g tcX11_entry_4 5 rfl)
theorem dX11_entry_54 : decode cX11_entry 54 = .ok (.iload_n 3, 1) := dk_1029 (dk_g tcX11_entry_4 6 rfl)
theorem dX11_entry_55 : decode cX11_entry 55 = .ok (.ifCond .ne 13, 3) := dk_2154 (dk_g tcX11_entry_4 7 rfl) (dk_g tcX11_entry_4 8 rfl) (dk_g tcX11_entry_4 9 rfl) rfl rfl
theorem dX11_entry_58 : decode cX11_entry 58 = .ok (.aload_n 0, 1) := dk_1042 (dk_g tcX11_entry_4 10 rfl)
theorem tcX11_entry_5 : (cX11_entry.data.toList.drop 60).take 12 = [5, 180, 0, 150, 182, 0, 115, 172, 29, 4, 160, 0] := by decide +kernel
theorem dX11_entry_59 : decode cX11_entry 59 = .ok (.aload 5, 2) := dk_1025 (dk_g tcX11_entry_4 11 rfl) (dk_g tcX11_entry_5 0 rfl) rfl
theorem dX11_entry_61 : decode cX11_entry 61 = .ok (.getfield 150, 3) := dk_1180 (dk_g tcX11_entry_5 1 rfl) (dk_g tcX11_entry_5 2 rfl) (dk_g tcX11_entry_5 3 rfl) rfl
theorem dX11_entry_64 : decode cX11_entry 64 = .ok (.invokevirtual 115, 3) := dk_1182 (dk_g tcX11_entry_5 4 rfl) (dk_g tcX11_entry_5 5 rfl) (dk_g tcX11_entry_5 6 rfl) rfl
theorem dX11_entry_67 : decode cX11_entry 67 = .ok (.ireturn, 1) := dk_1172 (dk_g tcX11_entry_5 7 rfl)
theorem dX11_entry_68 : decode cX11_entry 68 = .ok (.iload_n 3, 1) := dk_1029 (dk_g tcX11_entry_5 8 rfl)
theorem dX11_entry_69 : decode cX11_entry 69 = .ok (.iconst 1, 1) := dk_1004 (dk_g tcX11_entry_5 9 rfl)
theorem tcX11_entry_6 : (cX11_entry.data.toList.drop 72).take 12 = [14, 42, 25, 4, 28, 182, 0, 174, 182, 0, 115, 172] := by decide +kernel
theorem dX11_entry_70 : decode cX11_entry 70 = .ok (.if_icmp .ne 14, 3) := dk_2160 (dk_g tcX11_entry_5 10 rfl) (dk_g tcX11_entry_5 11 rfl) (dk_g tcX11_entry_6 0 rfl) rfl rfl
theorem dX11_entry_73 : decode cX11_entry 73 = .ok (.aload_n 0, 1) := dk_1042 (dk_g tcX11_entry_6 1 rfl)
theorem dX11_entry_74 : decode cX11_entry 74 = .ok (.aload 4, 2) := dk_1025 (dk_g tcX11_entry_6 2 rfl) (dk_g tcX11_entry_6 3 rfl) rfl
theorem dX11_entry_76 : decode cX11_entry 76 = .ok (.iload_n 2, 1) := dk_1028 (dk_g tcX11_entry_6 4 rfl)
theorem dX11_entry_77 : decode cX11_entry 77 = .ok (.invokevirtual 174, 3) := dk_1182 (dk_g tcX11_entry_6 5 rfl) (dk_g tcX11_entry_6 6 rfl) (dk_g tcX11_entry_6 7 rfl) rfl
theorem dX11_entry_80 : decode cX11_entry 80 = .ok (.invokevirtual 115, 3) := dk_1182 (dk_g tcX11_entry_6 8 rfl) (dk_g tcX11_entry_6 9 rfl) (dk_g tcX11_entry_6 10 rfl) rfl
theorem dX11_entry_83 : decode cX11_entry 83 = .ok (.ireturn, 1) := dk_1172 (dk_g tcX11_entry_6 11 rfl)
theorem tcX11_entry_7 : (cX11_entry.data.toList.drop 84).take 12 = [29, 5, 100, 25, 5, 180, 0, 150, 162, 0, 18, 42] := by decide +kernel
theorem dX11_entry_84 : decode cX11_entry 84 = .ok (.iload_n 3, 1) := dk_1029 (dk_g tcX11_entry_7 0 rfl)
theorem dX11_entry_85 : decode cX11_entry 85 = .ok (.iconst 2, 1) := dk_1005 (dk_g tcX11_entry_7 1 rfl)
theorem dX11_entry_86 : decode cX11_entry 86 = .ok (.isub, 1) := dk_1100 (dk_g tcX11_entry_7 2 rfl)
theorem dX11_entry_87 : decode cX11_entry 87 = .ok (.aload 5, 2) := dk_1025 (dk_g tcX11_entry_7 3 rfl) (dk_g tcX11_entry_7 4 rfl) rfl
theorem dX11_entry_89 : decode cX11_entry 89 = .ok (.getfield 150, 3) := dk_1180 (dk_g tcX11_entry_7 5 rfl) (dk_g tcX11_entry_7 6 rfl) (dk_g tcX11_entry_7 7 rfl) rfl
theorem dX11_entry_92 : decode cX11_entry 92 = .ok (.if_icmp .ge 18, 3) := dk_2162 (dk_g tcX11_entry_7 8 rfl) (dk_g tcX11_entry_7 9 rfl) (dk_g tcX11_entry_7 10 rfl) rfl rfl
theorem dX11_entry_95 : decode cX11_entry 95 = .ok (.aload_n 0, 1) := dk_1042 (dk_g tcX11_entry_7 11 rfl)
theorem tcX11_entry_8 : (cX11_entry.data.toList.drop 96).take 12 = [25, 5, 29, 5, 100, 182, 0, 177, 182, 0, 115, 167] := by decide +kernel
theorem dX11_entry_96 : decode cX11_entry 96 = .ok (.aload 5, 2) := dk_1025 (dk_g tcX11_entry_8 0 rfl) (dk_g tcX11_entry_8 1 rfl) rfl
theorem dX11_entry_98 : decode cX11_entry 98 = .ok (.iload_n 3, 1) := dk_1029 (dk_g tcX11_entry_8 2 rfl)
theorem dX11_entry_99 : decode cX11_entry 99 = .ok (.iconst 2, 1) := dk_1005 (dk_g tcX11_entry_8 3 rfl)
theorem dX11_entry_100 : decode cX11_entry 100 = .ok (.isub, 1) := dk_1100 (dk_g tcX11_entry_8 4 rfl)
theorem dX11_entry_101 : decode cX11_entry 101 = .ok (.invokevirtual 177, 3) := dk_1182 (dk_g tcX11_entry_8 5 rfl) (dk_g tcX11_entry_8 6 rfl) (dk_g tcX11_entry_8 7 rfl) rfl
theorem dX11_entry_104 : decode cX11_entry 104 = .ok (.invokevirtual 115, 3) := dk_1182 (dk_g tcX11_entry_8 8 rfl) (dk_g tcX11_entry_8 9 rfl) (dk_g tcX11_entry_8 10 rfl) rfl
theorem tcX11_entry_9 : (cX11_entry.data.toList.drop 108).take 12 = [0, 8, 42, 8, 182, 0, 98, 172] := by decide +kernel
theorem dX11_entry_107 : decode cX11_entry 107 = .ok (.goto 8, 3) := dk_2167 (dk_g tcX11_entry_8 11 rfl) (dk_g tcX11_entry_9 0 rfl) (dk_g tcX11_entry_9 1 rfl) rfl rfl
theorem dX11_entry_110 : decode cX11_entry 110 = .ok (.aload_n 0, 1) := dk_1042 (dk_g tcX11_entry_9 2 rfl)
theorem dX11_entry_111 : decode cX11_entry 111 = .ok (.iconst 5, 1) := dk_1008 (dk_g tcX11_entry_9 3 rfl)
theorem dX11_entry_112 : decode cX11_entry 112 = .ok (.invokevirtual 98, 3) := dk_1182 (dk_g tcX11_entry_9 4 rfl) (dk_g tcX11_entry_9 5 rfl) (dk_g tcX11_entry_9 6 rfl) rfl
theorem dX11_entry_115 : decode cX11_entry 115 = .ok (.ireturn, 1) := dk_1172 (dk_g tcX11_entry_9 7 rfl)
theorem tcX11_head_0 : (cX11_head.data.toList.drop 0).take 12 = [42, 180, 0, 16, 27, 182, 0, 163, 78, 45, 3, 28] := by decide +kernel
theorem dX11_head_0 : decode cX11_head 0 = .ok (.aload_n 0, 1) := dk_1042 (dk_g tcX11_head_0 0 rfl)
theorem dX11_head_1 : decode cX11_head 1 = .ok (.getfield 16, 3) := dk_1180 (dk_g tcX11_head_0 1 rfl) (dk_g tcX11_head_0 2 rfl) (dk_g tcX11_head_0 3 rfl) rfl
theorem dX11_head_4 : decode cX11_head 4 = .ok (.iload_n 1, 1) := dk_1027 (dk_g tcX11_head_0 4 rfl)
theorem dX11_head_5 : decode cX11_head 5 = .ok (.invokevirtual 163, 3) := dk_1182 (dk_g tcX11_head_0 5 rfl) (dk_g tcX11_head_0 6 rfl) (dk_g tcX11_head_0 7 rfl) rfl
theorem dX11_head_8 : decode cX11_head 8 = .ok (.astore_n 3, 1) := dk_1078 (dk_g tcX11_head_0 8 rfl)
theorem dX11_head_9 : decode cX11_head 9 = .ok (.aload_n 3, 1) := dk_1045 (dk_g tcX11_head_0 9 rfl)
theorem dX11_head_10 : decode cX11_head 10 = .ok (.iconst 0, 1) := dk_1003 (dk_g tcX11_head_0 10 rfl)
theorem dX11_head_11 : decode cX11_head 11 = .ok (.iload_n 2, 1) := dk_1028 (dk_g tcX11_head_0 11 rfl)
theorem tcX11_head_1 : (cX11_head.data.toList.drop 12).take 12 = [184, 0, 180, 54, 4, 21, 4, 153, 0, 12, 42, 21] := by decide +kernel
theorem dX11_head_12 : decode cX11_head 12 = .ok (.invokestatic 180, 3) := dk_1184 (dk_g tcX11_head_1 0 rfl) (dk_g tcX11_head_1 1 rfl) (dk_g tcX11_head_1 2 rfl) rfl
theorem dX11_head_15 : decode cX11_head 15 = .ok (.istore 4, 2) := dk_1054 (dk_g tcX11_head_1 3 rfl) (dk_g tcX11_head_1 4 rfl) rfl
theorem dX11_head_17 : decode cX11_head 17 = .ok (.iload 4, 2) := dk_1021 (dk_g tcX11_head_1 5 rfl) (dk_g tcX11_head_1 6 rfl) rfl
theorem dX11_head_19 : decode cX11_head 19 = .ok (.ifCond .eq 12, 3) := dk_2153 (dk_g tcX11_head_1 7 rfl) (dk_g tcX11_head_1 8 rfl) (dk_g tcX11_head_1 9 rfl) rfl rfl
theorem dX11_head_22 : decode cX11_head 22 = .ok (.aload_n 0, 1) := dk_1042 (dk_g tcX11_head_1 10 rfl)
theorem tcX11_head_2 : (cX11_head.data.toList.drop 24).take 12 = [4, 182, 0, 98, 167, 0, 16, 42, 42, 180, 0, 16] := by decide +kernel
theorem dX11_head_23 : decode cX11_head 23 = .ok (.iload 4, 2) := dk_1021 (dk_g tcX11_head_1 11 rfl) (dk_g tcX11_head_2 0 rfl) rfl
theorem dX11_head_25 : decode cX11_head 25 = .ok (.invokevirtual 98, 3) := dk_1182 (dk_g tcX11_head_2 1 rfl) (dk_g tcX11_head_2 2 rfl) (dk_g tcX11_head_2 3 rfl) rfl
theorem dX11_head_28 : decode cX11_head 28 = .ok (.goto 16, 3) := dk_2167 (dk_g tcX11_head_2 4 rfl) (dk_g tcX11_head_2 5 rfl) (dk_g tcX11_head_2 6 rfl) rfl rfl
theorem dX11_head_31 : decode cX11_head 31 = .ok (.aload_n 0, 1) := dk_1042 (dk_g tcX11_head_2 7 rfl)
theorem dX11_head_32 : decode cX11_head 32 = .ok (.aload_n 0, 1) := dk_1042 (dk_g tcX11_head_2 8 rfl)
theorem dX11_head_33 : decode cX11_head 33 = .ok (.getfield 16, 3) := dk_1180 (dk_g tcX11_head_2 9 rfl) (dk_g tcX11_head_2 10 rfl) (dk_g tcX11_head_2 11 rfl) rfl
theorem tcX11_head_3 : (cX11_head.data.toList.drop 36).take 12 = [45, 28, 182, 0, 184, 182, 0, 115, 172] := by decide +kernel
theorem dX11_head_36 : decode cX11_head 36 = .ok (.aload_n 3, 1) := dk_1045 (dk_g tcX11_head_3 0 rfl)
theorem dX11_head_37 : decode cX11_head 37 = .ok (.iload_n 2, 1) := dk_1028 (dk_g tcX11_head_3 1 rfl)
theorem dX11_head_38 : decode cX11_head 38 = .ok (.invokevirtual 184, 3) := dk_1182 (dk_g tcX11_head_3 2 rfl) (dk_g tcX11_head_3 3 rfl) (dk_g tcX11_head_3 4 rfl) rfl
theorem dX11_head_41 : decode cX11_head 41 = .ok (.invokevirtual 115, 3) := dk_1182 (dk_g tcX11_head_3 5 rfl) (dk_g tcX11_head_3 6 rfl) (dk_g tcX11_head_3 7 rfl) rfl
theorem dX11_head_44 : decode cX11_head 44 = .ok (.ireturn, 1) := dk_1172 (dk_g tcX11_head_3 8 rfl)
theorem tcX11_join_0 : (cX11_join.data.toList.drop 0).take 12 = [42, 27, 182, 0, 188, 153, 0, 11, 42, 28, 182, 0] := by decide +kernel
theorem dX11_join_0 : decode cX11_join 0 = .ok (.aload_n 0, 1) := dk_1042 (dk_g tcX11_join_0 0 rfl)
theorem dX11_join_1 : decode cX11_join 1 = .ok (.iload_n 1, 1) := dk_1027 (dk_g tcX11_join_0 1 rfl)
theorem dX11_join_2 : decode cX11_join 2 = .ok (.invokevirtual 188, 3) := dk_1182 (dk_g tcX11_join_0 2 rfl) (dk_g tcX11_join_0 3 rfl) (dk_g tcX11_join_0 4 rfl) rfl
theorem dX11_join_5 : decode cX11_join 5 = .ok (.ifCond .eq 11, 3) := dk_2153 (dk_g tcX11_join_0 5 rfl) (dk_g tcX11_join_0 6 rfl) (dk_g tcX11_join_0 7 rfl) rfl rfl
theorem dX11_join_8 : decode cX11_join 8 = .ok (.aload_n 0, 1) := dk_1042 (dk_g tcX11_join_0 8 rfl)
theorem dX11_join_9 : decode cX11_join 9 = .ok (.iload_n 2, 1) := dk_1028 (dk_g tcX11_join_0 9 rfl)
theorem tcX11_join_1 : (cX11_join.data.toList.drop 12).take 12 = [188, 154, 0, 9, 42, 4, 182, 0, 98, 172, 42, 42] := by decide +kernel
theorem dX11_join_10 : decode cX11_join 10 = .ok (.invokevirtual 188, 3) := dk_1182 (dk_g tcX11_join_0 10 rfl) (dk_g tcX11_join_0 11 rfl) (dk_g tcX11_join_1 0 rfl) rfl
theorem dX11_join_13 : decode cX11_join 13 = .ok (.ifCond .ne 9, 3) := dk_2154 (dk_g tcX11_join_1 1 rfl) (dk_g tcX11_join_1 2 rfl) (dk_g tcX11_join_1 3 rfl) rfl rfl
theorem dX11_join_16 : decode cX11_join 16 = .ok (.aload_n 0, 1) := dk_1042 (dk_g tcX11_join_1 4 rfl)
theorem dX11_join_17 : decode cX11_join 17 = .ok (.iconst 1, 1) := dk_1004 (dk_g tcX11_join_1 5 rfl)
theorem dX11_join_18 : decode cX11_join 18 = .ok (.invokevirtual 98, 3) := dk_1182 (dk_g tcX11_join_1 6 rfl) (dk_g tcX11_join_1 7 rfl) (dk_g tcX11_join_1 8 rfl) rfl
theorem dX11_join_21 : decode cX11_join 21 = .ok (.ireturn, 1) := dk_1172 (dk_g tcX11_join_1 9 rfl)
theorem dX11_join_22 : decode cX11_join 22 = .ok (.aload_n 0, 1) := dk_1042 (dk_g tcX11_join_1 10 rfl)
theorem dX11_join_23 : decode cX11_join 23 = .ok (.aload_n 0, 1) := dk_1042 (dk_g tcX11_join_1 11 rfl)
theorem tcX11_join_2 : (cX11_join.data.toList.drop 24).take 12 = [180, 0, 16, 180, 0, 122, 27, 28, 184, 0, 191, 182] := by decide +kernel
theorem dX11_join_24 : decode cX11_join 24 = .ok (.getfield 16, 3) := dk_1180 (dk_g tcX11_join_2 0 rfl) (dk_g tcX11_join_2 1 rfl) (dk_g tcX11_join_2 2 rfl) rfl
theorem dX11_join_27 : decode cX11_join 27 = .ok (.getfield 122, 3) := dk_1180 (dk_g tcX11_join_2 3 rfl) (dk_g tcX11_join_2 4 rfl) (dk_g tcX11_join_2 5 rfl) rfl
theorem dX11_join_30 : decode cX11_join 30 = .ok (.iload_n 1, 1) := dk_1027 (dk_g tcX11_join_2 6 rfl)
theorem dX11_join_31 : decode cX11_join 31 = .ok (.iload_n 2, 1) := dk_1028 (dk_g tcX11_join_2 7 rfl)
theorem dX11_join_32 : decode cX11_join 32 = .ok (.invokestatic 191, 3) := dk_1184 (dk_g tcX11_join_2 8 rfl) (dk_g tcX11_join_2 9 rfl) (dk_g tcX11_join_2 10 rfl) rfl
theorem tcX11_join_3 : (cX11_join.data.toList.drop 36).take 12 = [0, 115, 172] := by decide +kernel
theorem dX11_join_35 : decode cX11_join 35 = .ok (.invokevirtual 115, 3) := dk_1182 (dk_g tcX11_join_2 11 rfl) (dk_g tcX11_join_3 0 rfl) (dk_g tcX11_join_3 1 rfl) rfl
theorem dX11_join_38 : decode cX11_join 38 = .ok (.ireturn, 1) := dk_1172 (dk_g tcX11_join_3 2 rfl)
theorem tcX11_mark_0 : (cX11_mark.data.toList.drop 0).take 12 = [42, 42, 180, 0, 40, 42, 180, 0, 16, 180, 0, 122] := by decide +kernel
theorem dX11_mark_0 : decode cX11_mark 0 = .ok (.aload_n 0, 1) := dk_1042 (dk_g tcX11_mark_0 0 rfl)
theorem dX11_mark_1 : decode cX11_mark 1 = .ok (.aload_n 0, 1) := dk_1042 (dk_g tcX11_mark_0 1 rfl)
theorem dX11_mark_2 : decode cX11_mark 2 = .ok (.getfield 40, 3) := dk_1180 (dk_g tcX11_mark_0 2 rfl) (dk_g tcX11_mark_0 3 rfl) (dk_g tcX11_mark_0 4 rfl) rfl
theorem dX11_mark_5 : decode cX11_mark 5 = .ok (.aload_n 0, 1) := dk_1042 (dk_g tcX11_mark_0 5 rfl)
theorem dX11_mark_6 : decode cX11_mark 6 = .ok (.getfield 16, 3) := dk_1180 (dk_g tcX11_mark_0 6 rfl) (dk_g tcX11_mark_0 7 rfl) (dk_g tcX11_mark_0 8 rfl) rfl
theorem dX11_mark_9 : decode cX11_mark 9 = .ok (.getfield 122, 3) := dk_1180 (dk_g tcX11_mark_0 9 rfl) (dk_g tcX11_mark_0 10 rfl) (dk_g tcX11_mark_0 11 rfl) rfl
theorem tcX11_mark_1 : (cX11_mark.data.toList.drop 12).take 12 = [182, 0, 195, 182, 0, 115, 172] := by decide +kernel
theorem dX11_mark_12 : decode cX11_mark 12 = .ok (.invokevirtual 195, 3) := dk_1182 (dk_g tcX11_mark_1 0 rfl) (dk_g tcX11_mark_1 1 rfl) (dk_g tcX11_mark_1 2 rfl) rfl
theorem dX11_mark_15 : decode cX11_mark 15 = .ok (.invokevirtual 115, 3) := dk_1182 (dk_g tcX11_mark_1 3 rfl) (dk_g tcX11_mark_1 4 rfl) (dk_g tcX11_mark_1 5 rfl) rfl
theorem dX11_mark_18 : decode cX11_mark 18 = .ok (.ireturn, 1) := dk_1172 (dk_g tcX11_mark_1 6 rfl)
theorem tcX11_frozen_0 : (cX11_frozen.data.toList.drop 0).take 12 = [27, 155, 0, 12, 28, 155, 0, 8, 28, 7, 164, 0] := by decide +kernel
theorem dX11_frozen_0 : decode cX11_frozen 0 = .ok (.iload_n 1, 1) := dk_1027 (dk_g tcX11_frozen_0 0 rfl)
theorem dX11_frozen_1 : decode cX11_frozen 1 = .ok (.ifCond .lt 12, 3) := dk_2155 (dk_g tcX11_frozen_0 1 rfl) (dk_g tcX11_frozen_0 2 rfl) (dk_g tcX11_frozen_0 3 rfl) rfl rfl
theorem dX11_frozen_4 : decode cX11_frozen 4 = .ok (.iload_n 2, 1) := dk_1028 (dk_g tcX11_frozen_0 4 rfl)
theorem dX11_frozen_5 : decode cX11_frozen 5 = .ok (.ifCond .lt 8, 3) := dk_2155 (dk_g tcX11_frozen_0 5 rfl) (dk_g tcX11_frozen_0 6 rfl) (dk_g tcX11_frozen_0 7 rfl) rfl rfl
theorem dX11_frozen_8 : decode cX11_frozen 8 = .ok (.iload_n 2, 1) := dk_1028 (dk_g tcX11_frozen_0 8 rfl)
theorem dX11_frozen_9 : decode cX11_frozen 9 = .ok (.iconst 4, 1) := dk_1007 (dk_g tcX11_frozen_0 9 rfl)
theorem tcX11_frozen_1 : (cX11_frozen.data.toList.drop 12).take 12 = [9, 42, 4, 182, 0, 98, 172, 42, 180, 0, 16, 27] := by decide +kernel
theorem dX11_frozen_10 : decode cX11_frozen 10 = .ok (.if_icmp .le 9, 3) := dk_2164 (dk_g tcX11_frozen_0 10 rfl) (dk_g tcX11_frozen_0 11 rfl) (dk_g tcX11_frozen_1 0 rfl) rfl rfl
theorem dX11_frozen_13 : decode cX11_frozen 13 = .ok (.aload_n 0, 1) := dk_1042 (dk_g tcX11_frozen_1 1 rfl)
theorem dX11_frozen_14 : decode cX11_frozen 14 = .ok (.iconst 1, 1) := dk_1004 (dk_g tcX11_frozen_1 2 rfl)
theorem dX11_frozen_15 : decode cX11_frozen 15 = .ok (.invokevirtual 98, 3) := dk_1182 (dk_g tcX11_frozen_1 3 rfl) (dk_g tcX11_frozen_1 4 rfl) (dk_g tcX11_frozen_1 5 rfl) rfl
theorem dX11_frozen_18 : decode cX11_frozen 18 = .ok (.ireturn, 1) := dk_1172 (dk_g tcX11_frozen_1 6 rfl)
theorem dX11_frozen_19 : decode cX11_frozen 19 = .ok (.aload_n 0, 1) := dk_1042 (dk_g tcX11_frozen_1 7 rfl)
theorem dX11_frozen_20 : decode cX11_frozen 20 = .ok (.getfield 16, 3) := dk_1180 (dk_g tcX11_frozen_1 8 rfl) (dk_g tcX11_frozen_1 9 rfl) (dk_g tcX11_frozen_1 10 rfl) rfl
theorem dX11_frozen_23 : decode cX11_frozen 23 = .ok (.iload_n 1, 1) := dk_1027 (dk_g tcX11_frozen_1 11 rfl)
theorem tcX11_frozen_2 : (cX11_frozen.data.toList.drop 24).take 12 = [182, 0, 198, 78, 45, 199, 0, 9, 42, 8, 182, 0] := by decide +kernel
theorem dX11_frozen_24 : decode cX11_frozen 24 = .ok (.invokevirtual 198, 3) := dk_1182 (dk_g tcX11_frozen_2 0 rfl) (dk_g tcX11_frozen_2 1 rfl) (dk_g tcX11_frozen_2 2 rfl) rfl
theorem dX11_frozen_27 : decode cX11_frozen 27 = .ok (.astore_n 3, 1) := dk_1078 (dk_g tcX11_frozen_2 3 rfl)
theorem dX11_frozen_28 : decode cX11_frozen 28 = .ok (.aload_n 3, 1) := dk_1045 (dk_g tcX11_frozen_2 4 rfl)
theorem dX11_frozen_29 : decode cX11_frozen 29 = .ok (.ifnonnull 9, 3) := dk_2199 (dk_g tcX11_frozen_2 5 rfl) (dk_g tcX11_frozen_2 6 rfl) (dk_g tcX11_frozen_2 7 rfl) rfl rfl
theorem dX11_frozen_32 : decode cX11_frozen 32 = .ok (.aload_n 0, 1) := dk_1042 (dk_g tcX11_frozen_2 8 rfl)
theorem dX11_frozen_33 : decode cX11_frozen 33 = .ok (.iconst 5, 1) := dk_1008 (dk_g tcX11_frozen_2 9 rfl)
theorem tcX11_frozen_3 : (cX11_frozen.data.toList.drop 36).take 12 = [98, 172, 28, 170, 0, 0, 0, 65, 0, 0, 0, 0] := by decide +kernel
theorem dX11_frozen_34 : decode cX11_frozen 34 = .ok (.invokevirtual 98, 3) := dk_1182 (dk_g tcX11_frozen_2 10 rfl) (dk_g tcX11_frozen_2 11 rfl) (dk_g tcX11_frozen_3 0 rfl) rfl
theorem dX11_frozen_37 : decode cX11_frozen 37 = .ok (.ireturn, 1) := dk_1172 (dk_g tcX11_frozen_3 1 rfl)
theorem dX11_frozen_38 : decode cX11_frozen 38 = .ok (.iload_n 2, 1) := dk_1028 (dk_g tcX11_frozen_3 2 rfl)
theorem dX11_frozen_39 : decode cX11_frozen 39 = .ok (.tableswitch 65 0 3 #[29, 38, 47, 56], 29) := by decide +kernel
theorem tcX11_frozen_5 : (cX11_frozen.data.toList.drop 60).take 12 = [0, 0, 0, 47, 0, 0, 0, 56, 42, 45, 180, 0] := by decide +kernel
theorem dX11_frozen_68 : decode cX11_frozen 68 = .ok (.aload_n 0, 1) := dk_1042 (dk_g tcX11_frozen_5 8 rfl)
theorem dX11_frozen_69 : decode cX11_frozen 69 = .ok (.aload_n 3, 1) := dk_1045 (dk_g tcX11_frozen_5 9 rfl)
theorem tcX11_frozen_6 : (cX11_frozen.data.toList.drop 72).take 12 = [202, 182, 0, 115, 172, 42, 45, 180, 0, 207, 182, 0] := by decide +kernel
theorem dX11_frozen_70 : decode cX11_frozen 70 = .ok (.getfield 202, 3) := dk_1180 (dk_g tcX11_frozen_5 10 rfl) (dk_g tcX11_frozen_5 11 rfl) (dk_g tcX11_frozen_6 0 rfl) rfl
theorem dX11_frozen_73 : decode cX11_frozen 73 = .ok (.invokevirtual 115, 3) := dk_1182 (dk_g tcX11_frozen_6 1 rfl) (dk_g tcX11_frozen_6 2 rfl) (dk_g tcX11_frozen_6 3 rfl) rfl
theorem dX11_frozen_76 : decode cX11_frozen 76 = .ok (.ireturn, 1) := dk_1172 (dk_g tcX11_frozen_6 4 rfl)
theorem dX11_frozen_77 : decode cX11_frozen 77 = .ok (.aload_n 0, 1) := dk_1042 (dk_g tcX11_frozen_6 5 rfl)
theorem dX11_frozen_78 : decode cX11_frozen 78 = .ok (.aload_n 3, 1) := dk_1045 (dk_g tcX11_frozen_6 6 rfl)
theorem dX11_frozen_79 : decode cX11_frozen 79 = .ok (.getfield 207, 3) := dk_1180 (dk_g tcX11_frozen_6 7 rfl) (dk_g tcX11_frozen_6 8 rfl) (dk_g tcX11_frozen_6 9 rfl) rfl
theorem tcX11_frozen_7 : (cX11_frozen.data.toList.drop 84).take 12 = [115, 172, 42, 45, 180, 0, 210, 182, 0, 115, 172, 42] := by decide +kernel
theorem dX11_frozen_82 : decode cX11_frozen 82 = .ok (.invokevirtual 115, 3) := dk_1182 (dk_g tcX11_frozen_6 10 rfl) (dk_g tcX11_frozen_6 11 rfl) (dk_g tcX11_frozen_7 0 rfl) rfl
theorem dX11_frozen_85 : decode cX11_frozen 85 = .ok (.ireturn, 1) := dk_1172 (dk_g tcX11_frozen_7 1 rfl)
theorem dX11_frozen_86 : decode cX11_frozen 86 = .ok (.aload_n 0, 1) := dk_1042 (dk_g tcX11_frozen_7 2 rfl)
theorem dX11_frozen_87 : decode cX11_frozen 87 = .ok (.aload_n 3, 1) := dk_1045 (dk_g tcX11_frozen_7 3 rfl)
theorem dX11_frozen_88 : decode cX11_frozen 88 = .ok (.getfield 210, 3) := dk_1180 (dk_g tcX11_frozen_7 4 rfl) (dk_g tcX11_frozen_7 5 rfl) (dk_g tcX11_frozen_7 6 rfl) rfl
theorem dX11_frozen_91 : decode cX11_frozen 91 = .ok (.invokevirtual 115, 3) := dk_1182 (dk_g tcX11_frozen_7 7 rfl) (dk_g tcX11_frozen_7 8 rfl) (dk_g tcX11_frozen_7 9 rfl) rfl
theorem dX11_frozen_94 : decode cX11_frozen 94 = .ok (.ireturn, 1) := dk_1172 (dk_g tcX11_frozen_7 10 rfl)
theorem dX11_frozen_95 : decode cX11_frozen 95 = .ok (.aload_n 0, 1) := dk_1042 (dk_g tcX11_frozen_7 11 rfl)
theorem tcX11_frozen_8 : (cX11_frozen.data.toList.drop 96).take 12 = [45, 180, 0, 213, 182, 0, 115, 172, 42, 42, 180, 0] := by decide +kernel
theorem dX11_frozen_96 : decode cX11_frozen 96 = .ok (.aload_n 3, 1) := dk_1045 (dk_g tcX11_frozen_8 0 rfl)
theorem dX11_frozen_97 : decode cX11_frozen 97 = .ok (.getfield 213, 3) := dk_1180 (dk_g tcX11_frozen_8 1 rfl) (dk_g tcX11_frozen_8 2 rfl) (dk_g tcX11_frozen_8 3 rfl) rfl
theorem dX11_frozen_100 : decode cX11_frozen 100 = .ok (.invokevirtual 115, 3) := dk_1182 (dk_g tcX11_frozen_8 4 rfl) (dk_g tcX11_frozen_8 5 rfl) (dk_g tcX11_frozen_8 6 rfl) rfl
theorem dX11_frozen_103 : decode cX11_frozen 103 = .ok (.ireturn, 1) := dk_1172 (dk_g tcX11_frozen_8 7 rfl)
theorem dX11_frozen_104 : decode cX11_frozen 104 = .ok (.aload_n 0, 1) := dk_1042 (dk_g tcX11_frozen_8 8 rfl)
theorem dX11_frozen_105 : decode cX11_frozen 105 = .ok (.aload_n 0, 1) := dk_1042 (dk_g tcX11_frozen_8 9 rfl)
theorem tcX11_frozen_9 : (cX11_frozen.data.toList.drop 108).take 12 = [16, 45, 182, 0, 216, 153, 0, 7, 4, 167, 0, 4] := by decide +kernel
theorem dX11_frozen_106 : decode cX11_frozen 106 = .ok (.getfield 16, 3) := dk_1180 (dk_g tcX11_frozen_8 10 rfl) (dk_g tcX11_frozen_8 11 rfl) (dk_g tcX11_frozen_9 0 rfl) rfl
theorem dX11_frozen_109 : decode cX11_frozen 109 = .ok (.aload_n 3, 1) := dk_1045 (dk_g tcX11_frozen_9 1 rfl)
theorem dX11_frozen_110 : decode cX11_frozen 110 = .ok (.invokevirtual 216, 3) := dk_1182 (dk_g tcX11_frozen_9 2 rfl) (dk_g tcX11_frozen_9 3 rfl) (dk_g tcX11_frozen_9 4 rfl) rfl
theorem dX11_frozen_113 : decode cX11_frozen 113 = .ok (.ifCond .eq 7, 3) := dk_2153 (dk_g tcX11_frozen_9 5 rfl) (dk_g tcX11_frozen_9 6 rfl) (dk_g tcX11_frozen_9 7 rfl) rfl rfl
theorem dX11_frozen_116 : decode cX11_frozen 116 = .ok (.iconst 1, 1) := dk_1004 (dk_g tcX11_frozen_9 8 rfl)
theorem dX11_frozen_117 : decode cX11_frozen 117 = .ok (.goto 4, 3) := dk_2167 (dk_g tcX11_frozen_9 9 rfl) (dk_g tcX11_frozen_9 10 rfl) (dk_g tcX11_frozen_9 11 rfl) rfl rfl
theorem tcX11_frozen_10 : (cX11_frozen.data.toList.drop 120).take 12 = [3, 182, 0, 115, 172] := by decide +kernel
theorem dX11_frozen_120 : decode cX11_frozen 120 = .ok (.iconst 0, 1) := dk_1003 (dk_g tcX11_frozen_10 0 rfl)
theorem dX11_frozen_121 : decode cX11_frozen 121 = .ok (.invokevirtual 115, 3) := dk_1182 (dk_g tcX11_frozen_10 1 rfl) (dk_g tcX11_frozen_10 2 rfl) (dk_g tcX11_frozen_10 3 rfl) rfl
theorem dX11_frozen_124 : decode cX11_frozen 124 = .ok (.ireturn, 1) := dk_1172 (dk_g tcX11_frozen_10 4 rfl)
theorem tcX11_watcher_0 : (cX11_watcher.data.toList.drop 0).take 12 = [28, 155, 0, 8, 28, 6, 164, 0, 9, 42, 4, 182] := by decide +kernel
theorem dX11_watcher_0 : decode cX11_watcher 0 = .ok (.iload_n 2, 1) := dk_1028 (dk_g tcX11_watcher_0 0 rfl)
theorem dX11_watcher_1 : decode cX11_watcher 1 = .ok (.ifCond .lt 8, 3) := dk_2155 (dk_g tcX11_watcher_0 1 rfl) (dk_g tcX11_watcher_0 2 rfl) (dk_g tcX11_watcher_0 3 rfl) rfl rfl
theorem dX11_watcher_4 : decode cX11_watcher 4 = .ok (.iload_n 2, 1) := dk_1028 (dk_g tcX11_watcher_0 4 rfl)
theorem dX11_watcher_5 : decode cX11_watcher 5 = .ok (.iconst 3, 1) := dk_1006 (dk_g tcX11_watcher_0 5 rfl)
theorem dX11_watcher_6 : decode cX11_watcher 6 = .ok (.if_icmp .le 9, 3) := dk_2164 (dk_g tcX11_watcher_0 6 rfl) (dk_g tcX11_watcher_0 7 rfl) (dk_g tcX11_watcher_0 8 rfl) rfl rfl
theorem dX11_watcher_9 : decode cX11_watcher 9 = .ok (.aload_n 0, 1) := dk_1042 (dk_g tcX11_watcher_0 9 rfl)
theorem dX11_watcher_10 : decode cX11_watcher 10 = .ok (.iconst 1, 1) := dk_1004 (dk_g tcX11_watcher_0 10 rfl)
theorem tcX11_watcher_1 : (cX11_watcher.data.toList.drop 12).take 12 = [0, 98, 172, 42, 180, 0, 16, 27, 182, 0, 220, 78] := by decide +kernel
theorem dX11_watcher_11 : decode cX11_watcher 11 = .ok (.invokevirtual 98, 3) := dk_1182 (dk_g tcX11_watcher_0 11 rfl) (dk_g tcX11_watcher_1 0 rfl) (dk_g tcX11_watcher_1 1 rfl) rfl
theorem dX11_watcher_14 : decode cX11_watcher 14 = .ok (.ireturn, 1) := dk_1172 (dk_g tcX11_watcher_1 2 rfl)
theorem dX11_watcher_15 : decode cX11_watcher 15 = .ok (.aload_n 0, 1) := dk_1042 (dk_g tcX11_watcher_1 3 rfl)
theorem dX11_watcher_16 : decode cX11_watcher 16 = .ok (.getfield 16, 3) := dk_1180 (dk_g tcX11_watcher_1 4 rfl) (dk_g tcX11_watcher_1 5 rfl) (dk_g tcX11_watcher_1 6 rfl) rfl
theorem dX11_watcher_19 : decode cX11_watcher 19 = .ok (.iload_n 1, 1) := dk_1027 (dk_g tcX11_watcher_1 7 rfl)
theorem dX11_watcher_20 : decode cX11_watcher 20 = .ok (.invokevirtual 220, 3) := dk_1182 (dk_g tcX11_watcher_1 8 rfl) (dk_g tcX11_watcher_1 9 rfl) (dk_g tcX11_watcher_1 10 rfl) rfl
theorem dX11_watcher_23 : decode cX11_watcher 23 = .ok (.astore_n 3, 1) := dk_1078 (dk_g tcX11_watcher_1 11 rfl)
theorem tcX11_watcher_2 : (cX11_watcher.data.toList.drop 24).take 12 = [45, 199, 0, 9, 42, 5, 182, 0, 98, 172, 28, 170] := by decide +kernel
theorem dX11_watcher_24 : decode cX11_watcher 24 = .ok (.aload_n 3, 1) := dk_1045 (dk_g tcX11_watcher_2 0 rfl)
theorem dX11_watcher_25 : decode cX11_watcher 25 = .ok (.ifnonnull 9, 3) := dk_2199 (dk_g tcX11_watcher_2 1 rfl) (dk_g tcX11_watcher_2 2 rfl) (dk_g tcX11_watcher_2 3 rfl) rfl rfl
theorem dX11_watcher_28 : decode cX11_watcher 28 = .ok (.aload_n 0, 1) := dk_1042 (dk_g tcX11_watcher_2 4 rfl)
theorem dX11_watcher_29 : decode cX11_watcher 29 = .ok (.iconst 2, 1) := dk_1005 (dk_g tcX11_watcher_2 5 rfl)
theorem dX11_watcher_30 : decode cX11_watcher 30 = .ok (.invokevirtual 98, 3) := dk_1182 (dk_g tcX11_watcher_2 6 rfl) (dk_g tcX11_watcher_2 7 rfl) (dk_g tcX11_watcher_2 8 rfl) rfl
theorem dX11_watcher_33 : decode cX11_watcher 33 = .ok (.ireturn, 1) := dk_1172 (dk_g tcX11_watcher_2 9 rfl)
theorem dX11_watcher_34 : decode cX11_watcher 34 = .ok (.iload_n 2, 1) := dk_1028 (dk_g tcX11_watcher_2 10 rfl)
theorem dX11_watcher_35 : decode cX11_watcher 35 = .ok (.tableswitch 60 0 2 #[25, 34, 43], 25) := by decide +kernel
theorem tcX11_watcher_5 : (cX11_watcher.data.toList.drop 60).take 12 = [42, 45, 180, 0, 224, 182, 0, 115, 172, 42, 45, 180] := by decide +kernel
theorem dX11_watcher_60 : decode cX11_watcher 60 = .ok (.aload_n 0, 1) := dk_1042 (dk_g tcX11_watcher_5 0 rfl)
theorem dX11_watcher_61 : decode cX11_watcher 61 = .ok (.aload_n 3, 1) := dk_1045 (dk_g tcX11_watcher_5 1 rfl)
theorem dX11_watcher_62 : decode cX11_watcher 62 = .ok (.getfield 224, 3) := dk_1180 (dk_g tcX11_watcher_5 2 rfl) (dk_g tcX11_watcher_5 3 rfl) (dk_g tcX11_watcher_5 4 rfl) rfl
theorem dX11_watcher_65 : decode cX11_watcher 65 = .ok (.invokevirtual 115, 3) := dk_1182 (dk_g tcX11_watcher_5 5 rfl) (dk_g tcX11_watcher_5 6 rfl) (dk_g tcX11_watcher_5 7 rfl) rfl
theorem dX11_watcher_68 : decode cX11_watcher 68 = .ok (.ireturn, 1) := dk_1172 (dk_g tcX11_watcher_5 8 rfl)
theorem dX11_watcher_69 : decode cX11_watcher 69 = .ok (.aload_n 0, 1) := dk_1042 (dk_g tcX11_watcher_5 9 rfl)
theorem dX11_watcher_70 : decode cX11_watcher 70 = .ok (.aload_n 3, 1) := dk_1045 (dk_g tcX11_watcher_5 10 rfl)
theorem tcX11_watcher_6 : (cX11_watcher.data.toList.drop 72).take 12 = [0, 227, 182, 0, 115, 172, 42, 45, 180, 0, 230, 153] := by decide +kernel
theorem dX11_watcher_71 : decode cX11_watcher 71 = .ok (.getfield 227, 3) := dk_1180 (dk_g tcX11_watcher_5 11 rfl) (dk_g tcX11_watcher_6 0 rfl) (dk_g tcX11_watcher_6 1 rfl) rfl
theorem dX11_watcher_74 : decode cX11_watcher 74 = .ok (.invokevirtual 115, 3) := dk_1182 (dk_g tcX11_watcher_6 2 rfl) (dk_g tcX11_watcher_6 3 rfl) (dk_g tcX11_watcher_6 4 rfl) rfl
theorem dX11_watcher_77 : decode cX11_watcher 77 = .ok (.ireturn, 1) := dk_1172 (dk_g tcX11_watcher_6 5 rfl)
theorem dX11_watcher_78 : decode cX11_watcher 78 = .ok (.aload_n 0, 1) := dk_1042 (dk_g tcX11_watcher_6 6 rfl)
theorem dX11_watcher_79 : decode cX11_watcher 79 = .ok (.aload_n 3, 1) := dk_1045 (dk_g tcX11_watcher_6 7 rfl)
theorem dX11_watcher_80 : decode cX11_watcher 80 = .ok (.getfield 230, 3) := dk_1180 (dk_g tcX11_watcher_6 8 rfl) (dk_g tcX11_watcher_6 9 rfl) (dk_g tcX11_watcher_6 10 rfl) rfl
theorem tcX11_watcher_7 : (cX11_watcher.data.toList.drop 84).take 12 = [0, 7, 4, 167, 0, 4, 3, 182, 0, 115, 172, 42] := by decide +kernel
theorem dX11_watcher_83 : decode cX11_watcher 83 = .ok (.ifCond .eq 7, 3) := dk_2153 (dk_g tcX11_watcher_6 11 rfl) (dk_g tcX11_watcher_7 0 rfl) (dk_g tcX11_watcher_7 1 rfl) rfl rfl
theorem dX11_watcher_86 : decode cX11_watcher 86 = .ok (.iconst 1, 1) := dk_1004 (dk_g tcX11_watcher_7 2 rfl)
theorem dX11_watcher_87 : decode cX11_watcher 87 = .ok (.goto 4, 3) := dk_2167 (dk_g tcX11_watcher_7 3 rfl) (dk_g tcX11_watcher_7 4 rfl) (dk_g tcX11_watcher_7 5 rfl) rfl rfl
theorem dX11_watcher_90 : decode cX11_watcher 90 = .ok (.iconst 0, 1) := dk_1003 (dk_g tcX11_watcher_7 6 rfl)
theorem dX11_watcher_91 : decode cX11_watcher 91 = .ok (.invokevirtual 115, 3) := dk_1182 (dk_g tcX11_watcher_7 7 rfl) (dk_g tcX11_watcher_7 8 rfl) (dk_g tcX11_watcher_7 9 rfl) rfl
theorem dX11_watcher_94 : decode cX11_watcher 94 = .ok (.ireturn, 1) := dk_1172 (dk_g tcX11_watcher_7 10 rfl)
theorem dX11_watcher_95 : decode cX11_watcher 95 = .ok (.aload_n 0, 1) := dk_1042 (dk_g tcX11_watcher_7 11 rfl)
theorem tcX11_watcher_8 : (cX11_watcher.data.toList.drop 96).take 12 = [45, 180, 0, 234, 182, 0, 115, 172] := by decide +kernel
theorem dX11_watcher_96 : decode cX11_watcher 96 = .ok (.aload_n 3, 1) := dk_1045 (dk_g tcX11_watcher_8 0 rfl)
theorem dX11_watcher_97 : decode cX11_watcher 97 = .ok (.getfield 234, 3) := dk_1180 (dk_g tcX11_watcher_8 1 rfl) (dk_g tcX11_watcher_8 2 rfl) (dk_g tcX11_watcher_8 3 rfl) rfl
theorem dX11_watcher_100 : decode cX11_watcher 100 = .ok (.invokevirtual 115, 3) := dk_1182 (dk_g tcX11_watcher_8 4 rfl) (dk_g tcX11_watcher_8 5 rfl) (dk_g tcX11_watcher_8 6 rfl) rfl
theorem dX11_watcher_103 : decode cX11_watcher 103 = .ok (.ireturn, 1) := dk_1172 (dk_g tcX11_watcher_8 7 rfl)
theorem tcX11_add_0 : (cX11_add.data.toList.drop 0).take 12 = [42, 180, 0, 16, 27, 182, 0, 163, 77, 44, 199, 0] := by decide +kernel
theorem dX11_add_0 : decode cX11_add 0 = .ok (.aload_n 0, 1) := dk_1042 (dk_g tcX11_add_0 0 rfl)
theorem dX11_add_1 : decode cX11_add 1 = .ok (.getfield 16, 3) := dk_1180 (dk_g tcX11_add_0 1 rfl) (dk_g tcX11_add_0 2 rfl) (dk_g tcX11_add_0 3 rfl) rfl
theorem dX11_add_4 : decode cX11_add 4 = .ok (.iload_n 1, 1) := dk_1027 (dk_g tcX11_add_0 4 rfl)
theorem dX11_add_5 : decode cX11_add 5 = .ok (.invokevirtual 163, 3) := dk_1182 (dk_g tcX11_add_0 5 rfl) (dk_g tcX11_add_0 6 rfl) (dk_g tcX11_add_0 7 rfl) rfl
theorem dX11_add_8 : decode cX11_add 8 = .ok (.astore_n 2, 1) := dk_1077 (dk_g tcX11_add_0 8 rfl)
theorem dX11_add_9 : decode cX11_add 9 = .ok (.aload_n 2, 1) := dk_1044 (dk_g tcX11_add_0 9 rfl)
theorem tcX11_add_1 : (cX11_add.data.toList.drop 12).take 12 = [9, 42, 5, 182, 0, 98, 172, 44, 180, 0, 167, 16] := by decide +kernel
theorem dX11_add_10 : decode cX11_add 10 = .ok (.ifnonnull 9, 3) := dk_2199 (dk_g tcX11_add_0 10 rfl) (dk_g tcX11_add_0 11 rfl) (dk_g tcX11_add_1 0 rfl) rfl rfl
theorem dX11_add_13 : decode cX11_add 13 = .ok (.aload_n 0, 1) := dk_1042 (dk_g tcX11_add_1 1 rfl)
theorem dX11_add_14 : decode cX11_add 14 = .ok (.iconst 2, 1) := dk_1005 (dk_g tcX11_add_1 2 rfl)
theorem dX11_add_15 : decode cX11_add 15 = .ok (.invokevirtual 98, 3) := dk_1182 (dk_g tcX11_add_1 3 rfl) (dk_g tcX11_add_1 4 rfl) (dk_g tcX11_add_1 5 rfl) rfl
theorem dX11_add_18 : decode cX11_add 18 = .ok (.ireturn, 1) := dk_1172 (dk_g tcX11_add_1 6 rfl)
theorem dX11_add_19 : decode cX11_add 19 = .ok (.aload_n 2, 1) := dk_1044 (dk_g tcX11_add_1 7 rfl)
theorem dX11_add_20 : decode cX11_add 20 = .ok (.getfield 167, 3) := dk_1180 (dk_g tcX11_add_1 8 rfl) (dk_g tcX11_add_1 9 rfl) (dk_g tcX11_add_1 10 rfl) rfl
theorem tcX11_add_2 : (cX11_add.data.toList.drop 24).take 12 = [48, 161, 0, 9, 42, 6, 182, 0, 98, 172, 42, 180] := by decide +kernel
theorem dX11_add_23 : decode cX11_add 23 = .ok (.bipush 48, 2) := dk_1016 (dk_g tcX11_add_1 11 rfl) (dk_g tcX11_add_2 0 rfl) (by decide +kernel)
theorem dX11_add_25 : decode cX11_add 25 = .ok (.if_icmp .lt 9, 3) := dk_2161 (dk_g tcX11_add_2 1 rfl) (dk_g tcX11_add_2 2 rfl) (dk_g tcX11_add_2 3 rfl) rfl rfl
theorem dX11_add_28 : decode cX11_add 28 = .ok (.aload_n 0, 1) := dk_1042 (dk_g tcX11_add_2 4 rfl)
theorem dX11_add_29 : decode cX11_add 29 = .ok (.iconst 3, 1) := dk_1006 (dk_g tcX11_add_2 5 rfl)
theorem dX11_add_30 : decode cX11_add 30 = .ok (.invokevirtual 98, 3) := dk_1182 (dk_g tcX11_add_2 6 rfl) (dk_g tcX11_add_2 7 rfl) (dk_g tcX11_add_2 8 rfl) rfl
theorem dX11_add_33 : decode cX11_add 33 = .ok (.ireturn, 1) := dk_1172 (dk_g tcX11_add_2 9 rfl)
theorem dX11_add_34 : decode cX11_add 34 = .ok (.aload_n 0, 1) := dk_1042 (dk_g tcX11_add_2 10 rfl)
theorem tcX11_add_3 : (cX11_add.data.toList.drop 36).take 12 = [0, 16, 44, 42, 180, 0, 40, 182, 0, 237, 42, 44] := by decide +kernel
theorem dX11_add_35 : decode cX11_add 35 = .ok (.getfield 16, 3) := dk_1180 (dk_g tcX11_add_2 11 rfl) (dk_g tcX11_add_3 0 rfl) (dk_g tcX11_add_3 1 rfl) rfl
theorem dX11_add_38 : decode cX11_add 38 = .ok (.aload_n 2, 1) := dk_1044 (dk_g tcX11_add_3 2 rfl)
theorem dX11_add_39 : decode cX11_add 39 = .ok (.aload_n 0, 1) := dk_1042 (dk_g tcX11_add_3 3 rfl)
theorem dX11_add_40 : decode cX11_add 40 = .ok (.getfield 40, 3) := dk_1180 (dk_g tcX11_add_3 4 rfl) (dk_g tcX11_add_3 5 rfl) (dk_g tcX11_add_3 6 rfl) rfl
theorem dX11_add_43 : decode cX11_add 43 = .ok (.invokevirtual 237, 3) := dk_1182 (dk_g tcX11_add_3 7 rfl) (dk_g tcX11_add_3 8 rfl) (dk_g tcX11_add_3 9 rfl) rfl
theorem dX11_add_46 : decode cX11_add 46 = .ok (.aload_n 0, 1) := dk_1042 (dk_g tcX11_add_3 10 rfl)
theorem dX11_add_47 : decode cX11_add 47 = .ok (.aload_n 2, 1) := dk_1044 (dk_g tcX11_add_3 11 rfl)
theorem tcX11_add_4 : (cX11_add.data.toList.drop 48).take 12 = [180, 0, 167, 4, 100, 182, 0, 115, 172] := by decide +kernel
theorem dX11_add_48 : decode cX11_add 48 = .ok (.getfield 167, 3) := dk_1180 (dk_g tcX11_add_4 0 rfl) (dk_g tcX11_add_4 1 rfl) (dk_g tcX11_add_4 2 rfl) rfl
theorem dX11_add_51 : decode cX11_add 51 = .ok (.iconst 1, 1) := dk_1004 (dk_g tcX11_add_4 3 rfl)
theorem dX11_add_52 : decode cX11_add 52 = .ok (.isub, 1) := dk_1100 (dk_g tcX11_add_4 4 rfl)
theorem dX11_add_53 : decode cX11_add 53 = .ok (.invokevirtual 115, 3) := dk_1182 (dk_g tcX11_add_4 5 rfl) (dk_g tcX11_add_4 6 rfl) (dk_g tcX11_add_4 7 rfl) rfl
theorem dX11_add_56 : decode cX11_add 56 = .ok (.ireturn, 1) := dk_1172 (dk_g tcX11_add_4 8 rfl)
theorem tcX11_fork_0 : (cX11_fork.data.toList.drop 0).take 12 = [28, 156, 0, 9, 42, 4, 182, 0, 98, 172, 42, 180] := by decide +kernel
theorem dX11_fork_0 : decode cX11_fork 0 = .ok (.iload_n 2, 1) := dk_1028 (dk_g tcX11_fork_0 0 rfl)
theorem dX11_fork_1 : decode cX11_fork 1 = .ok (.ifCond .ge 9, 3) := dk_2156 (dk_g tcX11_fork_0 1 rfl) (dk_g tcX11_fork_0 2 rfl) (dk_g tcX11_fork_0 3 rfl) rfl rfl
theorem dX11_fork_4 : decode cX11_fork 4 = .ok (.aload_n 0, 1) := dk_1042 (dk_g tcX11_fork_0 4 rfl)
theorem dX11_fork_5 : decode cX11_fork 5 = .ok (.iconst 1, 1) := dk_1004 (dk_g tcX11_fork_0 5 rfl)
theorem dX11_fork_6 : decode cX11_fork 6 = .ok (.invokevirtual 98, 3) := dk_1182 (dk_g tcX11_fork_0 6 rfl) (dk_g tcX11_fork_0 7 rfl) (dk_g tcX11_fork_0 8 rfl) rfl
theorem dX11_fork_9 : decode cX11_fork 9 = .ok (.ireturn, 1) := dk_1172 (dk_g tcX11_fork_0 9 rfl)
theorem dX11_fork_10 : decode cX11_fork 10 = .ok (.aload_n 0, 1) := dk_1042 (dk_g tcX11_fork_0 10 rfl)
theorem tcX11_fork_1 : (cX11_fork.data.toList.drop 12).take 12 = [0, 16, 27, 182, 0, 163, 78, 45, 199, 0, 9, 42] := by decide +kernel
theorem dX11_fork_11 : decode cX11_fork 11 = .ok (.getfield 16, 3) := dk_1180 (dk_g tcX11_fork_0 11 rfl) (dk_g tcX11_fork_1 0 rfl) (dk_g tcX11_fork_1 1 rfl) rfl
theorem dX11_fork_14 : decode cX11_fork 14 = .ok (.iload_n 1, 1) := dk_1027 (dk_g tcX11_fork_1 2 rfl)
theorem dX11_fork_15 : decode cX11_fork 15 = .ok (.invokevirtual 163, 3) := dk_1182 (dk_g tcX11_fork_1 3 rfl) (dk_g tcX11_fork_1 4 rfl) (dk_g tcX11_fork_1 5 rfl) rfl
theorem dX11_fork_18 : decode cX11_fork 18 = .ok (.astore_n 3, 1) := dk_1078 (dk_g tcX11_fork_1 6 rfl)
theorem dX11_fork_19 : decode cX11_fork 19 = .ok (.aload_n 3, 1) := dk_1045 (dk_g tcX11_fork_1 7 rfl)
theorem dX11_fork_20 : decode cX11_fork 20 = .ok (.ifnonnull 9, 3) := dk_2199 (dk_g tcX11_fork_1 8 rfl) (dk_g tcX11_fork_1 9 rfl) (dk_g tcX11_fork_1 10 rfl) rfl rfl
theorem dX11_fork_23 : decode cX11_fork 23 = .ok (.aload_n 0, 1) := dk_1042 (dk_g tcX11_fork_1 11 rfl)
theorem tcX11_fork_2 : (cX11_fork.data.toList.drop 24).take 12 = [5, 182, 0, 98, 172, 42, 180, 0, 16, 180, 0, 112] := by decide +kernel
theorem dX11_fork_24 : decode cX11_fork 24 = .ok (.iconst 2, 1) := dk_1005 (dk_g tcX11_fork_2 0 rfl)
theorem dX11_fork_25 : decode cX11_fork 25 = .ok (.invokevirtual 98, 3) := dk_1182 (dk_g tcX11_fork_2 1 rfl) (dk_g tcX11_fork_2 2 rfl) (dk_g tcX11_fork_2 3 rfl) rfl
theorem dX11_fork_28 : decode cX11_fork 28 = .ok (.ireturn, 1) := dk_1172 (dk_g tcX11_fork_2 4 rfl)
theorem dX11_fork_29 : decode cX11_fork 29 = .ok (.aload_n 0, 1) := dk_1042 (dk_g tcX11_fork_2 5 rfl)
theorem dX11_fork_30 : decode cX11_fork 30 = .ok (.getfield 16, 3) := dk_1180 (dk_g tcX11_fork_2 6 rfl) (dk_g tcX11_fork_2 7 rfl) (dk_g tcX11_fork_2 8 rfl) rfl
theorem dX11_fork_33 : decode cX11_fork 33 = .ok (.getfield 112, 3) := dk_1180 (dk_g tcX11_fork_2 9 rfl) (dk_g tcX11_fork_2 10 rfl) (dk_g tcX11_fork_2 11 rfl) rfl
theorem tcX11_fork_3 : (cX11_fork.data.toList.drop 36).take 12 = [7, 161, 0, 9, 42, 6, 182, 0, 98, 172, 28, 45] := by decide +kernel
theorem dX11_fork_36 : decode cX11_fork 36 = .ok (.iconst 4, 1) := dk_1007 (dk_g tcX11_fork_3 0 rfl)
theorem dX11_fork_37 : decode cX11_fork 37 = .ok (.if_icmp .lt 9, 3) := dk_2161 (dk_g tcX11_fork_3 1 rfl) (dk_g tcX11_fork_3 2 rfl) (dk_g tcX11_fork_3 3 rfl) rfl rfl
theorem dX11_fork_40 : decode cX11_fork 40 = .ok (.aload_n 0, 1) := dk_1042 (dk_g tcX11_fork_3 4 rfl)
theorem dX11_fork_41 : decode cX11_fork 41 = .ok (.iconst 3, 1) := dk_1006 (dk_g tcX11_fork_3 5 rfl)
theorem dX11_fork_42 : decode cX11_fork 42 = .ok (.invokevirtual 98, 3) := dk_1182 (dk_g tcX11_fork_3 6 rfl) (dk_g tcX11_fork_3 7 rfl) (dk_g tcX11_fork_3 8 rfl) rfl
theorem dX11_fork_45 : decode cX11_fork 45 = .ok (.ireturn, 1) := dk_1172 (dk_g tcX11_fork_3 9 rfl)
theorem dX11_fork_46 : decode cX11_fork 46 = .ok (.iload_n 2, 1) := dk_1028 (dk_g tcX11_fork_3 10 rfl)
theorem dX11_fork_47 : decode cX11_fork 47 = .ok (.aload_n 3, 1) := dk_1045 (dk_g tcX11_fork_3 11 rfl)
theorem tcX11_fork_4 : (cX11_fork.data.toList.drop 48).take 12 = [180, 0, 167, 164, 0, 9, 42, 8, 182, 0, 98, 172] := by decide +kernel
theorem dX11_fork_48 : decode cX11_fork 48 = .ok (.getfield 167, 3) := dk_1180 (dk_g tcX11_fork_4 0 rfl) (dk_g tcX11_fork_4 1 rfl) (dk_g tcX11_fork_4 2 rfl) rfl
theorem dX11_fork_51 : decode cX11_fork 51 = .ok (.if_icmp .le 9, 3) := dk_2164 (dk_g tcX11_fork_4 3 rfl) (dk_g tcX11_fork_4 4 rfl) (dk_g tcX11_fork_4 5 rfl) rfl rfl
theorem dX11_fork_54 : decode cX11_fork 54 = .ok (.aload_n 0, 1) := dk_1042 (dk_g tcX11_fork_4 6 rfl)
theorem dX11_fork_55 : decode cX11_fork 55 = .ok (.iconst 5, 1) := dk_1008 (dk_g tcX11_fork_4 7 rfl)
theorem dX11_fork_56 : decode cX11_fork 56 = .ok (.invokevirtual 98, 3) := dk_1182 (dk_g tcX11_fork_4 8 rfl) (dk_g tcX11_fork_4 9 rfl) (dk_g tcX11_fork_4 10 rfl) rfl
theorem dX11_fork_59 : decode cX11_fork 59 = .ok (.ireturn, 1) := dk_1172 (dk_g tcX11_fork_4 11 rfl)
theorem tcX11_fork_5 : (cX11_fork.data.toList.drop 60).take 12 = [42, 42, 180, 0, 16, 45, 28, 182, 0, 241, 182, 0] := by decide +kernel
theorem dX11_fork_60 : decode cX11_fork 60 = .ok (.aload_n 0, 1) := dk_1042 (dk_g tcX11_fork_5 0 rfl)
theorem dX11_fork_61 : decode cX11_fork 61 = .ok (.aload_n 0, 1) := dk_1042 (dk_g tcX11_fork_5 1 rfl)
theorem dX11_fork_62 : decode cX11_fork 62 = .ok (.getfield 16, 3) := dk_1180 (dk_g tcX11_fork_5 2 rfl) (dk_g tcX11_fork_5 3 rfl) (dk_g tcX11_fork_5 4 rfl) rfl
theorem dX11_fork_65 : decode cX11_fork 65 = .ok (.aload_n 3, 1) := dk_1045 (dk_g tcX11_fork_5 5 rfl)
theorem dX11_fork_66 : decode cX11_fork 66 = .ok (.iload_n 2, 1) := dk_1028 (dk_g tcX11_fork_5 6 rfl)
theorem dX11_fork_67 : decode cX11_fork 67 = .ok (.invokevirtual 241, 3) := dk_1182 (dk_g tcX11_fork_5 7 rfl) (dk_g tcX11_fork_5 8 rfl) (dk_g tcX11_fork_5 9 rfl) rfl
theorem tcX11_fork_6 : (cX11_fork.data.toList.drop 72).take 12 = [115, 172] := by decide +kernel
theorem dX11_fork_70 : decode cX11_fork 70 = .ok (.invokevirtual 115, 3) := dk_1182 (dk_g tcX11_fork_5 10 rfl) (dk_g tcX11_fork_5 11 rfl) (dk_g tcX11_fork_6 0 rfl) rfl
theorem dX11_fork_73 : decode cX11_fork 73 = .ok (.ireturn, 1) := dk_1172 (dk_g tcX11_fork_6 1 rfl)
theorem tcX11_freeze_0 : (cX11_freeze.data.toList.drop 0).take 12 = [42, 180, 0, 16, 27, 182, 0, 163, 199, 0, 9, 42] := by decide +kernel
theorem dX11_freeze_0 : decode cX11_freeze 0 = .ok (.aload_n 0, 1) := dk_1042 (dk_g tcX11_freeze_0 0 rfl)
theorem dX11_freeze_1 : decode cX11_freeze 1 = .ok (.getfield 16, 3) := dk_1180 (dk_g tcX11_freeze_0 1 rfl) (dk_g tcX11_freeze_0 2 rfl) (dk_g tcX11_freeze_0 3 rfl) rfl
theorem dX11_freeze_4 : decode cX11_freeze 4 = .ok (.iload_n 1, 1) := dk_1027 (dk_g tcX11_freeze_0 4 rfl)
theorem dX11_freeze_5 : decode cX11_freeze 5 = .ok (.invokevirtual 163, 3) := dk_1182 (dk_g tcX11_freeze_0 5 rfl) (dk_g tcX11_freeze_0 6 rfl) (dk_g tcX11_freeze_0 7 rfl) rfl
theorem dX11_freeze_8 : decode cX11_freeze 8 = .ok (.ifnonnull 9, 3) := dk_2199 (dk_g tcX11_freeze_0 8 rfl) (dk_g tcX11_freeze_0 9 rfl) (dk_g tcX11_freeze_0 10 rfl) rfl rfl
theorem dX11_freeze_11 : decode cX11_freeze 11 = .ok (.aload_n 0, 1) := dk_1042 (dk_g tcX11_freeze_0 11 rfl)
theorem tcX11_freeze_1 : (cX11_freeze.data.toList.drop 12).take 12 = [5, 182, 0, 98, 172, 42, 180, 0, 16, 180, 0, 153] := by decide +kernel
theorem dX11_freeze_12 : decode cX11_freeze 12 = .ok (.iconst 2, 1) := dk_1005 (dk_g tcX11_freeze_1 0 rfl)
theorem dX11_freeze_13 : decode cX11_freeze 13 = .ok (.invokevirtual 98, 3) := dk_1182 (dk_g tcX11_freeze_1 1 rfl) (dk_g tcX11_freeze_1 2 rfl) (dk_g tcX11_freeze_1 3 rfl) rfl
theorem dX11_freeze_16 : decode cX11_freeze 16 = .ok (.ireturn, 1) := dk_1172 (dk_g tcX11_freeze_1 4 rfl)
theorem dX11_freeze_17 : decode cX11_freeze 17 = .ok (.aload_n 0, 1) := dk_1042 (dk_g tcX11_freeze_1 5 rfl)
theorem dX11_freeze_18 : decode cX11_freeze 18 = .ok (.getfield 16, 3) := dk_1180 (dk_g tcX11_freeze_1 6 rfl) (dk_g tcX11_freeze_1 7 rfl) (dk_g tcX11_freeze_1 8 rfl) rfl
theorem dX11_freeze_21 : decode cX11_freeze 21 = .ok (.getfield 153, 3) := dk_1180 (dk_g tcX11_freeze_1 9 rfl) (dk_g tcX11_freeze_1 10 rfl) (dk_g tcX11_freeze_1 11 rfl) rfl
theorem tcX11_freeze_2 : (cX11_freeze.data.toList.drop 24).take 12 = [16, 16, 161, 0, 9, 42, 6, 182, 0, 98, 172, 42] := by decide +kernel
theorem dX11_freeze_24 : decode cX11_freeze 24 = .ok (.bipush 16, 2) := dk_1016 (dk_g tcX11_freeze_2 0 rfl) (dk_g tcX11_freeze_2 1 rfl) (by decide +kernel)
theorem dX11_freeze_26 : decode cX11_freeze 26 = .ok (.if_icmp .lt 9, 3) := dk_2161 (dk_g tcX11_freeze_2 2 rfl) (dk_g tcX11_freeze_2 3 rfl) (dk_g tcX11_freeze_2 4 rfl) rfl rfl
theorem dX11_freeze_29 : decode cX11_freeze 29 = .ok (.aload_n 0, 1) := dk_1042 (dk_g tcX11_freeze_2 5 rfl)
theorem dX11_freeze_30 : decode cX11_freeze 30 = .ok (.iconst 3, 1) := dk_1006 (dk_g tcX11_freeze_2 6 rfl)
theorem dX11_freeze_31 : decode cX11_freeze 31 = .ok (.invokevirtual 98, 3) := dk_1182 (dk_g tcX11_freeze_2 7 rfl) (dk_g tcX11_freeze_2 8 rfl) (dk_g tcX11_freeze_2 9 rfl) rfl
theorem dX11_freeze_34 : decode cX11_freeze 34 = .ok (.ireturn, 1) := dk_1172 (dk_g tcX11_freeze_2 10 rfl)
theorem dX11_freeze_35 : decode cX11_freeze 35 = .ok (.aload_n 0, 1) := dk_1042 (dk_g tcX11_freeze_2 11 rfl)
theorem tcX11_freeze_3 : (cX11_freeze.data.toList.drop 36).take 12 = [42, 180, 0, 16, 27, 182, 0, 244, 182, 0, 115, 172] := by decide +kernel
theorem dX11_freeze_36 : decode cX11_freeze 36 = .ok (.aload_n 0, 1) := dk_1042 (dk_g tcX11_freeze_3 0 rfl)
theorem dX11_freeze_37 : decode cX11_freeze 37 = .ok (.getfield 16, 3) := dk_1180 (dk_g tcX11_freeze_3 1 rfl) (dk_g tcX11_freeze_3 2 rfl) (dk_g tcX11_freeze_3 3 rfl) rfl
theorem dX11_freeze_40 : decode cX11_freeze 40 = .ok (.iload_n 1, 1) := dk_1027 (dk_g tcX11_freeze_3 4 rfl)
theorem dX11_freeze_41 : decode cX11_freeze 41 = .ok (.invokevirtual 244, 3) := dk_1182 (dk_g tcX11_freeze_3 5 rfl) (dk_g tcX11_freeze_3 6 rfl) (dk_g tcX11_freeze_3 7 rfl) rfl
theorem dX11_freeze_44 : decode cX11_freeze 44 = .ok (.invokevirtual 115, 3) := dk_1182 (dk_g tcX11_freeze_3 8 rfl) (dk_g tcX11_freeze_3 9 rfl) (dk_g tcX11_freeze_3 10 rfl) rfl
theorem dX11_freeze_47 : decode cX11_freeze 47 = .ok (.ireturn, 1) := dk_1172 (dk_g tcX11_freeze_3 11 rfl)
theorem tcX11_show_0 : (cX11_show.data.toList.drop 0).take 12 = [29, 156, 0, 9, 42, 4, 182, 0, 98, 172, 42, 180] := by decide +kernel
theorem dX11_show_0 : decode cX11_show 0 = .ok (.iload_n 3, 1) := dk_1029 (dk_g tcX11_show_0 0 rfl)
theorem dX11_show_1 : decode cX11_show 1 = .ok (.ifCond .ge 9, 3) := dk_2156 (dk_g tcX11_show_0 1 rfl) (dk_g tcX11_show_0 2 rfl) (dk_g tcX11_show_0 3 rfl) rfl rfl
theorem dX11_show_4 : decode cX11_show 4 = .ok (.aload_n 0, 1) := dk_1042 (dk_g tcX11_show_0 4 rfl)
theorem dX11_show_5 : decode cX11_show 5 = .ok (.iconst 1, 1) := dk_1004 (dk_g tcX11_show_0 5 rfl)
theorem dX11_show_6 : decode cX11_show 6 = .ok (.invokevirtual 98, 3) := dk_1182 (dk_g tcX11_show_0 6 rfl) (dk_g tcX11_show_0 7 rfl) (dk_g tcX11_show_0 8 rfl) rfl
theorem dX11_show_9 : decode cX11_show 9 = .ok (.ireturn, 1) := dk_1172 (dk_g tcX11_show_0 9 rfl)
theorem dX11_show_10 : decode cX11_show 10 = .ok (.aload_n 0, 1) := dk_1042 (dk_g tcX11_show_0 10 rfl)
theorem tcX11_show_1 : (cX11_show.data.toList.drop 12).take 12 = [0, 16, 27, 182, 0, 220, 58, 4, 42, 180, 0, 16] := by decide +kernel
theorem dX11_show_11 : decode cX11_show 11 = .ok (.getfield 16, 3) := dk_1180 (dk_g tcX11_show_0 11 rfl) (dk_g tcX11_show_1 0 rfl) (dk_g tcX11_show_1 1 rfl) rfl
theorem dX11_show_14 : decode cX11_show 14 = .ok (.iload_n 1, 1) := dk_1027 (dk_g tcX11_show_1 2 rfl)
theorem dX11_show_15 : decode cX11_show 15 = .ok (.invokevirtual 220, 3) := dk_1182 (dk_g tcX11_show_1 3 rfl) (dk_g tcX11_show_1 4 rfl) (dk_g tcX11_show_1 5 rfl) rfl
theorem dX11_show_18 : decode cX11_show 18 = .ok (.astore 4, 2) := dk_1058 (dk_g tcX11_show_1 6 rfl) (dk_g tcX11_show_1 7 rfl) rfl
theorem dX11_show_20 : decode cX11_show 20 = .ok (.aload_n 0, 1) := dk_1042 (dk_g tcX11_show_1 8 rfl)
theorem dX11_show_21 : decode cX11_show 21 = .ok (.getfield 16, 3) := dk_1180 (dk_g tcX11_show_1 9 rfl) (dk_g tcX11_show_1 10 rfl) (dk_g tcX11_show_1 11 rfl) rfl
theorem tcX11_show_2 : (cX11_show.data.toList.drop 24).take 12 = [28, 182, 0, 163, 58, 5, 25, 4, 198, 0, 8, 25] := by decide +kernel
theorem dX11_show_24 : decode cX11_show 24 = .ok (.iload_n 2, 1) := dk_1028 (dk_g tcX11_show_2 0 rfl)
theorem dX11_show_25 : decode cX11_show 25 = .ok (.invokevirtual 163, 3) := dk_1182 (dk_g tcX11_show_2 1 rfl) (dk_g tcX11_show_2 2 rfl) (dk_g tcX11_show_2 3 rfl) rfl
theorem dX11_show_28 : decode cX11_show 28 = .ok (.astore 5, 2) := dk_1058 (dk_g tcX11_show_2 4 rfl) (dk_g tcX11_show_2 5 rfl) rfl
theorem dX11_show_30 : decode cX11_show 30 = .ok (.aload 4, 2) := dk_1025 (dk_g tcX11_show_2 6 rfl) (dk_g tcX11_show_2 7 rfl) rfl
theorem dX11_show_32 : decode cX11_show 32 = .ok (.ifnull 8, 3) := dk_2198 (dk_g tcX11_show_2 8 rfl) (dk_g tcX11_show_2 9 rfl) (dk_g tcX11_show_2 10 rfl) rfl rfl
theorem tcX11_show_3 : (cX11_show.data.toList.drop 36).take 12 = [5, 199, 0, 9, 42, 5, 182, 0, 98, 172, 29, 25] := by decide +kernel
theorem dX11_show_35 : decode cX11_show 35 = .ok (.aload 5, 2) := dk_1025 (dk_g tcX11_show_2 11 rfl) (dk_g tcX11_show_3 0 rfl) rfl
theorem dX11_show_37 : decode cX11_show 37 = .ok (.ifnonnull 9, 3) := dk_2199 (dk_g tcX11_show_3 1 rfl) (dk_g tcX11_show_3 2 rfl) (dk_g tcX11_show_3 3 rfl) rfl rfl
theorem dX11_show_40 : decode cX11_show 40 = .ok (.aload_n 0, 1) := dk_1042 (dk_g tcX11_show_3 4 rfl)
theorem dX11_show_41 : decode cX11_show 41 = .ok (.iconst 2, 1) := dk_1005 (dk_g tcX11_show_3 5 rfl)
theorem dX11_show_42 : decode cX11_show 42 = .ok (.invokevirtual 98, 3) := dk_1182 (dk_g tcX11_show_3 6 rfl) (dk_g tcX11_show_3 7 rfl) (dk_g tcX11_show_3 8 rfl) rfl
theorem dX11_show_45 : decode cX11_show 45 = .ok (.ireturn, 1) := dk_1172 (dk_g tcX11_show_3 9 rfl)
theorem dX11_show_46 : decode cX11_show 46 = .ok (.iload_n 3, 1) := dk_1029 (dk_g tcX11_show_3 10 rfl)
theorem tcX11_show_4 : (cX11_show.data.toList.drop 48).take 12 = [5, 180, 0, 167, 164, 0, 9, 42, 8, 182, 0, 98] := by decide +kernel
theorem dX11_show_47 : decode cX11_show 47 = .ok (.aload 5, 2) := dk_1025 (dk_g tcX11_show_3 11 rfl) (dk_g tcX11_show_4 0 rfl) rfl
theorem dX11_show_49 : decode cX11_show 49 = .ok (.getfield 167, 3) := dk_1180 (dk_g tcX11_show_4 1 rfl) (dk_g tcX11_show_4 2 rfl) (dk_g tcX11_show_4 3 rfl) rfl
theorem dX11_show_52 : decode cX11_show 52 = .ok (.if_icmp .le 9, 3) := dk_2164 (dk_g tcX11_show_4 4 rfl) (dk_g tcX11_show_4 5 rfl) (dk_g tcX11_show_4 6 rfl) rfl rfl
theorem dX11_show_55 : decode cX11_show 55 = .ok (.aload_n 0, 1) := dk_1042 (dk_g tcX11_show_4 7 rfl)
theorem dX11_show_56 : decode cX11_show 56 = .ok (.iconst 5, 1) := dk_1008 (dk_g tcX11_show_4 8 rfl)
theorem dX11_show_57 : decode cX11_show 57 = .ok (.invokevirtual 98, 3) := dk_1182 (dk_g tcX11_show_4 9 rfl) (dk_g tcX11_show_4 10 rfl) (dk_g tcX11_show_4 11 rfl) rfl
theorem tcX11_show_5 : (cX11_show.data.toList.drop 60).take 12 = [172, 42, 42, 180, 0, 16, 25, 4, 25, 5, 29, 182] := by decide +kernel
theorem dX11_show_60 : decode cX11_show 60 = .ok (.ireturn, 1) := dk_1172 (dk_g tcX11_show_5 0 rfl)
theorem dX11_show_61 : decode cX11_show 61 = .ok (.aload_n 0, 1) := dk_1042 (dk_g tcX11_show_5 1 rfl)
theorem dX11_show_62 : decode cX11_show 62 = .ok (.aload_n 0, 1) := dk_1042 (dk_g tcX11_show_5 2 rfl)
theorem dX11_show_63 : decode cX11_show 63 = .ok (.getfield 16, 3) := dk_1180 (dk_g tcX11_show_5 3 rfl) (dk_g tcX11_show_5 4 rfl) (dk_g tcX11_show_5 5 rfl) rfl
theorem dX11_show_66 : decode cX11_show 66 = .ok (.aload 4, 2) := dk_1025 (dk_g tcX11_show_5 6 rfl) (dk_g tcX11_show_5 7 rfl) rfl
theorem dX11_show_68 : decode cX11_show 68 = .ok (.aload 5, 2) := dk_1025 (dk_g tcX11_show_5 8 rfl) (dk_g tcX11_show_5 9 rfl) rfl
theorem dX11_show_70 : decode cX11_show 70 = .ok (.iload_n 3, 1) := dk_1029 (dk_g tcX11_show_5 10 rfl)
theorem tcX11_show_6 : (cX11_show.data.toList.drop 72).take 12 = [0, 247, 182, 0, 115, 172] := by decide +kernel
theorem dX11_show_71 : decode cX11_show 71 = .ok (.invokevirtual 247, 3) := dk_1182 (dk_g tcX11_show_5 11 rfl) (dk_g tcX11_show_6 0 rfl) (dk_g tcX11_show_6 1 rfl) rfl
theorem dX11_show_74 : decode cX11_show 74 = .ok (.invokevirtual 115, 3) := dk_1182 (dk_g tcX11_show_6 2 rfl) (dk_g tcX11_show_6 3 rfl) (dk_g tcX11_show_6 4 rfl) rfl
theorem dX11_show_77 : decode cX11_show 77 = .ok (.ireturn, 1) := dk_1172 (dk_g tcX11_show_6 5 rfl)
theorem tcX11_meet_0 : (cX11_meet.data.toList.drop 0).take 12 = [42, 180, 0, 16, 27, 182, 0, 220, 58, 4, 42, 180] := by decide +kernel
theorem dX11_meet_0 : decode cX11_meet 0 = .ok (.aload_n 0, 1) := dk_1042 (dk_g tcX11_meet_0 0 rfl)
theorem dX11_meet_1 : decode cX11_meet 1 = .ok (.getfield 16, 3) := dk_1180 (dk_g tcX11_meet_0 1 rfl) (dk_g tcX11_meet_0 2 rfl) (dk_g tcX11_meet_0 3 rfl) rfl
theorem dX11_meet_4 : decode cX11_meet 4 = .ok (.iload_n 1, 1) := dk_1027 (dk_g tcX11_meet_0 4 rfl)
theorem dX11_meet_5 : decode cX11_meet 5 = .ok (.invokevirtual 220, 3) := dk_1182 (dk_g tcX11_meet_0 5 rfl) (dk_g tcX11_meet_0 6 rfl) (dk_g tcX11_meet_0 7 rfl) rfl
theorem dX11_meet_8 : decode cX11_meet 8 = .ok (.astore 4, 2) := dk_1058 (dk_g tcX11_meet_0 8 rfl) (dk_g tcX11_meet_0 9 rfl) rfl
theorem dX11_meet_10 : decode cX11_meet 10 = .ok (.aload_n 0, 1) := dk_1042 (dk_g tcX11_meet_0 10 rfl)
theorem tcX11_meet_1 : (cX11_meet.data.toList.drop 12).take 12 = [0, 16, 28, 182, 0, 220, 58, 5, 42, 180, 0, 16] := by decide +kernel
theorem dX11_meet_11 : decode cX11_meet 11 = .ok (.getfield 16, 3) := dk_1180 (dk_g tcX11_meet_0 11 rfl) (dk_g tcX11_meet_1 0 rfl) (dk_g tcX11_meet_1 1 rfl) rfl
theorem dX11_meet_14 : decode cX11_meet 14 = .ok (.iload_n 2, 1) := dk_1028 (dk_g tcX11_meet_1 2 rfl)
theorem dX11_meet_15 : decode cX11_meet 15 = .ok (.invokevirtual 220, 3) := dk_1182 (dk_g tcX11_meet_1 3 rfl) (dk_g tcX11_meet_1 4 rfl) (dk_g tcX11_meet_1 5 rfl) rfl
theorem dX11_meet_18 : decode cX11_meet 18 = .ok (.astore 5, 2) := dk_1058 (dk_g tcX11_meet_1 6 rfl) (dk_g tcX11_meet_1 7 rfl) rfl
theorem dX11_meet_20 : decode cX11_meet 20 = .ok (.aload_n 0, 1) := dk_1042 (dk_g tcX11_meet_1 8 rfl)
theorem dX11_meet_21 : decode cX11_meet 21 = .ok (.getfield 16, 3) := dk_1180 (dk_g tcX11_meet_1 9 rfl) (dk_g tcX11_meet_1 10 rfl) (dk_g tcX11_meet_1 11 rfl) rfl
theorem tcX11_meet_2 : (cX11_meet.data.toList.drop 24).take 12 = [29, 182, 0, 163, 58, 6, 25, 4, 198, 0, 13, 25] := by decide +kernel
theorem dX11_meet_24 : decode cX11_meet 24 = .ok (.iload_n 3, 1) := dk_1029 (dk_g tcX11_meet_2 0 rfl)
theorem dX11_meet_25 : decode cX11_meet 25 = .ok (.invokevirtual 163, 3) := dk_1182 (dk_g tcX11_meet_2 1 rfl) (dk_g tcX11_meet_2 2 rfl) (dk_g tcX11_meet_2 3 rfl) rfl
theorem dX11_meet_28 : decode cX11_meet 28 = .ok (.astore 6, 2) := dk_1058 (dk_g tcX11_meet_2 4 rfl) (dk_g tcX11_meet_2 5 rfl) rfl
theorem dX11_meet_30 : decode cX11_meet 30 = .ok (.aload 4, 2) := dk_1025 (dk_g tcX11_meet_2 6 rfl) (dk_g tcX11_meet_2 7 rfl) rfl
theorem dX11_meet_32 : decode cX11_meet 32 = .ok (.ifnull 13, 3) := dk_2198 (dk_g tcX11_meet_2 8 rfl) (dk_g tcX11_meet_2 9 rfl) (dk_g tcX11_meet_2 10 rfl) rfl rfl
theorem tcX11_meet_3 : (cX11_meet.data.toList.drop 36).take 12 = [5, 198, 0, 8, 25, 6, 199, 0, 9, 42, 5, 182] := by decide +kernel
theorem dX11_meet_35 : decode cX11_meet 35 = .ok (.aload 5, 2) := dk_1025 (dk_g tcX11_meet_2 11 rfl) (dk_g tcX11_meet_3 0 rfl) rfl
theorem dX11_meet_37 : decode cX11_meet 37 = .ok (.ifnull 8, 3) := dk_2198 (dk_g tcX11_meet_3 1 rfl) (dk_g tcX11_meet_3 2 rfl) (dk_g tcX11_meet_3 3 rfl) rfl rfl
theorem dX11_meet_40 : decode cX11_meet 40 = .ok (.aload 6, 2) := dk_1025 (dk_g tcX11_meet_3 4 rfl) (dk_g tcX11_meet_3 5 rfl) rfl
theorem dX11_meet_42 : decode cX11_meet 42 = .ok (.ifnonnull 9, 3) := dk_2199 (dk_g tcX11_meet_3 6 rfl) (dk_g tcX11_meet_3 7 rfl) (dk_g tcX11_meet_3 8 rfl) rfl rfl
theorem dX11_meet_45 : decode cX11_meet 45 = .ok (.aload_n 0, 1) := dk_1042 (dk_g tcX11_meet_3 9 rfl)
theorem dX11_meet_46 : decode cX11_meet 46 = .ok (.iconst 2, 1) := dk_1005 (dk_g tcX11_meet_3 10 rfl)
theorem tcX11_meet_4 : (cX11_meet.data.toList.drop 48).take 12 = [0, 98, 172, 42, 42, 180, 0, 16, 25, 4, 25, 5] := by decide +kernel
theorem dX11_meet_47 : decode cX11_meet 47 = .ok (.invokevirtual 98, 3) := dk_1182 (dk_g tcX11_meet_3 11 rfl) (dk_g tcX11_meet_4 0 rfl) (dk_g tcX11_meet_4 1 rfl) rfl
theorem dX11_meet_50 : decode cX11_meet 50 = .ok (.ireturn, 1) := dk_1172 (dk_g tcX11_meet_4 2 rfl)
theorem dX11_meet_51 : decode cX11_meet 51 = .ok (.aload_n 0, 1) := dk_1042 (dk_g tcX11_meet_4 3 rfl)
theorem dX11_meet_52 : decode cX11_meet 52 = .ok (.aload_n 0, 1) := dk_1042 (dk_g tcX11_meet_4 4 rfl)
theorem dX11_meet_53 : decode cX11_meet 53 = .ok (.getfield 16, 3) := dk_1180 (dk_g tcX11_meet_4 5 rfl) (dk_g tcX11_meet_4 6 rfl) (dk_g tcX11_meet_4 7 rfl) rfl
theorem dX11_meet_56 : decode cX11_meet 56 = .ok (.aload 4, 2) := dk_1025 (dk_g tcX11_meet_4 8 rfl) (dk_g tcX11_meet_4 9 rfl) rfl
theorem dX11_meet_58 : decode cX11_meet 58 = .ok (.aload 5, 2) := dk_1025 (dk_g tcX11_meet_4 10 rfl) (dk_g tcX11_meet_4 11 rfl) rfl
theorem tcX11_meet_5 : (cX11_meet.data.toList.drop 60).take 12 = [25, 6, 182, 0, 251, 182, 0, 115, 172] := by decide +kernel
theorem dX11_meet_60 : decode cX11_meet 60 = .ok (.aload 6, 2) := dk_1025 (dk_g tcX11_meet_5 0 rfl) (dk_g tcX11_meet_5 1 rfl) rfl
theorem dX11_meet_62 : decode cX11_meet 62 = .ok (.invokevirtual 251, 3) := dk_1182 (dk_g tcX11_meet_5 2 rfl) (dk_g tcX11_meet_5 3 rfl) (dk_g tcX11_meet_5 4 rfl) rfl
theorem dX11_meet_65 : decode cX11_meet 65 = .ok (.invokevirtual 115, 3) := dk_1182 (dk_g tcX11_meet_5 5 rfl) (dk_g tcX11_meet_5 6 rfl) (dk_g tcX11_meet_5 7 rfl) rfl
theorem dX11_meet_68 : decode cX11_meet 68 = .ok (.ireturn, 1) := dk_1172 (dk_g tcX11_meet_5 8 rfl)
theorem tcX11_spoil_0 : (cX11_spoil.data.toList.drop 0).take 12 = [21, 4, 4, 161, 0, 18, 21, 4, 16, 26, 163, 0] := by decide +kernel
theorem dX11_spoil_0 : decode cX11_spoil 0 = .ok (.iload 4, 2) := dk_1021 (dk_g tcX11_spoil_0 0 rfl) (dk_g tcX11_spoil_0 1 rfl) rfl
theorem dX11_spoil_2 : decode cX11_spoil 2 = .ok (.iconst 1, 1) := dk_1004 (dk_g tcX11_spoil_0 2 rfl)
theorem dX11_spoil_3 : decode cX11_spoil 3 = .ok (.if_icmp .lt 18, 3) := dk_2161 (dk_g tcX11_spoil_0 3 rfl) (dk_g tcX11_spoil_0 4 rfl) (dk_g tcX11_spoil_0 5 rfl) rfl rfl
theorem dX11_spoil_6 : decode cX11_spoil 6 = .ok (.iload 4, 2) := dk_1021 (dk_g tcX11_spoil_0 6 rfl) (dk_g tcX11_spoil_0 7 rfl) rfl
theorem dX11_spoil_8 : decode cX11_spoil 8 = .ok (.bipush 26, 2) := dk_1016 (dk_g tcX11_spoil_0 8 rfl) (dk_g tcX11_spoil_0 9 rfl) (by decide +kernel)
theorem tcX11_spoil_1 : (cX11_spoil.data.toList.drop 12).take 12 = [11, 28, 155, 0, 7, 29, 156, 0, 9, 42, 4, 182] := by decide +kernel
theorem dX11_spoil_10 : decode cX11_spoil 10 = .ok (.if_icmp .gt 11, 3) := dk_2163 (dk_g tcX11_spoil_0 10 rfl) (dk_g tcX11_spoil_0 11 rfl) (dk_g tcX11_spoil_1 0 rfl) rfl rfl
theorem dX11_spoil_13 : decode cX11_spoil 13 = .ok (.iload_n 2, 1) := dk_1028 (dk_g tcX11_spoil_1 1 rfl)
theorem dX11_spoil_14 : decode cX11_spoil 14 = .ok (.ifCond .lt 7, 3) := dk_2155 (dk_g tcX11_spoil_1 2 rfl) (dk_g tcX11_spoil_1 3 rfl) (dk_g tcX11_spoil_1 4 rfl) rfl rfl
theorem dX11_spoil_17 : decode cX11_spoil 17 = .ok (.iload_n 3, 1) := dk_1029 (dk_g tcX11_spoil_1 5 rfl)
theorem dX11_spoil_18 : decode cX11_spoil 18 = .ok (.ifCond .ge 9, 3) := dk_2156 (dk_g tcX11_spoil_1 6 rfl) (dk_g tcX11_spoil_1 7 rfl) (dk_g tcX11_spoil_1 8 rfl) rfl rfl
theorem dX11_spoil_21 : decode cX11_spoil 21 = .ok (.aload_n 0, 1) := dk_1042 (dk_g tcX11_spoil_1 9 rfl)
theorem dX11_spoil_22 : decode cX11_spoil 22 = .ok (.iconst 1, 1) := dk_1004 (dk_g tcX11_spoil_1 10 rfl)
theorem tcX11_spoil_2 : (cX11_spoil.data.toList.drop 24).take 12 = [0, 98, 172, 42, 180, 0, 16, 27, 182, 0, 163, 58] := by decide +kernel
theorem dX11_spoil_23 : decode cX11_spoil 23 = .ok (.invokevirtual 98, 3) := dk_1182 (dk_g tcX11_spoil_1 11 rfl) (dk_g tcX11_spoil_2 0 rfl) (dk_g tcX11_spoil_2 1 rfl) rfl
theorem dX11_spoil_26 : decode cX11_spoil 26 = .ok (.ireturn, 1) := dk_1172 (dk_g tcX11_spoil_2 2 rfl)
theorem dX11_spoil_27 : decode cX11_spoil 27 = .ok (.aload_n 0, 1) := dk_1042 (dk_g tcX11_spoil_2 3 rfl)
theorem dX11_spoil_28 : decode cX11_spoil 28 = .ok (.getfield 16, 3) := dk_1180 (dk_g tcX11_spoil_2 4 rfl) (dk_g tcX11_spoil_2 5 rfl) (dk_g tcX11_spoil_2 6 rfl) rfl
theorem dX11_spoil_31 : decode cX11_spoil 31 = .ok (.iload_n 1, 1) := dk_1027 (dk_g tcX11_spoil_2 7 rfl)
theorem dX11_spoil_32 : decode cX11_spoil 32 = .ok (.invokevirtual 163, 3) := dk_1182 (dk_g tcX11_spoil_2 8 rfl) (dk_g tcX11_spoil_2 9 rfl) (dk_g tcX11_spoil_2 10 rfl) rfl
theorem tcX11_spoil_3 : (cX11_spoil.data.toList.drop 36).take 12 = [5, 25, 5, 199, 0, 9, 42, 5, 182, 0, 98, 172] := by decide +kernel
theorem dX11_spoil_35 : decode cX11_spoil 35 = .ok (.astore 5, 2) := dk_1058 (dk_g tcX11_spoil_2 11 rfl) (dk_g tcX11_spoil_3 0 rfl) rfl
theorem dX11_spoil_37 : decode cX11_spoil 37 = .ok (.aload 5, 2) := dk_1025 (dk_g tcX11_spoil_3 1 rfl) (dk_g tcX11_spoil_3 2 rfl) rfl
theorem dX11_spoil_39 : decode cX11_spoil 39 = .ok (.ifnonnull 9, 3) := dk_2199 (dk_g tcX11_spoil_3 3 rfl) (dk_g tcX11_spoil_3 4 rfl) (dk_g tcX11_spoil_3 5 rfl) rfl rfl
theorem dX11_spoil_42 : decode cX11_spoil 42 = .ok (.aload_n 0, 1) := dk_1042 (dk_g tcX11_spoil_3 6 rfl)
theorem dX11_spoil_43 : decode cX11_spoil 43 = .ok (.iconst 2, 1) := dk_1005 (dk_g tcX11_spoil_3 7 rfl)
theorem dX11_spoil_44 : decode cX11_spoil 44 = .ok (.invokevirtual 98, 3) := dk_1182 (dk_g tcX11_spoil_3 8 rfl) (dk_g tcX11_spoil_3 9 rfl) (dk_g tcX11_spoil_3 10 rfl) rfl
theorem dX11_spoil_47 : decode cX11_spoil 47 = .ok (.ireturn, 1) := dk_1172 (dk_g tcX11_spoil_3 11 rfl)
theorem tcX11_spoil_4 : (cX11_spoil.data.toList.drop 48).take 12 = [25, 5, 28, 182, 0, 170, 58, 6, 25, 6, 198, 0] := by decide +kernel
theorem dX11_spoil_48 : decode cX11_spoil 48 = .ok (.aload 5, 2) := dk_1025 (dk_g tcX11_spoil_4 0 rfl) (dk_g tcX11_spoil_4 1 rfl) rfl
theorem dX11_spoil_50 : decode cX11_spoil 50 = .ok (.iload_n 2, 1) := dk_1028 (dk_g tcX11_spoil_4 2 rfl)
theorem dX11_spoil_51 : decode cX11_spoil 51 = .ok (.invokevirtual 170, 3) := dk_1182 (dk_g tcX11_spoil_4 3 rfl) (dk_g tcX11_spoil_4 4 rfl) (dk_g tcX11_spoil_4 5 rfl) rfl
theorem dX11_spoil_54 : decode cX11_spoil 54 = .ok (.astore 6, 2) := dk_1058 (dk_g tcX11_spoil_4 6 rfl) (dk_g tcX11_spoil_4 7 rfl) rfl
theorem dX11_spoil_56 : decode cX11_spoil 56 = .ok (.aload 6, 2) := dk_1025 (dk_g tcX11_spoil_4 8 rfl) (dk_g tcX11_spoil_4 9 rfl) rfl
theorem tcX11_spoil_5 : (cX11_spoil.data.toList.drop 60).take 12 = [23, 29, 25, 6, 180, 0, 150, 162, 0, 14, 25, 6] := by decide +kernel
theorem dX11_spoil_58 : decode cX11_spoil 58 = .ok (.ifnull 23, 3) := dk_2198 (dk_g tcX11_spoil_4 10 rfl) (dk_g tcX11_spoil_4 11 rfl) (dk_g tcX11_spoil_5 0 rfl) rfl rfl
theorem dX11_spoil_61 : decode cX11_spoil 61 = .ok (.iload_n 3, 1) := dk_1029 (dk_g tcX11_spoil_5 1 rfl)
theorem dX11_spoil_62 : decode cX11_spoil 62 = .ok (.aload 6, 2) := dk_1025 (dk_g tcX11_spoil_5 2 rfl) (dk_g tcX11_spoil_5 3 rfl) rfl
theorem dX11_spoil_64 : decode cX11_spoil 64 = .ok (.getfield 150, 3) := dk_1180 (dk_g tcX11_spoil_5 4 rfl) (dk_g tcX11_spoil_5 5 rfl) (dk_g tcX11_spoil_5 6 rfl) rfl
theorem dX11_spoil_67 : decode cX11_spoil 67 = .ok (.if_icmp .ge 14, 3) := dk_2162 (dk_g tcX11_spoil_5 7 rfl) (dk_g tcX11_spoil_5 8 rfl) (dk_g tcX11_spoil_5 9 rfl) rfl rfl
theorem dX11_spoil_70 : decode cX11_spoil 70 = .ok (.aload 6, 2) := dk_1025 (dk_g tcX11_spoil_5 10 rfl) (dk_g tcX11_spoil_5 11 rfl) rfl
theorem tcX11_spoil_6 : (cX11_spoil.data.toList.drop 72).take 12 = [29, 182, 0, 177, 21, 4, 160, 0, 9, 42, 8, 182] := by decide +kernel
theorem dX11_spoil_72 : decode cX11_spoil 72 = .ok (.iload_n 3, 1) := dk_1029 (dk_g tcX11_spoil_6 0 rfl)
theorem dX11_spoil_73 : decode cX11_spoil 73 = .ok (.invokevirtual 177, 3) := dk_1182 (dk_g tcX11_spoil_6 1 rfl) (dk_g tcX11_spoil_6 2 rfl) (dk_g tcX11_spoil_6 3 rfl) rfl
theorem dX11_spoil_76 : decode cX11_spoil 76 = .ok (.iload 4, 2) := dk_1021 (dk_g tcX11_spoil_6 4 rfl) (dk_g tcX11_spoil_6 5 rfl) rfl
theorem dX11_spoil_78 : decode cX11_spoil 78 = .ok (.if_icmp .ne 9, 3) := dk_2160 (dk_g tcX11_spoil_6 6 rfl) (dk_g tcX11_spoil_6 7 rfl) (dk_g tcX11_spoil_6 8 rfl) rfl rfl
theorem dX11_spoil_81 : decode cX11_spoil 81 = .ok (.aload_n 0, 1) := dk_1042 (dk_g tcX11_spoil_6 9 rfl)
theorem dX11_spoil_82 : decode cX11_spoil 82 = .ok (.iconst 5, 1) := dk_1008 (dk_g tcX11_spoil_6 10 rfl)
theorem tcX11_spoil_7 : (cX11_spoil.data.toList.drop 84).take 12 = [0, 98, 172, 25, 6, 29, 182, 0, 177, 54, 7, 42] := by decide +kernel
theorem dX11_spoil_83 : decode cX11_spoil 83 = .ok (.invokevirtual 98, 3) := dk_1182 (dk_g tcX11_spoil_6 11 rfl) (dk_g tcX11_spoil_7 0 rfl) (dk_g tcX11_spoil_7 1 rfl) rfl
theorem dX11_spoil_86 : decode cX11_spoil 86 = .ok (.ireturn, 1) := dk_1172 (dk_g tcX11_spoil_7 2 rfl)
theorem dX11_spoil_87 : decode cX11_spoil 87 = .ok (.aload 6, 2) := dk_1025 (dk_g tcX11_spoil_7 3 rfl) (dk_g tcX11_spoil_7 4 rfl) rfl
theorem dX11_spoil_89 : decode cX11_spoil 89 = .ok (.iload_n 3, 1) := dk_1029 (dk_g tcX11_spoil_7 5 rfl)
theorem dX11_spoil_90 : decode cX11_spoil 90 = .ok (.invokevirtual 177, 3) := dk_1182 (dk_g tcX11_spoil_7 6 rfl) (dk_g tcX11_spoil_7 7 rfl) (dk_g tcX11_spoil_7 8 rfl) rfl
theorem dX11_spoil_93 : decode cX11_spoil 93 = .ok (.istore 7, 2) := dk_1054 (dk_g tcX11_spoil_7 9 rfl) (dk_g tcX11_spoil_7 10 rfl) rfl
theorem dX11_spoil_95 : decode cX11_spoil 95 = .ok (.aload_n 0, 1) := dk_1042 (dk_g tcX11_spoil_7 11 rfl)
theorem tcX11_spoil_8 : (cX11_spoil.data.toList.drop 96).take 12 = [180, 0, 16, 25, 5, 28, 29, 21, 4, 182, 0, 255] := by decide +kernel
theorem dX11_spoil_96 : decode cX11_spoil 96 = .ok (.getfield 16, 3) := dk_1180 (dk_g tcX11_spoil_8 0 rfl) (dk_g tcX11_spoil_8 1 rfl) (dk_g tcX11_spoil_8 2 rfl) rfl
theorem dX11_spoil_99 : decode cX11_spoil 99 = .ok (.aload 5, 2) := dk_1025 (dk_g tcX11_spoil_8 3 rfl) (dk_g tcX11_spoil_8 4 rfl) rfl
theorem dX11_spoil_101 : decode cX11_spoil 101 = .ok (.iload_n 2, 1) := dk_1028 (dk_g tcX11_spoil_8 5 rfl)
theorem dX11_spoil_102 : decode cX11_spoil 102 = .ok (.iload_n 3, 1) := dk_1029 (dk_g tcX11_spoil_8 6 rfl)
theorem dX11_spoil_103 : decode cX11_spoil 103 = .ok (.iload 4, 2) := dk_1021 (dk_g tcX11_spoil_8 7 rfl) (dk_g tcX11_spoil_8 8 rfl) rfl
theorem dX11_spoil_105 : decode cX11_spoil 105 = .ok (.invokevirtual 255, 3) := dk_1182 (dk_g tcX11_spoil_8 9 rfl) (dk_g tcX11_spoil_8 10 rfl) (dk_g tcX11_spoil_8 11 rfl) rfl
theorem tcX11_spoil_9 : (cX11_spoil.data.toList.drop 108).take 12 = [42, 21, 7, 182, 0, 115, 172] := by decide +kernel
theorem dX11_spoil_108 : decode cX11_spoil 108 = .ok (.aload_n 0, 1) := dk_1042 (dk_g tcX11_spoil_9 0 rfl)
theorem dX11_spoil_109 : decode cX11_spoil 109 = .ok (.iload 7, 2) := dk_1021 (dk_g tcX11_spoil_9 1 rfl) (dk_g tcX11_spoil_9 2 rfl) rfl
theorem dX11_spoil_111 : decode cX11_spoil 111 = .ok (.invokevirtual 115, 3) := dk_1182 (dk_g tcX11_spoil_9 3 rfl) (dk_g tcX11_spoil_9 4 rfl) (dk_g tcX11_spoil_9 5 rfl) rfl
theorem dX11_spoil_114 : decode cX11_spoil 114 = .ok (.ireturn, 1) := dk_1172 (dk_g tcX11_spoil_9 6 rfl)
theorem tcX11_push_0 : (cX11_push.data.toList.drop 0).take 12 = [42, 27, 182, 0, 188, 154, 0, 9, 42, 4, 182, 0] := by decide +kernel
theorem dX11_push_0 : decode cX11_push 0 = .ok (.aload_n 0, 1) := dk_1042 (dk_g tcX11_push_0 0 rfl)
theorem dX11_push_1 : decode cX11_push 1 = .ok (.iload_n 1, 1) := dk_1027 (dk_g tcX11_push_0 1 rfl)
theorem dX11_push_2 : decode cX11_push 2 = .ok (.invokevirtual 188, 3) := dk_1182 (dk_g tcX11_push_0 2 rfl) (dk_g tcX11_push_0 3 rfl) (dk_g tcX11_push_0 4 rfl) rfl
theorem dX11_push_5 : decode cX11_push 5 = .ok (.ifCond .ne 9, 3) := dk_2154 (dk_g tcX11_push_0 5 rfl) (dk_g tcX11_push_0 6 rfl) (dk_g tcX11_push_0 7 rfl) rfl rfl
theorem dX11_push_8 : decode cX11_push 8 = .ok (.aload_n 0, 1) := dk_1042 (dk_g tcX11_push_0 8 rfl)
theorem dX11_push_9 : decode cX11_push 9 = .ok (.iconst 1, 1) := dk_1004 (dk_g tcX11_push_0 9 rfl)
theorem tcX11_push_1 : (cX11_push.data.toList.drop 12).take 12 = [98, 172, 42, 180, 0, 26, 180, 0, 132, 16, 64, 161] := by decide +kernel
theorem dX11_push_10 : decode cX11_push 10 = .ok (.invokevirtual 98, 3) := dk_1182 (dk_g tcX11_push_0 10 rfl) (dk_g tcX11_push_0 11 rfl) (dk_g tcX11_push_1 0 rfl) rfl
theorem dX11_push_13 : decode cX11_push 13 = .ok (.ireturn, 1) := dk_1172 (dk_g tcX11_push_1 1 rfl)
theorem dX11_push_14 : decode cX11_push 14 = .ok (.aload_n 0, 1) := dk_1042 (dk_g tcX11_push_1 2 rfl)
theorem dX11_push_15 : decode cX11_push 15 = .ok (.getfield 26, 3) := dk_1180 (dk_g tcX11_push_1 3 rfl) (dk_g tcX11_push_1 4 rfl) (dk_g tcX11_push_1 5 rfl) rfl
theorem dX11_push_18 : decode cX11_push 18 = .ok (.getfield 132, 3) := dk_1180 (dk_g tcX11_push_1 6 rfl) (dk_g tcX11_push_1 7 rfl) (dk_g tcX11_push_1 8 rfl) rfl
theorem dX11_push_21 : decode cX11_push 21 = .ok (.bipush 64, 2) := dk_1016 (dk_g tcX11_push_1 9 rfl) (dk_g tcX11_push_1 10 rfl) (by decide +kernel)
theorem tcX11_push_2 : (cX11_push.data.toList.drop 24).take 12 = [0, 9, 42, 6, 182, 0, 98, 172, 42, 180, 0, 26] := by decide +kernel
theorem dX11_push_23 : decode cX11_push 23 = .ok (.if_icmp .lt 9, 3) := dk_2161 (dk_g tcX11_push_1 11 rfl) (dk_g tcX11_push_2 0 rfl) (dk_g tcX11_push_2 1 rfl) rfl rfl
theorem dX11_push_26 : decode cX11_push 26 = .ok (.aload_n 0, 1) := dk_1042 (dk_g tcX11_push_2 2 rfl)
theorem dX11_push_27 : decode cX11_push 27 = .ok (.iconst 3, 1) := dk_1006 (dk_g tcX11_push_2 3 rfl)
theorem dX11_push_28 : decode cX11_push 28 = .ok (.invokevirtual 98, 3) := dk_1182 (dk_g tcX11_push_2 4 rfl) (dk_g tcX11_push_2 5 rfl) (dk_g tcX11_push_2 6 rfl) rfl
theorem dX11_push_31 : decode cX11_push 31 = .ok (.ireturn, 1) := dk_1172 (dk_g tcX11_push_2 7 rfl)
theorem dX11_push_32 : decode cX11_push 32 = .ok (.aload_n 0, 1) := dk_1042 (dk_g tcX11_push_2 8 rfl)
theorem dX11_push_33 : decode cX11_push 33 = .ok (.getfield 26, 3) := dk_1180 (dk_g tcX11_push_2 9 rfl) (dk_g tcX11_push_2 10 rfl) (dk_g tcX11_push_2 11 rfl) rfl
theorem tcX11_push_3 : (cX11_push.data.toList.drop 36).take 12 = [27, 182, 1, 3, 42, 42, 180, 0, 26, 180, 0, 132] := by decide +kernel
theorem dX11_push_36 : decode cX11_push 36 = .ok (.iload_n 1, 1) := dk_1027 (dk_g tcX11_push_3 0 rfl)
theorem dX11_push_37 : decode cX11_push 37 = .ok (.invokevirtual 259, 3) := dk_1182 (dk_g tcX11_push_3 1 rfl) (dk_g tcX11_push_3 2 rfl) (dk_g tcX11_push_3 3 rfl) rfl
theorem dX11_push_40 : decode cX11_push 40 = .ok (.aload_n 0, 1) := dk_1042 (dk_g tcX11_push_3 4 rfl)
theorem dX11_push_41 : decode cX11_push 41 = .ok (.aload_n 0, 1) := dk_1042 (dk_g tcX11_push_3 5 rfl)
theorem dX11_push_42 : decode cX11_push 42 = .ok (.getfield 26, 3) := dk_1180 (dk_g tcX11_push_3 6 rfl) (dk_g tcX11_push_3 7 rfl) (dk_g tcX11_push_3 8 rfl) rfl
theorem dX11_push_45 : decode cX11_push 45 = .ok (.getfield 132, 3) := dk_1180 (dk_g tcX11_push_3 9 rfl) (dk_g tcX11_push_3 10 rfl) (dk_g tcX11_push_3 11 rfl) rfl
theorem tcX11_push_4 : (cX11_push.data.toList.drop 48).take 12 = [182, 0, 115, 172] := by decide +kernel
theorem dX11_push_48 : decode cX11_push 48 = .ok (.invokevirtual 115, 3) := dk_1182 (dk_g tcX11_push_4 0 rfl) (dk_g tcX11_push_4 1 rfl) (dk_g tcX11_push_4 2 rfl) rfl
theorem dX11_push_51 : decode cX11_push 51 = .ok (.ireturn, 1) := dk_1172 (dk_g tcX11_push_4 3 rfl)
theorem tcX11_poke_0 : (cX11_poke.data.toList.drop 0).take 12 = [27, 155, 0, 11, 42, 28, 182, 0, 188, 154, 0, 9] := by decide +kernel
theorem dX11_poke_0 : decode cX11_poke 0 = .ok (.iload_n 1, 1) := dk_1027 (dk_g tcX11_poke_0 0 rfl)
theorem dX11_poke_1 : decode cX11_poke 1 = .ok (.ifCond .lt 11, 3) := dk_2155 (dk_g tcX11_poke_0 1 rfl) (dk_g tcX11_poke_0 2 rfl) (dk_g tcX11_poke_0 3 rfl) rfl rfl
theorem dX11_poke_4 : decode cX11_poke 4 = .ok (.aload_n 0, 1) := dk_1042 (dk_g tcX11_poke_0 4 rfl)
theorem dX11_poke_5 : decode cX11_poke 5 = .ok (.iload_n 2, 1) := dk_1028 (dk_g tcX11_poke_0 5 rfl)
theorem dX11_poke_6 : decode cX11_poke 6 = .ok (.invokevirtual 188, 3) := dk_1182 (dk_g tcX11_poke_0 6 rfl) (dk_g tcX11_poke_0 7 rfl) (dk_g tcX11_poke_0 8 rfl) rfl
theorem dX11_poke_9 : decode cX11_poke 9 = .ok (.ifCond .ne 9, 3) := dk_2154 (dk_g tcX11_poke_0 9 rfl) (dk_g tcX11_poke_0 10 rfl) (dk_g tcX11_poke_0 11 rfl) rfl rfl
theorem tcX11_poke_1 : (cX11_poke.data.toList.drop 12).take 12 = [42, 4, 182, 0, 98, 172, 27, 42, 180, 0, 26, 180] := by decide +kernel
theorem dX11_poke_12 : decode cX11_poke 12 = .ok (.aload_n 0, 1) := dk_1042 (dk_g tcX11_poke_1 0 rfl)
theorem dX11_poke_13 : decode cX11_poke 13 = .ok (.iconst 1, 1) := dk_1004 (dk_g tcX11_poke_1 1 rfl)
theorem dX11_poke_14 : decode cX11_poke 14 = .ok (.invokevirtual 98, 3) := dk_1182 (dk_g tcX11_poke_1 2 rfl) (dk_g tcX11_poke_1 3 rfl) (dk_g tcX11_poke_1 4 rfl) rfl
theorem dX11_poke_17 : decode cX11_poke 17 = .ok (.ireturn, 1) := dk_1172 (dk_g tcX11_poke_1 5 rfl)
theorem dX11_poke_18 : decode cX11_poke 18 = .ok (.iload_n 1, 1) := dk_1027 (dk_g tcX11_poke_1 6 rfl)
theorem dX11_poke_19 : decode cX11_poke 19 = .ok (.aload_n 0, 1) := dk_1042 (dk_g tcX11_poke_1 7 rfl)
theorem dX11_poke_20 : decode cX11_poke 20 = .ok (.getfield 26, 3) := dk_1180 (dk_g tcX11_poke_1 8 rfl) (dk_g tcX11_poke_1 9 rfl) (dk_g tcX11_poke_1 10 rfl) rfl
theorem tcX11_poke_2 : (cX11_poke.data.toList.drop 24).take 12 = [0, 132, 161, 0, 9, 42, 8, 182, 0, 98, 172, 42] := by decide +kernel
theorem dX11_poke_23 : decode cX11_poke 23 = .ok (.getfield 132, 3) := dk_1180 (dk_g tcX11_poke_1 11 rfl) (dk_g tcX11_poke_2 0 rfl) (dk_g tcX11_poke_2 1 rfl) rfl
theorem dX11_poke_26 : decode cX11_poke 26 = .ok (.if_icmp .lt 9, 3) := dk_2161 (dk_g tcX11_poke_2 2 rfl) (dk_g tcX11_poke_2 3 rfl) (dk_g tcX11_poke_2 4 rfl) rfl rfl
theorem dX11_poke_29 : decode cX11_poke 29 = .ok (.aload_n 0, 1) := dk_1042 (dk_g tcX11_poke_2 5 rfl)
theorem dX11_poke_30 : decode cX11_poke 30 = .ok (.iconst 5, 1) := dk_1008 (dk_g tcX11_poke_2 6 rfl)
theorem dX11_poke_31 : decode cX11_poke 31 = .ok (.invokevirtual 98, 3) := dk_1182 (dk_g tcX11_poke_2 7 rfl) (dk_g tcX11_poke_2 8 rfl) (dk_g tcX11_poke_2 9 rfl) rfl
theorem dX11_poke_34 : decode cX11_poke 34 = .ok (.ireturn, 1) := dk_1172 (dk_g tcX11_poke_2 10 rfl)
theorem dX11_poke_35 : decode cX11_poke 35 = .ok (.aload_n 0, 1) := dk_1042 (dk_g tcX11_poke_2 11 rfl)
theorem tcX11_poke_3 : (cX11_poke.data.toList.drop 36).take 12 = [180, 0, 26, 27, 182, 0, 135, 62, 42, 180, 0, 26] := by decide +kernel
theorem dX11_poke_36 : decode cX11_poke 36 = .ok (.getfield 26, 3) := dk_1180 (dk_g tcX11_poke_3 0 rfl) (dk_g tcX11_poke_3 1 rfl) (dk_g tcX11_poke_3 2 rfl) rfl
theorem dX11_poke_39 : decode cX11_poke 39 = .ok (.iload_n 1, 1) := dk_1027 (dk_g tcX11_poke_3 3 rfl)
theorem dX11_poke_40 : decode cX11_poke 40 = .ok (.invokevirtual 135, 3) := dk_1182 (dk_g tcX11_poke_3 4 rfl) (dk_g tcX11_poke_3 5 rfl) (dk_g tcX11_poke_3 6 rfl) rfl
theorem dX11_poke_43 : decode cX11_poke 43 = .ok (.istore_n 3, 1) := dk_1062 (dk_g tcX11_poke_3 7 rfl)
theorem dX11_poke_44 : decode cX11_poke 44 = .ok (.aload_n 0, 1) := dk_1042 (dk_g tcX11_poke_3 8 rfl)
theorem dX11_poke_45 : decode cX11_poke 45 = .ok (.getfield 26, 3) := dk_1180 (dk_g tcX11_poke_3 9 rfl) (dk_g tcX11_poke_3 10 rfl) (dk_g tcX11_poke_3 11 rfl) rfl
theorem tcX11_poke_4 : (cX11_poke.data.toList.drop 48).take 12 = [27, 28, 182, 1, 4, 42, 29, 182, 0, 115, 172] := by decide +kernel
theorem dX11_poke_48 : decode cX11_poke 48 = .ok (.iload_n 1, 1) := dk_1027 (dk_g tcX11_poke_4 0 rfl)
theorem dX11_poke_49 : decode cX11_poke 49 = .ok (.iload_n 2, 1) := dk_1028 (dk_g tcX11_poke_4 1 rfl)
theorem dX11_poke_50 : decode cX11_poke 50 = .ok (.invokevirtual 260, 3) := dk_1182 (dk_g tcX11_poke_4 2 rfl) (dk_g tcX11_poke_4 3 rfl) (dk_g tcX11_poke_4 4 rfl) rfl
theorem dX11_poke_53 : decode cX11_poke 53 = .ok (.aload_n 0, 1) := dk_1042 (dk_g tcX11_poke_4 5 rfl)
theorem dX11_poke_54 : decode cX11_poke 54 = .ok (.iload_n 3, 1) := dk_1029 (dk_g tcX11_poke_4 6 rfl)
theorem dX11_poke_55 : decode cX11_poke 55 = .ok (.invokevirtual 115, 3) := dk_1182 (dk_g tcX11_poke_4 7 rfl) (dk_g tcX11_poke_4 8 rfl) (dk_g tcX11_poke_4 9 rfl) rfl
theorem dX11_poke_58 : decode cX11_poke 58 = .ok (.ireturn, 1) := dk_1172 (dk_g tcX11_poke_4 10 rfl)
theorem tcX11_pad_0 : (cX11_pad.data.toList.drop 0).take 12 = [27, 156, 0, 9, 42, 4, 182, 0, 98, 172, 27, 42] := by decide +kernel
theorem dX11_pad_0 : decode cX11_pad 0 = .ok (.iload_n 1, 1) := dk_1027 (dk_g tcX11_pad_0 0 rfl)
theorem dX11_pad_1 : decode cX11_pad 1 = .ok (.ifCond .ge 9, 3) := dk_2156 (dk_g tcX11_pad_0 1 rfl) (dk_g tcX11_pad_0 2 rfl) (dk_g tcX11_pad_0 3 rfl) rfl rfl
theorem dX11_pad_4 : decode cX11_pad 4 = .ok (.aload_n 0, 1) := dk_1042 (dk_g tcX11_pad_0 4 rfl)
theorem dX11_pad_5 : decode cX11_pad 5 = .ok (.iconst 1, 1) := dk_1004 (dk_g tcX11_pad_0 5 rfl)
theorem dX11_pad_6 : decode cX11_pad 6 = .ok (.invokevirtual 98, 3) := dk_1182 (dk_g tcX11_pad_0 6 rfl) (dk_g tcX11_pad_0 7 rfl) (dk_g tcX11_pad_0 8 rfl) rfl
theorem dX11_pad_9 : decode cX11_pad 9 = .ok (.ireturn, 1) := dk_1172 (dk_g tcX11_pad_0 9 rfl)
theorem dX11_pad_10 : decode cX11_pad 10 = .ok (.iload_n 1, 1) := dk_1027 (dk_g tcX11_pad_0 10 rfl)
theorem dX11_pad_11 : decode cX11_pad 11 = .ok (.aload_n 0, 1) := dk_1042 (dk_g tcX11_pad_0 11 rfl)
theorem tcX11_pad_1 : (cX11_pad.data.toList.drop 12).take 12 = [180, 0, 26, 180, 0, 132, 162, 0, 18, 42, 42, 180] := by decide +kernel
theorem dX11_pad_12 : decode cX11_pad 12 = .ok (.getfield 26, 3) := dk_1180 (dk_g tcX11_pad_1 0 rfl) (dk_g tcX11_pad_1 1 rfl) (dk_g tcX11_pad_1 2 rfl) rfl
theorem dX11_pad_15 : decode cX11_pad 15 = .ok (.getfield 132, 3) := dk_1180 (dk_g tcX11_pad_1 3 rfl) (dk_g tcX11_pad_1 4 rfl) (dk_g tcX11_pad_1 5 rfl) rfl
theorem dX11_pad_18 : decode cX11_pad 18 = .ok (.if_icmp .ge 18, 3) := dk_2162 (dk_g tcX11_pad_1 6 rfl) (dk_g tcX11_pad_1 7 rfl) (dk_g tcX11_pad_1 8 rfl) rfl rfl
theorem dX11_pad_21 : decode cX11_pad 21 = .ok (.aload_n 0, 1) := dk_1042 (dk_g tcX11_pad_1 9 rfl)
theorem dX11_pad_22 : decode cX11_pad 22 = .ok (.aload_n 0, 1) := dk_1042 (dk_g tcX11_pad_1 10 rfl)
theorem tcX11_pad_2 : (cX11_pad.data.toList.drop 24).take 12 = [0, 26, 27, 182, 0, 135, 182, 0, 115, 167, 0, 8] := by decide +kernel
theorem dX11_pad_23 : decode cX11_pad 23 = .ok (.getfield 26, 3) := dk_1180 (dk_g tcX11_pad_1 11 rfl) (dk_g tcX11_pad_2 0 rfl) (dk_g tcX11_pad_2 1 rfl) rfl
theorem dX11_pad_26 : decode cX11_pad 26 = .ok (.iload_n 1, 1) := dk_1027 (dk_g tcX11_pad_2 2 rfl)
theorem dX11_pad_27 : decode cX11_pad 27 = .ok (.invokevirtual 135, 3) := dk_1182 (dk_g tcX11_pad_2 3 rfl) (dk_g tcX11_pad_2 4 rfl) (dk_g tcX11_pad_2 5 rfl) rfl
theorem dX11_pad_30 : decode cX11_pad 30 = .ok (.invokevirtual 115, 3) := dk_1182 (dk_g tcX11_pad_2 6 rfl) (dk_g tcX11_pad_2 7 rfl) (dk_g tcX11_pad_2 8 rfl) rfl
theorem dX11_pad_33 : decode cX11_pad 33 = .ok (.goto 8, 3) := dk_2167 (dk_g tcX11_pad_2 9 rfl) (dk_g tcX11_pad_2 10 rfl) (dk_g tcX11_pad_2 11 rfl) rfl rfl
theorem tcX11_pad_3 : (cX11_pad.data.toList.drop 36).take 12 = [42, 8, 182, 0, 98, 172] := by decide +kernel
theorem dX11_pad_36 : decode cX11_pad 36 = .ok (.aload_n 0, 1) := dk_1042 (dk_g tcX11_pad_3 0 rfl)
theorem dX11_pad_37 : decode cX11_pad 37 = .ok (.iconst 5, 1) := dk_1008 (dk_g tcX11_pad_3 1 rfl)
theorem dX11_pad_38 : decode cX11_pad 38 = .ok (.invokevirtual 98, 3) := dk_1182 (dk_g tcX11_pad_3 2 rfl) (dk_g tcX11_pad_3 3 rfl) (dk_g tcX11_pad_3 4 rfl) rfl
theorem dX11_pad_41 : decode cX11_pad 41 = .ok (.ireturn, 1) := dk_1172 (dk_g tcX11_pad_3 5 rfl)
theorem tcX11_cut_0 : (cX11_cut.data.toList.drop 0).take 12 = [27, 156, 0, 9, 42, 4, 182, 0, 98, 172, 27, 42] := by decide +kernel
theorem dX11_cut_0 : decode cX11_cut 0 = .ok (.iload_n 1, 1) := dk_1027 (dk_g tcX11_cut_0 0 rfl)
theorem dX11_cut_1 : decode cX11_cut 1 = .ok (.ifCond .ge 9, 3) := dk_2156 (dk_g tcX11_cut_0 1 rfl) (dk_g tcX11_cut_0 2 rfl) (dk_g tcX11_cut_0 3 rfl) rfl rfl
theorem dX11_cut_4 : decode cX11_cut 4 = .ok (.aload_n 0, 1) := dk_1042 (dk_g tcX11_cut_0 4 rfl)
theorem dX11_cut_5 : decode cX11_cut 5 = .ok (.iconst 1, 1) := dk_1004 (dk_g tcX11_cut_0 5 rfl)
theorem dX11_cut_6 : decode cX11_cut 6 = .ok (.invokevirtual 98, 3) := dk_1182 (dk_g tcX11_cut_0 6 rfl) (dk_g tcX11_cut_0 7 rfl) (dk_g tcX11_cut_0 8 rfl) rfl
theorem dX11_cut_9 : decode cX11_cut 9 = .ok (.ireturn, 1) := dk_1172 (dk_g tcX11_cut_0 9 rfl)
theorem dX11_cut_10 : decode cX11_cut 10 = .ok (.iload_n 1, 1) := dk_1027 (dk_g tcX11_cut_0 10 rfl)
theorem dX11_cut_11 : decode cX11_cut 11 = .ok (.aload_n 0, 1) := dk_1042 (dk_g tcX11_cut_0 11 rfl)
theorem tcX11_cut_1 : (cX11_cut.data.toList.drop 12).take 12 = [180, 0, 26, 180, 0, 132, 164, 0, 9, 42, 8, 182] := by decide +kernel
theorem dX11_cut_12 : decode cX11_cut 12 = .ok (.getfield 26, 3) := dk_1180 (dk_g tcX11_cut_1 0 rfl) (dk_g tcX11_cut_1 1 rfl) (dk_g tcX11_cut_1 2 rfl) rfl
theorem dX11_cut_15 : decode cX11_cut 15 = .ok (.getfield 132, 3) := dk_1180 (dk_g tcX11_cut_1 3 rfl) (dk_g tcX11_cut_1 4 rfl) (dk_g tcX11_cut_1 5 rfl) rfl
theorem dX11_cut_18 : decode cX11_cut 18 = .ok (.if_icmp .le 9, 3) := dk_2164 (dk_g tcX11_cut_1 6 rfl) (dk_g tcX11_cut_1 7 rfl) (dk_g tcX11_cut_1 8 rfl) rfl rfl
theorem dX11_cut_21 : decode cX11_cut 21 = .ok (.aload_n 0, 1) := dk_1042 (dk_g tcX11_cut_1 9 rfl)
theorem dX11_cut_22 : decode cX11_cut 22 = .ok (.iconst 5, 1) := dk_1008 (dk_g tcX11_cut_1 10 rfl)
theorem tcX11_cut_2 : (cX11_cut.data.toList.drop 24).take 12 = [0, 98, 172, 42, 180, 0, 26, 27, 182, 0, 109, 42] := by decide +kernel
theorem dX11_cut_23 : decode cX11_cut 23 = .ok (.invokevirtual 98, 3) := dk_1182 (dk_g tcX11_cut_1 11 rfl) (dk_g tcX11_cut_2 0 rfl) (dk_g tcX11_cut_2 1 rfl) rfl
theorem dX11_cut_26 : decode cX11_cut 26 = .ok (.ireturn, 1) := dk_1172 (dk_g tcX11_cut_2 2 rfl)
theorem dX11_cut_27 : decode cX11_cut 27 = .ok (.aload_n 0, 1) := dk_1042 (dk_g tcX11_cut_2 3 rfl)
theorem dX11_cut_28 : decode cX11_cut 28 = .ok (.getfield 26, 3) := dk_1180 (dk_g tcX11_cut_2 4 rfl) (dk_g tcX11_cut_2 5 rfl) (dk_g tcX11_cut_2 6 rfl) rfl
theorem dX11_cut_31 : decode cX11_cut 31 = .ok (.iload_n 1, 1) := dk_1027 (dk_g tcX11_cut_2 7 rfl)
theorem dX11_cut_32 : decode cX11_cut 32 = .ok (.invokevirtual 109, 3) := dk_1182 (dk_g tcX11_cut_2 8 rfl) (dk_g tcX11_cut_2 9 rfl) (dk_g tcX11_cut_2 10 rfl) rfl
theorem dX11_cut_35 : decode cX11_cut 35 = .ok (.aload_n 0, 1) := dk_1042 (dk_g tcX11_cut_2 11 rfl)
theorem tcX11_cut_3 : (cX11_cut.data.toList.drop 36).take 12 = [27, 182, 0, 115, 172] := by decide +kernel
theorem dX11_cut_36 : decode cX11_cut 36 = .ok (.iload_n 1, 1) := dk_1027 (dk_g tcX11_cut_3 0 rfl)
theorem dX11_cut_37 : decode cX11_cut 37 = .ok (.invokevirtual 115, 3) := dk_1182 (dk_g tcX11_cut_3 1 rfl) (dk_g tcX11_cut_3 2 rfl) (dk_g tcX11_cut_3 3 rfl) rfl
theorem dX11_cut_40 : decode cX11_cut 40 = .ok (.ireturn, 1) := dk_1172 (dk_g tcX11_cut_3 4 rfl)
theorem tcX11_include_0 : (cX11_include.data.toList.drop 0).take 12 = [42, 180, 0, 16, 27, 182, 0, 163, 58, 4, 25, 4] := by decide +kernel
theorem dX11_include_0 : decode cX11_include 0 = .ok (.aload_n 0, 1) := dk_1042 (dk_g tcX11_include_0 0 rfl)
theorem dX11_include_1 : decode cX11_include 1 = .ok (.getfield 16, 3) := dk_1180 (dk_g tcX11_include_0 1 rfl) (dk_g tcX11_include_0 2 rfl) (dk_g tcX11_include_0 3 rfl) rfl
theorem dX11_include_4 : decode cX11_include 4 = .ok (.iload_n 1, 1) := dk_1027 (dk_g tcX11_include_0 4 rfl)
theorem dX11_include_5 : decode cX11_include 5 = .ok (.invokevirtual 163, 3) := dk_1182 (dk_g tcX11_include_0 5 rfl) (dk_g tcX11_include_0 6 rfl) (dk_g tcX11_include_0 7 rfl) rfl
theorem dX11_include_8 : decode cX11_include 8 = .ok (.astore 4, 2) := dk_1058 (dk_g tcX11_include_0 8 rfl) (dk_g tcX11_include_0 9 rfl) rfl
theorem dX11_include_10 : decode cX11_include 10 = .ok (.aload 4, 2) := dk_1025 (dk_g tcX11_include_0 10 rfl) (dk_g tcX11_include_0 11 rfl) rfl
theorem tcX11_include_1 : (cX11_include.data.toList.drop 12).take 12 = [28, 29, 184, 1, 8, 54, 5, 21, 5, 153, 0, 10] := by decide +kernel
theorem dX11_include_12 : decode cX11_include 12 = .ok (.iload_n 2, 1) := dk_1028 (dk_g tcX11_include_1 0 rfl)
theorem dX11_include_13 : decode cX11_include 13 = .ok (.iload_n 3, 1) := dk_1029 (dk_g tcX11_include_1 1 rfl)
theorem dX11_include_14 : decode cX11_include 14 = .ok (.invokestatic 264, 3) := dk_1184 (dk_g tcX11_include_1 2 rfl) (dk_g tcX11_include_1 3 rfl) (dk_g tcX11_include_1 4 rfl) rfl
theorem dX11_include_17 : decode cX11_include 17 = .ok (.istore 5, 2) := dk_1054 (dk_g tcX11_include_1 5 rfl) (dk_g tcX11_include_1 6 rfl) rfl
theorem dX11_include_19 : decode cX11_include 19 = .ok (.iload 5, 2) := dk_1021 (dk_g tcX11_include_1 7 rfl) (dk_g tcX11_include_1 8 rfl) rfl
theorem dX11_include_21 : decode cX11_include 21 = .ok (.ifCond .eq 10, 3) := dk_2153 (dk_g tcX11_include_1 9 rfl) (dk_g tcX11_include_1 10 rfl) (dk_g tcX11_include_1 11 rfl) rfl rfl
theorem tcX11_include_2 : (cX11_include.data.toList.drop 24).take 12 = [42, 21, 5, 182, 0, 98, 172, 42, 180, 0, 62, 28] := by decide +kernel
theorem dX11_include_24 : decode cX11_include 24 = .ok (.aload_n 0, 1) := dk_1042 (dk_g tcX11_include_2 0 rfl)
theorem dX11_include_25 : decode cX11_include 25 = .ok (.iload 5, 2) := dk_1021 (dk_g tcX11_include_2 1 rfl) (dk_g tcX11_include_2 2 rfl) rfl
theorem dX11_include_27 : decode cX11_include 27 = .ok (.invokevirtual 98, 3) := dk_1182 (dk_g tcX11_include_2 3 rfl) (dk_g tcX11_include_2 4 rfl) (dk_g tcX11_include_2 5 rfl) rfl
theorem dX11_include_30 : decode cX11_include 30 = .ok (.ireturn, 1) := dk_1172 (dk_g tcX11_include_2 6 rfl)
theorem dX11_include_31 : decode cX11_include 31 = .ok (.aload_n 0, 1) := dk_1042 (dk_g tcX11_include_2 7 rfl)
theorem dX11_include_32 : decode cX11_include 32 = .ok (.getfield 62, 3) := dk_1180 (dk_g tcX11_include_2 8 rfl) (dk_g tcX11_include_2 9 rfl) (dk_g tcX11_include_2 10 rfl) rfl
theorem dX11_include_35 : decode cX11_include 35 = .ok (.iload_n 2, 1) := dk_1028 (dk_g tcX11_include_2 11 rfl)
theorem tcX11_include_3 : (cX11_include.data.toList.drop 36).take 12 = [29, 182, 1, 11, 42, 180, 0, 16, 42, 180, 0, 62] := by decide +kernel
theorem dX11_include_36 : decode cX11_include 36 = .ok (.iload_n 3, 1) := dk_1029 (dk_g tcX11_include_3 0 rfl)
theorem dX11_include_37 : decode cX11_include 37 = .ok (.invokevirtual 267, 3) := dk_1182 (dk_g tcX11_include_3 1 rfl) (dk_g tcX11_include_3 2 rfl) (dk_g tcX11_include_3 3 rfl) rfl
theorem dX11_include_40 : decode cX11_include 40 = .ok (.aload_n 0, 1) := dk_1042 (dk_g tcX11_include_3 4 rfl)
theorem dX11_include_41 : decode cX11_include 41 = .ok (.getfield 16, 3) := dk_1180 (dk_g tcX11_include_3 5 rfl) (dk_g tcX11_include_3 6 rfl) (dk_g tcX11_include_3 7 rfl) rfl
theorem dX11_include_44 : decode cX11_include 44 = .ok (.aload_n 0, 1) := dk_1042 (dk_g tcX11_include_3 8 rfl)
theorem dX11_include_45 : decode cX11_include 45 = .ok (.getfield 62, 3) := dk_1180 (dk_g tcX11_include_3 9 rfl) (dk_g tcX11_include_3 10 rfl) (dk_g tcX11_include_3 11 rfl) rfl
theorem tcX11_include_4 : (cX11_include.data.toList.drop 48).take 12 = [25, 4, 42, 180, 0, 26, 182, 1, 14, 42, 42, 180] := by decide +kernel
theorem dX11_include_48 : decode cX11_include 48 = .ok (.aload 4, 2) := dk_1025 (dk_g tcX11_include_4 0 rfl) (dk_g tcX11_include_4 1 rfl) rfl
theorem dX11_include_50 : decode cX11_include 50 = .ok (.aload_n 0, 1) := dk_1042 (dk_g tcX11_include_4 2 rfl)
theorem dX11_include_51 : decode cX11_include 51 = .ok (.getfield 26, 3) := dk_1180 (dk_g tcX11_include_4 3 rfl) (dk_g tcX11_include_4 4 rfl) (dk_g tcX11_include_4 5 rfl) rfl
theorem dX11_include_54 : decode cX11_include 54 = .ok (.invokevirtual 270, 3) := dk_1182 (dk_g tcX11_include_4 6 rfl) (dk_g tcX11_include_4 7 rfl) (dk_g tcX11_include_4 8 rfl) rfl
theorem dX11_include_57 : decode cX11_include 57 = .ok (.aload_n 0, 1) := dk_1042 (dk_g tcX11_include_4 9 rfl)
theorem dX11_include_58 : decode cX11_include 58 = .ok (.aload_n 0, 1) := dk_1042 (dk_g tcX11_include_4 10 rfl)
theorem tcX11_include_5 : (cX11_include.data.toList.drop 60).take 12 = [0, 26, 180, 0, 132, 182, 0, 115, 172] := by decide +kernel
theorem dX11_include_59 : decode cX11_include 59 = .ok (.getfield 26, 3) := dk_1180 (dk_g tcX11_include_4 11 rfl) (dk_g tcX11_include_5 0 rfl) (dk_g tcX11_include_5 1 rfl) rfl
theorem dX11_include_62 : decode cX11_include 62 = .ok (.getfield 132, 3) := dk_1180 (dk_g tcX11_include_5 2 rfl) (dk_g tcX11_include_5 3 rfl) (dk_g tcX11_include_5 4 rfl) rfl
theorem dX11_include_65 : decode cX11_include 65 = .ok (.invokevirtual 115, 3) := dk_1182 (dk_g tcX11_include_5 5 rfl) (dk_g tcX11_include_5 6 rfl) (dk_g tcX11_include_5 7 rfl) rfl
theorem dX11_include_68 : decode cX11_include 68 = .ok (.ireturn, 1) := dk_1172 (dk_g tcX11_include_5 8 rfl)
theorem tcX11_grow_0 : (cX11_grow.data.toList.drop 0).take 12 = [42, 180, 0, 16, 27, 182, 0, 163, 58, 4, 25, 4] := by decide +kernel
theorem dX11_grow_0 : decode cX11_grow 0 = .ok (.aload_n 0, 1) := dk_1042 (dk_g tcX11_grow_0 0 rfl)
theorem dX11_grow_1 : decode cX11_grow 1 = .ok (.getfield 16, 3) := dk_1180 (dk_g tcX11_grow_0 1 rfl) (dk_g tcX11_grow_0 2 rfl) (dk_g tcX11_grow_0 3 rfl) rfl
theorem dX11_grow_4 : decode cX11_grow 4 = .ok (.iload_n 1, 1) := dk_1027 (dk_g tcX11_grow_0 4 rfl)
theorem dX11_grow_5 : decode cX11_grow 5 = .ok (.invokevirtual 163, 3) := dk_1182 (dk_g tcX11_grow_0 5 rfl) (dk_g tcX11_grow_0 6 rfl) (dk_g tcX11_grow_0 7 rfl) rfl
theorem dX11_grow_8 : decode cX11_grow 8 = .ok (.astore 4, 2) := dk_1058 (dk_g tcX11_grow_0 8 rfl) (dk_g tcX11_grow_0 9 rfl) rfl
theorem dX11_grow_10 : decode cX11_grow 10 = .ok (.aload 4, 2) := dk_1025 (dk_g tcX11_grow_0 10 rfl) (dk_g tcX11_grow_0 11 rfl) rfl
theorem tcX11_grow_1 : (cX11_grow.data.toList.drop 12).take 12 = [28, 29, 184, 0, 180, 54, 5, 21, 5, 153, 0, 10] := by decide +kernel
theorem dX11_grow_12 : decode cX11_grow 12 = .ok (.iload_n 2, 1) := dk_1028 (dk_g tcX11_grow_1 0 rfl)
theorem dX11_grow_13 : decode cX11_grow 13 = .ok (.iload_n 3, 1) := dk_1029 (dk_g tcX11_grow_1 1 rfl)
theorem dX11_grow_14 : decode cX11_grow 14 = .ok (.invokestatic 180, 3) := dk_1184 (dk_g tcX11_grow_1 2 rfl) (dk_g tcX11_grow_1 3 rfl) (dk_g tcX11_grow_1 4 rfl) rfl
theorem dX11_grow_17 : decode cX11_grow 17 = .ok (.istore 5, 2) := dk_1054 (dk_g tcX11_grow_1 5 rfl) (dk_g tcX11_grow_1 6 rfl) rfl
theorem dX11_grow_19 : decode cX11_grow 19 = .ok (.iload 5, 2) := dk_1021 (dk_g tcX11_grow_1 7 rfl) (dk_g tcX11_grow_1 8 rfl) rfl
theorem dX11_grow_21 : decode cX11_grow 21 = .ok (.ifCond .eq 10, 3) := dk_2153 (dk_g tcX11_grow_1 9 rfl) (dk_g tcX11_grow_1 10 rfl) (dk_g tcX11_grow_1 11 rfl) rfl rfl
theorem tcX11_grow_2 : (cX11_grow.data.toList.drop 24).take 12 = [42, 21, 5, 182, 0, 98, 172, 42, 180, 0, 62, 28] := by decide +kernel
theorem dX11_grow_24 : decode cX11_grow 24 = .ok (.aload_n 0, 1) := dk_1042 (dk_g tcX11_grow_2 0 rfl)
theorem dX11_grow_25 : decode cX11_grow 25 = .ok (.iload 5, 2) := dk_1021 (dk_g tcX11_grow_2 1 rfl) (dk_g tcX11_grow_2 2 rfl) rfl
theorem dX11_grow_27 : decode cX11_grow 27 = .ok (.invokevirtual 98, 3) := dk_1182 (dk_g tcX11_grow_2 3 rfl) (dk_g tcX11_grow_2 4 rfl) (dk_g tcX11_grow_2 5 rfl) rfl
theorem dX11_grow_30 : decode cX11_grow 30 = .ok (.ireturn, 1) := dk_1172 (dk_g tcX11_grow_2 6 rfl)
theorem dX11_grow_31 : decode cX11_grow 31 = .ok (.aload_n 0, 1) := dk_1042 (dk_g tcX11_grow_2 7 rfl)
theorem dX11_grow_32 : decode cX11_grow 32 = .ok (.getfield 62, 3) := dk_1180 (dk_g tcX11_grow_2 8 rfl) (dk_g tcX11_grow_2 9 rfl) (dk_g tcX11_grow_2 10 rfl) rfl
theorem dX11_grow_35 : decode cX11_grow 35 = .ok (.iload_n 2, 1) := dk_1028 (dk_g tcX11_grow_2 11 rfl)
theorem tcX11_grow_3 : (cX11_grow.data.toList.drop 36).take 12 = [29, 182, 1, 18, 42, 180, 0, 16, 42, 180, 0, 62] := by decide +kernel
theorem dX11_grow_36 : decode cX11_grow 36 = .ok (.iload_n 3, 1) := dk_1029 (dk_g tcX11_grow_3 0 rfl)
theorem dX11_grow_37 : decode cX11_grow 37 = .ok (.invokevirtual 274, 3) := dk_1182 (dk_g tcX11_grow_3 1 rfl) (dk_g tcX11_grow_3 2 rfl) (dk_g tcX11_grow_3 3 rfl) rfl
theorem dX11_grow_40 : decode cX11_grow 40 = .ok (.aload_n 0, 1) := dk_1042 (dk_g tcX11_grow_3 4 rfl)
theorem dX11_grow_41 : decode cX11_grow 41 = .ok (.getfield 16, 3) := dk_1180 (dk_g tcX11_grow_3 5 rfl) (dk_g tcX11_grow_3 6 rfl) (dk_g tcX11_grow_3 7 rfl) rfl
theorem dX11_grow_44 : decode cX11_grow 44 = .ok (.aload_n 0, 1) := dk_1042 (dk_g tcX11_grow_3 8 rfl)
theorem dX11_grow_45 : decode cX11_grow 45 = .ok (.getfield 62, 3) := dk_1180 (dk_g tcX11_grow_3 9 rfl) (dk_g tcX11_grow_3 10 rfl) (dk_g tcX11_grow_3 11 rfl) rfl
theorem tcX11_grow_4 : (cX11_grow.data.toList.drop 48).take 12 = [25, 4, 42, 180, 0, 26, 182, 1, 14, 42, 42, 180] := by decide +kernel
theorem dX11_grow_48 : decode cX11_grow 48 = .ok (.aload 4, 2) := dk_1025 (dk_g tcX11_grow_4 0 rfl) (dk_g tcX11_grow_4 1 rfl) rfl
theorem dX11_grow_50 : decode cX11_grow 50 = .ok (.aload_n 0, 1) := dk_1042 (dk_g tcX11_grow_4 2 rfl)
theorem dX11_grow_51 : decode cX11_grow 51 = .ok (.getfield 26, 3) := dk_1180 (dk_g tcX11_grow_4 3 rfl) (dk_g tcX11_grow_4 4 rfl) (dk_g tcX11_grow_4 5 rfl) rfl
theorem dX11_grow_54 : decode cX11_grow 54 = .ok (.invokevirtual 270, 3) := dk_1182 (dk_g tcX11_grow_4 6 rfl) (dk_g tcX11_grow_4 7 rfl) (dk_g tcX11_grow_4 8 rfl) rfl
theorem dX11_grow_57 : decode cX11_grow 57 = .ok (.aload_n 0, 1) := dk_1042 (dk_g tcX11_grow_4 9 rfl)
theorem dX11_grow_58 : decode cX11_grow 58 = .ok (.aload_n 0, 1) := dk_1042 (dk_g tcX11_grow_4 10 rfl)
theorem tcX11_grow_5 : (cX11_grow.data.toList.drop 60).take 12 = [0, 26, 180, 0, 132, 182, 0, 115, 172] := by decide +kernel
theorem dX11_grow_59 : decode cX11_grow 59 = .ok (.getfield 26, 3) := dk_1180 (dk_g tcX11_grow_4 11 rfl) (dk_g tcX11_grow_5 0 rfl) (dk_g tcX11_grow_5 1 rfl) rfl
theorem dX11_grow_62 : decode cX11_grow 62 = .ok (.getfield 132, 3) := dk_1180 (dk_g tcX11_grow_5 2 rfl) (dk_g tcX11_grow_5 3 rfl) (dk_g tcX11_grow_5 4 rfl) rfl
theorem dX11_grow_65 : decode cX11_grow 65 = .ok (.invokevirtual 115, 3) := dk_1182 (dk_g tcX11_grow_5 5 rfl) (dk_g tcX11_grow_5 6 rfl) (dk_g tcX11_grow_5 7 rfl) rfl
theorem dX11_grow_68 : decode cX11_grow 68 = .ok (.ireturn, 1) := dk_1172 (dk_g tcX11_grow_5 8 rfl)
theorem tcX11_bundle_0 : (cX11_bundle.data.toList.drop 0).take 12 = [29, 155, 0, 10, 28, 184, 1, 21, 154, 0, 9, 42] := by decide +kernel
theorem dX11_bundle_0 : decode cX11_bundle 0 = .ok (.iload_n 3, 1) := dk_1029 (dk_g tcX11_bundle_0 0 rfl)
theorem dX11_bundle_1 : decode cX11_bundle 1 = .ok (.ifCond .lt 10, 3) := dk_2155 (dk_g tcX11_bundle_0 1 rfl) (dk_g tcX11_bundle_0 2 rfl) (dk_g tcX11_bundle_0 3 rfl) rfl rfl
theorem dX11_bundle_4 : decode cX11_bundle 4 = .ok (.iload_n 2, 1) := dk_1028 (dk_g tcX11_bundle_0 4 rfl)
theorem dX11_bundle_5 : decode cX11_bundle 5 = .ok (.invokestatic 277, 3) := dk_1184 (dk_g tcX11_bundle_0 5 rfl) (dk_g tcX11_bundle_0 6 rfl) (dk_g tcX11_bundle_0 7 rfl) rfl
theorem dX11_bundle_8 : decode cX11_bundle 8 = .ok (.ifCond .ne 9, 3) := dk_2154 (dk_g tcX11_bundle_0 8 rfl) (dk_g tcX11_bundle_0 9 rfl) (dk_g tcX11_bundle_0 10 rfl) rfl rfl
theorem dX11_bundle_11 : decode cX11_bundle 11 = .ok (.aload_n 0, 1) := dk_1042 (dk_g tcX11_bundle_0 11 rfl)
theorem tcX11_bundle_1 : (cX11_bundle.data.toList.drop 12).take 12 = [4, 182, 0, 98, 172, 42, 180, 0, 16, 27, 182, 0] := by decide +kernel
theorem dX11_bundle_12 : decode cX11_bundle 12 = .ok (.iconst 1, 1) := dk_1004 (dk_g tcX11_bundle_1 0 rfl)
theorem dX11_bundle_13 : decode cX11_bundle 13 = .ok (.invokevirtual 98, 3) := dk_1182 (dk_g tcX11_bundle_1 1 rfl) (dk_g tcX11_bundle_1 2 rfl) (dk_g tcX11_bundle_1 3 rfl) rfl
theorem dX11_bundle_16 : decode cX11_bundle 16 = .ok (.ireturn, 1) := dk_1172 (dk_g tcX11_bundle_1 4 rfl)
theorem dX11_bundle_17 : decode cX11_bundle 17 = .ok (.aload_n 0, 1) := dk_1042 (dk_g tcX11_bundle_1 5 rfl)
theorem dX11_bundle_18 : decode cX11_bundle 18 = .ok (.getfield 16, 3) := dk_1180 (dk_g tcX11_bundle_1 6 rfl) (dk_g tcX11_bundle_1 7 rfl) (dk_g tcX11_bundle_1 8 rfl) rfl
theorem dX11_bundle_21 : decode cX11_bundle 21 = .ok (.iload_n 1, 1) := dk_1027 (dk_g tcX11_bundle_1 9 rfl)
theorem tcX11_bundle_2 : (cX11_bundle.data.toList.drop 24).take 12 = [163, 58, 4, 25, 4, 199, 0, 9, 42, 5, 182, 0] := by decide +kernel
theorem dX11_bundle_22 : decode cX11_bundle 22 = .ok (.invokevirtual 163, 3) := dk_1182 (dk_g tcX11_bundle_1 10 rfl) (dk_g tcX11_bundle_1 11 rfl) (dk_g tcX11_bundle_2 0 rfl) rfl
theorem dX11_bundle_25 : decode cX11_bundle 25 = .ok (.astore 4, 2) := dk_1058 (dk_g tcX11_bundle_2 1 rfl) (dk_g tcX11_bundle_2 2 rfl) rfl
theorem dX11_bundle_27 : decode cX11_bundle 27 = .ok (.aload 4, 2) := dk_1025 (dk_g tcX11_bundle_2 3 rfl) (dk_g tcX11_bundle_2 4 rfl) rfl
theorem dX11_bundle_29 : decode cX11_bundle 29 = .ok (.ifnonnull 9, 3) := dk_2199 (dk_g tcX11_bundle_2 5 rfl) (dk_g tcX11_bundle_2 6 rfl) (dk_g tcX11_bundle_2 7 rfl) rfl rfl
theorem dX11_bundle_32 : decode cX11_bundle 32 = .ok (.aload_n 0, 1) := dk_1042 (dk_g tcX11_bundle_2 8 rfl)
theorem dX11_bundle_33 : decode cX11_bundle 33 = .ok (.iconst 2, 1) := dk_1005 (dk_g tcX11_bundle_2 9 rfl)
theorem tcX11_bundle_3 : (cX11_bundle.data.toList.drop 36).take 12 = [98, 172, 29, 25, 4, 180, 0, 167, 163, 0, 11, 28] := by decide +kernel
theorem dX11_bundle_34 : decode cX11_bundle 34 = .ok (.invokevirtual 98, 3) := dk_1182 (dk_g tcX11_bundle_2 10 rfl) (dk_g tcX11_bundle_2 11 rfl) (dk_g tcX11_bundle_3 0 rfl) rfl
theorem dX11_bundle_37 : decode cX11_bundle 37 = .ok (.ireturn, 1) := dk_1172 (dk_g tcX11_bundle_3 1 rfl)
theorem dX11_bundle_38 : decode cX11_bundle 38 = .ok (.iload_n 3, 1) := dk_1029 (dk_g tcX11_bundle_3 2 rfl)
theorem dX11_bundle_39 : decode cX11_bundle 39 = .ok (.aload 4, 2) := dk_1025 (dk_g tcX11_bundle_3 3 rfl) (dk_g tcX11_bundle_3 4 rfl) rfl
theorem dX11_bundle_41 : decode cX11_bundle 41 = .ok (.getfield 167, 3) := dk_1180 (dk_g tcX11_bundle_3 5 rfl) (dk_g tcX11_bundle_3 6 rfl) (dk_g tcX11_bundle_3 7 rfl) rfl
theorem dX11_bundle_44 : decode cX11_bundle 44 = .ok (.if_icmp .gt 11, 3) := dk_2163 (dk_g tcX11_bundle_3 8 rfl) (dk_g tcX11_bundle_3 9 rfl) (dk_g tcX11_bundle_3 10 rfl) rfl rfl
theorem dX11_bundle_47 : decode cX11_bundle 47 = .ok (.iload_n 2, 1) := dk_1028 (dk_g tcX11_bundle_3 11 rfl)
theorem tcX11_bundle_4 : (cX11_bundle.data.toList.drop 48).take 12 = [29, 184, 1, 24, 154, 0, 9, 42, 8, 182, 0, 98] := by decide +kernel
theorem dX11_bundle_48 : decode cX11_bundle 48 = .ok (.iload_n 3, 1) := dk_1029 (dk_g tcX11_bundle_4 0 rfl)
theorem dX11_bundle_49 : decode cX11_bundle 49 = .ok (.invokestatic 280, 3) := dk_1184 (dk_g tcX11_bundle_4 1 rfl) (dk_g tcX11_bundle_4 2 rfl) (dk_g tcX11_bundle_4 3 rfl) rfl
theorem dX11_bundle_52 : decode cX11_bundle 52 = .ok (.ifCond .ne 9, 3) := dk_2154 (dk_g tcX11_bundle_4 4 rfl) (dk_g tcX11_bundle_4 5 rfl) (dk_g tcX11_bundle_4 6 rfl) rfl rfl
theorem dX11_bundle_55 : decode cX11_bundle 55 = .ok (.aload_n 0, 1) := dk_1042 (dk_g tcX11_bundle_4 7 rfl)
theorem dX11_bundle_56 : decode cX11_bundle 56 = .ok (.iconst 5, 1) := dk_1008 (dk_g tcX11_bundle_4 8 rfl)
theorem dX11_bundle_57 : decode cX11_bundle 57 = .ok (.invokevirtual 98, 3) := dk_1182 (dk_g tcX11_bundle_4 9 rfl) (dk_g tcX11_bundle_4 10 rfl) (dk_g tcX11_bundle_4 11 rfl) rfl
theorem tcX11_bundle_5 : (cX11_bundle.data.toList.drop 60).take 12 = [172, 42, 180, 0, 62, 28, 29, 182, 1, 28, 42, 180] := by decide +kernel
theorem dX11_bundle_60 : decode cX11_bundle 60 = .ok (.ireturn, 1) := dk_1172 (dk_g tcX11_bundle_5 0 rfl)
theorem dX11_bundle_61 : decode cX11_bundle 61 = .ok (.aload_n 0, 1) := dk_1042 (dk_g tcX11_bundle_5 1 rfl)
theorem dX11_bundle_62 : decode cX11_bundle 62 = .ok (.getfield 62, 3) := dk_1180 (dk_g tcX11_bundle_5 2 rfl) (dk_g tcX11_bundle_5 3 rfl) (dk_g tcX11_bundle_5 4 rfl) rfl
theorem dX11_bundle_65 : decode cX11_bundle 65 = .ok (.iload_n 2, 1) := dk_1028 (dk_g tcX11_bundle_5 5 rfl)
theorem dX11_bundle_66 : decode cX11_bundle 66 = .ok (.iload_n 3, 1) := dk_1029 (dk_g tcX11_bundle_5 6 rfl)
theorem dX11_bundle_67 : decode cX11_bundle 67 = .ok (.invokevirtual 284, 3) := dk_1182 (dk_g tcX11_bundle_5 7 rfl) (dk_g tcX11_bundle_5 8 rfl) (dk_g tcX11_bundle_5 9 rfl) rfl
theorem dX11_bundle_70 : decode cX11_bundle 70 = .ok (.aload_n 0, 1) := dk_1042 (dk_g tcX11_bundle_5 10 rfl)
theorem tcX11_bundle_6 : (cX11_bundle.data.toList.drop 72).take 12 = [0, 16, 42, 180, 0, 62, 25, 4, 42, 180, 0, 26] := by decide +kernel
theorem dX11_bundle_71 : decode cX11_bundle 71 = .ok (.getfield 16, 3) := dk_1180 (dk_g tcX11_bundle_5 11 rfl) (dk_g tcX11_bundle_6 0 rfl) (dk_g tcX11_bundle_6 1 rfl) rfl
theorem dX11_bundle_74 : decode cX11_bundle 74 = .ok (.aload_n 0, 1) := dk_1042 (dk_g tcX11_bundle_6 2 rfl)
theorem dX11_bundle_75 : decode cX11_bundle 75 = .ok (.getfield 62, 3) := dk_1180 (dk_g tcX11_bundle_6 3 rfl) (dk_g tcX11_bundle_6 4 rfl) (dk_g tcX11_bundle_6 5 rfl) rfl
theorem dX11_bundle_78 : decode cX11_bundle 78 = .ok (.aload 4, 2) := dk_1025 (dk_g tcX11_bundle_6 6 rfl) (dk_g tcX11_bundle_6 7 rfl) rfl
theorem dX11_bundle_80 : decode cX11_bundle 80 = .ok (.aload_n 0, 1) := dk_1042 (dk_g tcX11_bundle_6 8 rfl)
theorem dX11_bundle_81 : decode cX11_bundle 81 = .ok (.getfield 26, 3) := dk_1180 (dk_g tcX11_bundle_6 9 rfl) (dk_g tcX11_bundle_6 10 rfl) (dk_g tcX11_bundle_6 11 rfl) rfl
theorem tcX11_bundle_7 : (cX11_bundle.data.toList.drop 84).take 12 = [182, 1, 14, 42, 42, 180, 0, 26, 180, 0, 132, 182] := by decide +kernel
theorem dX11_bundle_84 : decode cX11_bundle 84 = .ok (.invokevirtual 270, 3) := dk_1182 (dk_g tcX11_bundle_7 0 rfl) (dk_g tcX11_bundle_7 1 rfl) (dk_g tcX11_bundle_7 2 rfl) rfl
theorem dX11_bundle_87 : decode cX11_bundle 87 = .ok (.aload_n 0, 1) := dk_1042 (dk_g tcX11_bundle_7 3 rfl)
theorem dX11_bundle_88 : decode cX11_bundle 88 = .ok (.aload_n 0, 1) := dk_1042 (dk_g tcX11_bundle_7 4 rfl)
theorem dX11_bundle_89 : decode cX11_bundle 89 = .ok (.getfield 26, 3) := dk_1180 (dk_g tcX11_bundle_7 5 rfl) (dk_g tcX11_bundle_7 6 rfl) (dk_g tcX11_bundle_7 7 rfl) rfl
theorem dX11_bundle_92 : decode cX11_bundle 92 = .ok (.getfield 132, 3) := dk_1180 (dk_g tcX11_bundle_7 8 rfl) (dk_g tcX11_bundle_7 9 rfl) (dk_g tcX11_bundle_7 10 rfl) rfl
theorem tcX11_bundle_8 : (cX11_bundle.data.toList.drop 96).take 12 = [0, 115, 172] := by decide +kernel
theorem dX11_bundle_95 : decode cX11_bundle 95 = .ok (.invokevirtual 115, 3) := dk_1182 (dk_g tcX11_bundle_7 11 rfl) (dk_g tcX11_bundle_8 0 rfl) (dk_g tcX11_bundle_8 1 rfl) rfl
theorem dX11_bundle_98 : decode cX11_bundle 98 = .ok (.ireturn, 1) := dk_1172 (dk_g tcX11_bundle_8 2 rfl)
theorem tcX11_peaks_0 : (cX11_peaks.data.toList.drop 0).take 12 = [42, 180, 0, 16, 27, 182, 0, 163, 78, 45, 3, 28] := by decide +kernel
theorem dX11_peaks_0 : decode cX11_peaks 0 = .ok (.aload_n 0, 1) := dk_1042 (dk_g tcX11_peaks_0 0 rfl)
theorem dX11_peaks_1 : decode cX11_peaks 1 = .ok (.getfield 16, 3) := dk_1180 (dk_g tcX11_peaks_0 1 rfl) (dk_g tcX11_peaks_0 2 rfl) (dk_g tcX11_peaks_0 3 rfl) rfl
theorem dX11_peaks_4 : decode cX11_peaks 4 = .ok (.iload_n 1, 1) := dk_1027 (dk_g tcX11_peaks_0 4 rfl)
theorem dX11_peaks_5 : decode cX11_peaks 5 = .ok (.invokevirtual 163, 3) := dk_1182 (dk_g tcX11_peaks_0 5 rfl) (dk_g tcX11_peaks_0 6 rfl) (dk_g tcX11_peaks_0 7 rfl) rfl
theorem dX11_peaks_8 : decode cX11_peaks 8 = .ok (.astore_n 3, 1) := dk_1078 (dk_g tcX11_peaks_0 8 rfl)
theorem dX11_peaks_9 : decode cX11_peaks 9 = .ok (.aload_n 3, 1) := dk_1045 (dk_g tcX11_peaks_0 9 rfl)
theorem dX11_peaks_10 : decode cX11_peaks 10 = .ok (.iconst 0, 1) := dk_1003 (dk_g tcX11_peaks_0 10 rfl)
theorem dX11_peaks_11 : decode cX11_peaks 11 = .ok (.iload_n 2, 1) := dk_1028 (dk_g tcX11_peaks_0 11 rfl)
theorem tcX11_peaks_1 : (cX11_peaks.data.toList.drop 12).take 12 = [184, 0, 180, 54, 4, 21, 4, 153, 0, 10, 42, 21] := by decide +kernel
theorem dX11_peaks_12 : decode cX11_peaks 12 = .ok (.invokestatic 180, 3) := dk_1184 (dk_g tcX11_peaks_1 0 rfl) (dk_g tcX11_peaks_1 1 rfl) (dk_g tcX11_peaks_1 2 rfl) rfl
theorem dX11_peaks_15 : decode cX11_peaks 15 = .ok (.istore 4, 2) := dk_1054 (dk_g tcX11_peaks_1 3 rfl) (dk_g tcX11_peaks_1 4 rfl) rfl
theorem dX11_peaks_17 : decode cX11_peaks 17 = .ok (.iload 4, 2) := dk_1021 (dk_g tcX11_peaks_1 5 rfl) (dk_g tcX11_peaks_1 6 rfl) rfl
theorem dX11_peaks_19 : decode cX11_peaks 19 = .ok (.ifCond .eq 10, 3) := dk_2153 (dk_g tcX11_peaks_1 7 rfl) (dk_g tcX11_peaks_1 8 rfl) (dk_g tcX11_peaks_1 9 rfl) rfl rfl
theorem dX11_peaks_22 : decode cX11_peaks 22 = .ok (.aload_n 0, 1) := dk_1042 (dk_g tcX11_peaks_1 10 rfl)
theorem tcX11_peaks_2 : (cX11_peaks.data.toList.drop 24).take 12 = [4, 182, 0, 98, 172, 42, 180, 0, 16, 45, 28, 42] := by decide +kernel
theorem dX11_peaks_23 : decode cX11_peaks 23 = .ok (.iload 4, 2) := dk_1021 (dk_g tcX11_peaks_1 11 rfl) (dk_g tcX11_peaks_2 0 rfl) rfl
theorem dX11_peaks_25 : decode cX11_peaks 25 = .ok (.invokevirtual 98, 3) := dk_1182 (dk_g tcX11_peaks_2 1 rfl) (dk_g tcX11_peaks_2 2 rfl) (dk_g tcX11_peaks_2 3 rfl) rfl
theorem dX11_peaks_28 : decode cX11_peaks 28 = .ok (.ireturn, 1) := dk_1172 (dk_g tcX11_peaks_2 4 rfl)
theorem dX11_peaks_29 : decode cX11_peaks 29 = .ok (.aload_n 0, 1) := dk_1042 (dk_g tcX11_peaks_2 5 rfl)
theorem dX11_peaks_30 : decode cX11_peaks 30 = .ok (.getfield 16, 3) := dk_1180 (dk_g tcX11_peaks_2 6 rfl) (dk_g tcX11_peaks_2 7 rfl) (dk_g tcX11_peaks_2 8 rfl) rfl
theorem dX11_peaks_33 : decode cX11_peaks 33 = .ok (.aload_n 3, 1) := dk_1045 (dk_g tcX11_peaks_2 9 rfl)
theorem dX11_peaks_34 : decode cX11_peaks 34 = .ok (.iload_n 2, 1) := dk_1028 (dk_g tcX11_peaks_2 10 rfl)
theorem dX11_peaks_35 : decode cX11_peaks 35 = .ok (.aload_n 0, 1) := dk_1042 (dk_g tcX11_peaks_2 11 rfl)
theorem tcX11_peaks_3 : (cX11_peaks.data.toList.drop 36).take 12 = [180, 0, 26, 182, 1, 31, 42, 42, 180, 0, 26, 180] := by decide +kernel
theorem dX11_peaks_36 : decode cX11_peaks 36 = .ok (.getfield 26, 3) := dk_1180 (dk_g tcX11_peaks_3 0 rfl) (dk_g tcX11_peaks_3 1 rfl) (dk_g tcX11_peaks_3 2 rfl) rfl
theorem dX11_peaks_39 : decode cX11_peaks 39 = .ok (.invokevirtual 287, 3) := dk_1182 (dk_g tcX11_peaks_3 3 rfl) (dk_g tcX11_peaks_3 4 rfl) (dk_g tcX11_peaks_3 5 rfl) rfl
theorem dX11_peaks_42 : decode cX11_peaks 42 = .ok (.aload_n 0, 1) := dk_1042 (dk_g tcX11_peaks_3 6 rfl)
theorem dX11_peaks_43 : decode cX11_peaks 43 = .ok (.aload_n 0, 1) := dk_1042 (dk_g tcX11_peaks_3 7 rfl)
theorem dX11_peaks_44 : decode cX11_peaks 44 = .ok (.getfield 26, 3) := dk_1180 (dk_g tcX11_peaks_3 8 rfl) (dk_g tcX11_peaks_3 9 rfl) (dk_g tcX11_peaks_3 10 rfl) rfl
theorem tcX11_peaks_4 : (cX11_peaks.data.toList.drop 48).take 12 = [0, 132, 182, 0, 115, 172] := by decide +kernel
theorem dX11_peaks_47 : decode cX11_peaks 47 = .ok (.getfield 132, 3) := dk_1180 (dk_g tcX11_peaks_3 11 rfl) (dk_g tcX11_peaks_4 0 rfl) (dk_g tcX11_peaks_4 1 rfl) rfl
theorem dX11_peaks_50 : decode cX11_peaks 50 = .ok (.invokevirtual 115, 3) := dk_1182 (dk_g tcX11_peaks_4 2 rfl) (dk_g tcX11_peaks_4 3 rfl) (dk_g tcX11_peaks_4 4 rfl) rfl
theorem dX11_peaks_53 : decode cX11_peaks 53 = .ok (.ireturn, 1) := dk_1172 (dk_g tcX11_peaks_4 5 rfl)
theorem tcX11_extend_0 : (cX11_extend.data.toList.drop 0).take 12 = [27, 155, 0, 18, 27, 19, 1, 35, 163, 0, 11, 42] := by decide +kernel
theorem dX11_extend_0 : decode cX11_extend 0 = .ok (.iload_n 1, 1) := dk_1027 (dk_g tcX11_extend_0 0 rfl)
theorem dX11_extend_1 : decode cX11_extend 1 = .ok (.ifCond .lt 18, 3) := dk_2155 (dk_g tcX11_extend_0 1 rfl) (dk_g tcX11_extend_0 2 rfl) (dk_g tcX11_extend_0 3 rfl) rfl rfl
theorem dX11_extend_4 : decode cX11_extend 4 = .ok (.iload_n 1, 1) := dk_1027 (dk_g tcX11_extend_0 4 rfl)
theorem dX11_extend_5 : decode cX11_extend 5 = .ok (.ldc_w 291, 3) := dk_1019 (dk_g tcX11_extend_0 5 rfl) (dk_g tcX11_extend_0 6 rfl) (dk_g tcX11_extend_0 7 rfl) rfl
theorem dX11_extend_8 : decode cX11_extend 8 = .ok (.if_icmp .gt 11, 3) := dk_2163 (dk_g tcX11_extend_0 8 rfl) (dk_g tcX11_extend_0 9 rfl) (dk_g tcX11_extend_0 10 rfl) rfl rfl
theorem dX11_extend_11 : decode cX11_extend 11 = .ok (.aload_n 0, 1) := dk_1042 (dk_g tcX11_extend_0 11 rfl)
theorem tcX11_extend_1 : (cX11_extend.data.toList.drop 12).take 12 = [28, 182, 0, 188, 154, 0, 9, 42, 4, 182, 0, 98] := by decide +kernel
theorem dX11_extend_12 : decode cX11_extend 12 = .ok (.iload_n 2, 1) := dk_1028 (dk_g tcX11_extend_1 0 rfl)
theorem dX11_extend_13 : decode cX11_extend 13 = .ok (.invokevirtual 188, 3) := dk_1182 (dk_g tcX11_extend_1 1 rfl) (dk_g tcX11_extend_1 2 rfl) (dk_g tcX11_extend_1 3 rfl) rfl
theorem dX11_extend_16 : decode cX11_extend 16 = .ok (.ifCond .ne 9, 3) := dk_2154 (dk_g tcX11_extend_1 4 rfl) (dk_g tcX11_extend_1 5 rfl) (dk_g tcX11_extend_1 6 rfl) rfl rfl
theorem dX11_extend_19 : decode cX11_extend 19 = .ok (.aload_n 0, 1) := dk_1042 (dk_g tcX11_extend_1 7 rfl)
theorem dX11_extend_20 : decode cX11_extend 20 = .ok (.iconst 1, 1) := dk_1004 (dk_g tcX11_extend_1 8 rfl)
theorem dX11_extend_21 : decode cX11_extend 21 = .ok (.invokevirtual 98, 3) := dk_1182 (dk_g tcX11_extend_1 9 rfl) (dk_g tcX11_extend_1 10 rfl) (dk_g tcX11_extend_1 11 rfl) rfl
theorem tcX11_extend_2 : (cX11_extend.data.toList.drop 24).take 12 = [172, 42, 180, 0, 26, 180, 0, 132, 27, 184, 1, 36] := by decide +kernel
theorem dX11_extend_24 : decode cX11_extend 24 = .ok (.ireturn, 1) := dk_1172 (dk_g tcX11_extend_2 0 rfl)
theorem dX11_extend_25 : decode cX11_extend 25 = .ok (.aload_n 0, 1) := dk_1042 (dk_g tcX11_extend_2 1 rfl)
theorem dX11_extend_26 : decode cX11_extend 26 = .ok (.getfield 26, 3) := dk_1180 (dk_g tcX11_extend_2 2 rfl) (dk_g tcX11_extend_2 3 rfl) (dk_g tcX11_extend_2 4 rfl) rfl
theorem dX11_extend_29 : decode cX11_extend 29 = .ok (.getfield 132, 3) := dk_1180 (dk_g tcX11_extend_2 5 rfl) (dk_g tcX11_extend_2 6 rfl) (dk_g tcX11_extend_2 7 rfl) rfl
theorem dX11_extend_32 : decode cX11_extend 32 = .ok (.iload_n 1, 1) := dk_1027 (dk_g tcX11_extend_2 8 rfl)
theorem dX11_extend_33 : decode cX11_extend 33 = .ok (.invokestatic 292, 3) := dk_1184 (dk_g tcX11_extend_2 9 rfl) (dk_g tcX11_extend_2 10 rfl) (dk_g tcX11_extend_2 11 rfl) rfl
theorem tcX11_extend_3 : (cX11_extend.data.toList.drop 36).take 12 = [159, 0, 9, 42, 8, 182, 0, 98, 172, 42, 180, 0] := by decide +kernel
theorem dX11_extend_36 : decode cX11_extend 36 = .ok (.if_icmp .eq 9, 3) := dk_2159 (dk_g tcX11_extend_3 0 rfl) (dk_g tcX11_extend_3 1 rfl) (dk_g tcX11_extend_3 2 rfl) rfl rfl
theorem dX11_extend_39 : decode cX11_extend 39 = .ok (.aload_n 0, 1) := dk_1042 (dk_g tcX11_extend_3 3 rfl)
theorem dX11_extend_40 : decode cX11_extend 40 = .ok (.iconst 5, 1) := dk_1008 (dk_g tcX11_extend_3 4 rfl)
theorem dX11_extend_41 : decode cX11_extend 41 = .ok (.invokevirtual 98, 3) := dk_1182 (dk_g tcX11_extend_3 5 rfl) (dk_g tcX11_extend_3 6 rfl) (dk_g tcX11_extend_3 7 rfl) rfl
theorem dX11_extend_44 : decode cX11_extend 44 = .ok (.ireturn, 1) := dk_1172 (dk_g tcX11_extend_3 8 rfl)
theorem dX11_extend_45 : decode cX11_extend 45 = .ok (.aload_n 0, 1) := dk_1042 (dk_g tcX11_extend_3 9 rfl)
theorem tcX11_extend_4 : (cX11_extend.data.toList.drop 48).take 12 = [26, 42, 180, 0, 16, 180, 0, 122, 27, 28, 182, 1] := by decide +kernel
theorem dX11_extend_46 : decode cX11_extend 46 = .ok (.getfield 26, 3) := dk_1180 (dk_g tcX11_extend_3 10 rfl) (dk_g tcX11_extend_3 11 rfl) (dk_g tcX11_extend_4 0 rfl) rfl
theorem dX11_extend_49 : decode cX11_extend 49 = .ok (.aload_n 0, 1) := dk_1042 (dk_g tcX11_extend_4 1 rfl)
theorem dX11_extend_50 : decode cX11_extend 50 = .ok (.getfield 16, 3) := dk_1180 (dk_g tcX11_extend_4 2 rfl) (dk_g tcX11_extend_4 3 rfl) (dk_g tcX11_extend_4 4 rfl) rfl
theorem dX11_extend_53 : decode cX11_extend 53 = .ok (.getfield 122, 3) := dk_1180 (dk_g tcX11_extend_4 5 rfl) (dk_g tcX11_extend_4 6 rfl) (dk_g tcX11_extend_4 7 rfl) rfl
theorem dX11_extend_56 : decode cX11_extend 56 = .ok (.iload_n 1, 1) := dk_1027 (dk_g tcX11_extend_4 8 rfl)
theorem dX11_extend_57 : decode cX11_extend 57 = .ok (.iload_n 2, 1) := dk_1028 (dk_g tcX11_extend_4 9 rfl)
theorem tcX11_extend_5 : (cX11_extend.data.toList.drop 60).take 12 = [41, 42, 42, 180, 0, 26, 180, 0, 132, 182, 0, 115] := by decide +kernel
theorem dX11_extend_58 : decode cX11_extend 58 = .ok (.invokevirtual 297, 3) := dk_1182 (dk_g tcX11_extend_4 10 rfl) (dk_g tcX11_extend_4 11 rfl) (dk_g tcX11_extend_5 0 rfl) rfl
theorem dX11_extend_61 : decode cX11_extend 61 = .ok (.aload_n 0, 1) := dk_1042 (dk_g tcX11_extend_5 1 rfl)
theorem dX11_extend_62 : decode cX11_extend 62 = .ok (.aload_n 0, 1) := dk_1042 (dk_g tcX11_extend_5 2 rfl)
theorem dX11_extend_63 : decode cX11_extend 63 = .ok (.getfield 26, 3) := dk_1180 (dk_g tcX11_extend_5 3 rfl) (dk_g tcX11_extend_5 4 rfl) (dk_g tcX11_extend_5 5 rfl) rfl
theorem dX11_extend_66 : decode cX11_extend 66 = .ok (.getfield 132, 3) := dk_1180 (dk_g tcX11_extend_5 6 rfl) (dk_g tcX11_extend_5 7 rfl) (dk_g tcX11_extend_5 8 rfl) rfl
theorem dX11_extend_69 : decode cX11_extend 69 = .ok (.invokevirtual 115, 3) := dk_1182 (dk_g tcX11_extend_5 9 rfl) (dk_g tcX11_extend_5 10 rfl) (dk_g tcX11_extend_5 11 rfl) rfl
theorem tcX11_extend_6 : (cX11_extend.data.toList.drop 72).take 12 = [172] := by decide +kernel
theorem dX11_extend_72 : decode cX11_extend 72 = .ok (.ireturn, 1) := dk_1172 (dk_g tcX11_extend_6 0 rfl)
theorem tcX11_checks_0 : (cX11_checks.data.toList.drop 0).take 12 = [28, 29, 184, 1, 45, 153, 0, 20, 42, 27, 182, 0] := by decide +kernel
theorem dX11_checks_0 : decode cX11_checks 0 = .ok (.iload_n 2, 1) := dk_1028 (dk_g tcX11_checks_0 0 rfl)
theorem dX11_checks_1 : decode cX11_checks 1 = .ok (.iload_n 3, 1) := dk_1029 (dk_g tcX11_checks_0 1 rfl)
theorem dX11_checks_2 : decode cX11_checks 2 = .ok (.invokestatic 301, 3) := dk_1184 (dk_g tcX11_checks_0 2 rfl) (dk_g tcX11_checks_0 3 rfl) (dk_g tcX11_checks_0 4 rfl) rfl
theorem dX11_checks_5 : decode cX11_checks 5 = .ok (.ifCond .eq 20, 3) := dk_2153 (dk_g tcX11_checks_0 5 rfl) (dk_g tcX11_checks_0 6 rfl) (dk_g tcX11_checks_0 7 rfl) rfl rfl
theorem dX11_checks_8 : decode cX11_checks 8 = .ok (.aload_n 0, 1) := dk_1042 (dk_g tcX11_checks_0 8 rfl)
theorem dX11_checks_9 : decode cX11_checks 9 = .ok (.iload_n 1, 1) := dk_1027 (dk_g tcX11_checks_0 9 rfl)
theorem tcX11_checks_1 : (cX11_checks.data.toList.drop 12).take 12 = [188, 153, 0, 12, 42, 21, 4, 182, 0, 188, 154, 0] := by decide +kernel
theorem dX11_checks_10 : decode cX11_checks 10 = .ok (.invokevirtual 188, 3) := dk_1182 (dk_g tcX11_checks_0 10 rfl) (dk_g tcX11_checks_0 11 rfl) (dk_g tcX11_checks_1 0 rfl) rfl
theorem dX11_checks_13 : decode cX11_checks 13 = .ok (.ifCond .eq 12, 3) := dk_2153 (dk_g tcX11_checks_1 1 rfl) (dk_g tcX11_checks_1 2 rfl) (dk_g tcX11_checks_1 3 rfl) rfl rfl
theorem dX11_checks_16 : decode cX11_checks 16 = .ok (.aload_n 0, 1) := dk_1042 (dk_g tcX11_checks_1 4 rfl)
theorem dX11_checks_17 : decode cX11_checks 17 = .ok (.iload 4, 2) := dk_1021 (dk_g tcX11_checks_1 5 rfl) (dk_g tcX11_checks_1 6 rfl) rfl
theorem dX11_checks_19 : decode cX11_checks 19 = .ok (.invokevirtual 188, 3) := dk_1182 (dk_g tcX11_checks_1 7 rfl) (dk_g tcX11_checks_1 8 rfl) (dk_g tcX11_checks_1 9 rfl) rfl
theorem tcX11_checks_2 : (cX11_checks.data.toList.drop 24).take 12 = [9, 42, 4, 182, 0, 98, 172, 42, 180, 0, 62, 28] := by decide +kernel
theorem dX11_checks_22 : decode cX11_checks 22 = .ok (.ifCond .ne 9, 3) := dk_2154 (dk_g tcX11_checks_1 10 rfl) (dk_g tcX11_checks_1 11 rfl) (dk_g tcX11_checks_2 0 rfl) rfl rfl
theorem dX11_checks_25 : decode cX11_checks 25 = .ok (.aload_n 0, 1) := dk_1042 (dk_g tcX11_checks_2 1 rfl)
theorem dX11_checks_26 : decode cX11_checks 26 = .ok (.iconst 1, 1) := dk_1004 (dk_g tcX11_checks_2 2 rfl)
theorem dX11_checks_27 : decode cX11_checks 27 = .ok (.invokevirtual 98, 3) := dk_1182 (dk_g tcX11_checks_2 3 rfl) (dk_g tcX11_checks_2 4 rfl) (dk_g tcX11_checks_2 5 rfl) rfl
theorem dX11_checks_30 : decode cX11_checks 30 = .ok (.ireturn, 1) := dk_1172 (dk_g tcX11_checks_2 6 rfl)
theorem dX11_checks_31 : decode cX11_checks 31 = .ok (.aload_n 0, 1) := dk_1042 (dk_g tcX11_checks_2 7 rfl)
theorem dX11_checks_32 : decode cX11_checks 32 = .ok (.getfield 62, 3) := dk_1180 (dk_g tcX11_checks_2 8 rfl) (dk_g tcX11_checks_2 9 rfl) (dk_g tcX11_checks_2 10 rfl) rfl
theorem dX11_checks_35 : decode cX11_checks 35 = .ok (.iload_n 2, 1) := dk_1028 (dk_g tcX11_checks_2 11 rfl)
theorem tcX11_checks_3 : (cX11_checks.data.toList.drop 36).take 12 = [29, 182, 1, 11, 42, 42, 180, 0, 62, 42, 180, 0] := by decide +kernel
theorem dX11_checks_36 : decode cX11_checks 36 = .ok (.iload_n 3, 1) := dk_1029 (dk_g tcX11_checks_3 0 rfl)
theorem dX11_checks_37 : decode cX11_checks 37 = .ok (.invokevirtual 267, 3) := dk_1182 (dk_g tcX11_checks_3 1 rfl) (dk_g tcX11_checks_3 2 rfl) (dk_g tcX11_checks_3 3 rfl) rfl
theorem dX11_checks_40 : decode cX11_checks 40 = .ok (.aload_n 0, 1) := dk_1042 (dk_g tcX11_checks_3 4 rfl)
theorem dX11_checks_41 : decode cX11_checks 41 = .ok (.aload_n 0, 1) := dk_1042 (dk_g tcX11_checks_3 5 rfl)
theorem dX11_checks_42 : decode cX11_checks 42 = .ok (.getfield 62, 3) := dk_1180 (dk_g tcX11_checks_3 6 rfl) (dk_g tcX11_checks_3 7 rfl) (dk_g tcX11_checks_3 8 rfl) rfl
theorem dX11_checks_45 : decode cX11_checks 45 = .ok (.aload_n 0, 1) := dk_1042 (dk_g tcX11_checks_3 9 rfl)
theorem tcX11_checks_4 : (cX11_checks.data.toList.drop 48).take 12 = [16, 180, 0, 122, 42, 180, 0, 26, 27, 21, 4, 182] := by decide +kernel
theorem dX11_checks_46 : decode cX11_checks 46 = .ok (.getfield 16, 3) := dk_1180 (dk_g tcX11_checks_3 10 rfl) (dk_g tcX11_checks_3 11 rfl) (dk_g tcX11_checks_4 0 rfl) rfl
theorem dX11_checks_49 : decode cX11_checks 49 = .ok (.getfield 122, 3) := dk_1180 (dk_g tcX11_checks_4 1 rfl) (dk_g tcX11_checks_4 2 rfl) (dk_g tcX11_checks_4 3 rfl) rfl
theorem dX11_checks_52 : decode cX11_checks 52 = .ok (.aload_n 0, 1) := dk_1042 (dk_g tcX11_checks_4 4 rfl)
theorem dX11_checks_53 : decode cX11_checks 53 = .ok (.getfield 26, 3) := dk_1180 (dk_g tcX11_checks_4 5 rfl) (dk_g tcX11_checks_4 6 rfl) (dk_g tcX11_checks_4 7 rfl) rfl
theorem dX11_checks_56 : decode cX11_checks 56 = .ok (.iload_n 1, 1) := dk_1027 (dk_g tcX11_checks_4 8 rfl)
theorem dX11_checks_57 : decode cX11_checks 57 = .ok (.iload 4, 2) := dk_1021 (dk_g tcX11_checks_4 9 rfl) (dk_g tcX11_checks_4 10 rfl) rfl
theorem tcX11_checks_5 : (cX11_checks.data.toList.drop 60).take 12 = [1, 48, 182, 0, 115, 172] := by decide +kernel
theorem dX11_checks_59 : decode cX11_checks 59 = .ok (.invokevirtual 304, 3) := dk_1182 (dk_g tcX11_checks_4 11 rfl) (dk_g tcX11_checks_5 0 rfl) (dk_g tcX11_checks_5 1 rfl) rfl
theorem dX11_checks_62 : decode cX11_checks 62 = .ok (.invokevirtual 115, 3) := dk_1182 (dk_g tcX11_checks_5 2 rfl) (dk_g tcX11_checks_5 3 rfl) (dk_g tcX11_checks_5 4 rfl) rfl
theorem dX11_checks_65 : decode cX11_checks 65 = .ok (.ireturn, 1) := dk_1172 (dk_g tcX11_checks_5 5 rfl)
theorem tcX11_growth_0 : (cX11_growth.data.toList.drop 0).take 12 = [27, 155, 0, 25, 27, 29, 163, 0, 20, 42, 28, 182] := by decide +kernel
theorem dX11_growth_0 : decode cX11_growth 0 = .ok (.iload_n 1, 1) := dk_1027 (dk_g tcX11_growth_0 0 rfl)
theorem dX11_growth_1 : decode cX11_growth 1 = .ok (.ifCond .lt 25, 3) := dk_2155 (dk_g tcX11_growth_0 1 rfl) (dk_g tcX11_growth_0 2 rfl) (dk_g tcX11_growth_0 3 rfl) rfl rfl
theorem dX11_growth_4 : decode cX11_growth 4 = .ok (.iload_n 1, 1) := dk_1027 (dk_g tcX11_growth_0 4 rfl)
theorem dX11_growth_5 : decode cX11_growth 5 = .ok (.iload_n 3, 1) := dk_1029 (dk_g tcX11_growth_0 5 rfl)
theorem dX11_growth_6 : decode cX11_growth 6 = .ok (.if_icmp .gt 20, 3) := dk_2163 (dk_g tcX11_growth_0 6 rfl) (dk_g tcX11_growth_0 7 rfl) (dk_g tcX11_growth_0 8 rfl) rfl rfl
theorem dX11_growth_9 : decode cX11_growth 9 = .ok (.aload_n 0, 1) := dk_1042 (dk_g tcX11_growth_0 9 rfl)
theorem dX11_growth_10 : decode cX11_growth 10 = .ok (.iload_n 2, 1) := dk_1028 (dk_g tcX11_growth_0 10 rfl)
theorem tcX11_growth_1 : (cX11_growth.data.toList.drop 12).take 12 = [0, 188, 153, 0, 12, 42, 21, 4, 182, 0, 188, 154] := by decide +kernel
theorem dX11_growth_11 : decode cX11_growth 11 = .ok (.invokevirtual 188, 3) := dk_1182 (dk_g tcX11_growth_0 11 rfl) (dk_g tcX11_growth_1 0 rfl) (dk_g tcX11_growth_1 1 rfl) rfl
theorem dX11_growth_14 : decode cX11_growth 14 = .ok (.ifCond .eq 12, 3) := dk_2153 (dk_g tcX11_growth_1 2 rfl) (dk_g tcX11_growth_1 3 rfl) (dk_g tcX11_growth_1 4 rfl) rfl rfl
theorem dX11_growth_17 : decode cX11_growth 17 = .ok (.aload_n 0, 1) := dk_1042 (dk_g tcX11_growth_1 5 rfl)
theorem dX11_growth_18 : decode cX11_growth 18 = .ok (.iload 4, 2) := dk_1021 (dk_g tcX11_growth_1 6 rfl) (dk_g tcX11_growth_1 7 rfl) rfl
theorem dX11_growth_20 : decode cX11_growth 20 = .ok (.invokevirtual 188, 3) := dk_1182 (dk_g tcX11_growth_1 8 rfl) (dk_g tcX11_growth_1 9 rfl) (dk_g tcX11_growth_1 10 rfl) rfl
theorem tcX11_growth_2 : (cX11_growth.data.toList.drop 24).take 12 = [0, 9, 42, 4, 182, 0, 98, 172, 42, 42, 180, 0] := by decide +kernel
theorem dX11_growth_23 : decode cX11_growth 23 = .ok (.ifCond .ne 9, 3) := dk_2154 (dk_g tcX11_growth_1 11 rfl) (dk_g tcX11_growth_2 0 rfl) (dk_g tcX11_growth_2 1 rfl) rfl rfl
theorem dX11_growth_26 : decode cX11_growth 26 = .ok (.aload_n 0, 1) := dk_1042 (dk_g tcX11_growth_2 2 rfl)
theorem dX11_growth_27 : decode cX11_growth 27 = .ok (.iconst 1, 1) := dk_1004 (dk_g tcX11_growth_2 3 rfl)
theorem dX11_growth_28 : decode cX11_growth 28 = .ok (.invokevirtual 98, 3) := dk_1182 (dk_g tcX11_growth_2 4 rfl) (dk_g tcX11_growth_2 5 rfl) (dk_g tcX11_growth_2 6 rfl) rfl
theorem dX11_growth_31 : decode cX11_growth 31 = .ok (.ireturn, 1) := dk_1172 (dk_g tcX11_growth_2 7 rfl)
theorem dX11_growth_32 : decode cX11_growth 32 = .ok (.aload_n 0, 1) := dk_1042 (dk_g tcX11_growth_2 8 rfl)
theorem dX11_growth_33 : decode cX11_growth 33 = .ok (.aload_n 0, 1) := dk_1042 (dk_g tcX11_growth_2 9 rfl)
theorem tcX11_growth_3 : (cX11_growth.data.toList.drop 36).take 12 = [62, 42, 180, 0, 16, 180, 0, 122, 42, 180, 0, 26] := by decide +kernel
theorem dX11_growth_34 : decode cX11_growth 34 = .ok (.getfield 62, 3) := dk_1180 (dk_g tcX11_growth_2 10 rfl) (dk_g tcX11_growth_2 11 rfl) (dk_g tcX11_growth_3 0 rfl) rfl
theorem dX11_growth_37 : decode cX11_growth 37 = .ok (.aload_n 0, 1) := dk_1042 (dk_g tcX11_growth_3 1 rfl)
theorem dX11_growth_38 : decode cX11_growth 38 = .ok (.getfield 16, 3) := dk_1180 (dk_g tcX11_growth_3 2 rfl) (dk_g tcX11_growth_3 3 rfl) (dk_g tcX11_growth_3 4 rfl) rfl
theorem dX11_growth_41 : decode cX11_growth 41 = .ok (.getfield 122, 3) := dk_1180 (dk_g tcX11_growth_3 5 rfl) (dk_g tcX11_growth_3 6 rfl) (dk_g tcX11_growth_3 7 rfl) rfl
theorem dX11_growth_44 : decode cX11_growth 44 = .ok (.aload_n 0, 1) := dk_1042 (dk_g tcX11_growth_3 8 rfl)
theorem dX11_growth_45 : decode cX11_growth 45 = .ok (.getfield 26, 3) := dk_1180 (dk_g tcX11_growth_3 9 rfl) (dk_g tcX11_growth_3 10 rfl) (dk_g tcX11_growth_3 11 rfl) rfl
theorem tcX11_growth_4 : (cX11_growth.data.toList.drop 48).take 12 = [27, 28, 29, 21, 4, 182, 1, 52, 182, 0, 115, 172] := by decide +kernel
theorem dX11_growth_48 : decode cX11_growth 48 = .ok (.iload_n 1, 1) := dk_1027 (dk_g tcX11_growth_4 0 rfl)
theorem dX11_growth_49 : decode cX11_growth 49 = .ok (.iload_n 2, 1) := dk_1028 (dk_g tcX11_growth_4 1 rfl)
theorem dX11_growth_50 : decode cX11_growth 50 = .ok (.iload_n 3, 1) := dk_1029 (dk_g tcX11_growth_4 2 rfl)
theorem dX11_growth_51 : decode cX11_growth 51 = .ok (.iload 4, 2) := dk_1021 (dk_g tcX11_growth_4 3 rfl) (dk_g tcX11_growth_4 4 rfl) rfl
theorem dX11_growth_53 : decode cX11_growth 53 = .ok (.invokevirtual 308, 3) := dk_1182 (dk_g tcX11_growth_4 5 rfl) (dk_g tcX11_growth_4 6 rfl) (dk_g tcX11_growth_4 7 rfl) rfl
theorem dX11_growth_56 : decode cX11_growth 56 = .ok (.invokevirtual 115, 3) := dk_1182 (dk_g tcX11_growth_4 8 rfl) (dk_g tcX11_growth_4 9 rfl) (dk_g tcX11_growth_4 10 rfl) rfl
theorem dX11_growth_59 : decode cX11_growth 59 = .ok (.ireturn, 1) := dk_1172 (dk_g tcX11_growth_4 11 rfl)
theorem tcX11_bundled_0 : (cX11_bundled.data.toList.drop 0).take 12 = [27, 184, 1, 21, 153, 0, 19, 27, 28, 184, 1, 24] := by decide +kernel
theorem dX11_bundled_0 : decode cX11_bundled 0 = .ok (.iload_n 1, 1) := dk_1027 (dk_g tcX11_bundled_0 0 rfl)
theorem dX11_bundled_1 : decode cX11_bundled 1 = .ok (.invokestatic 277, 3) := dk_1184 (dk_g tcX11_bundled_0 1 rfl) (dk_g tcX11_bundled_0 2 rfl) (dk_g tcX11_bundled_0 3 rfl) rfl
theorem dX11_bundled_4 : decode cX11_bundled 4 = .ok (.ifCond .eq 19, 3) := dk_2153 (dk_g tcX11_bundled_0 4 rfl) (dk_g tcX11_bundled_0 5 rfl) (dk_g tcX11_bundled_0 6 rfl) rfl rfl
theorem dX11_bundled_7 : decode cX11_bundled 7 = .ok (.iload_n 1, 1) := dk_1027 (dk_g tcX11_bundled_0 7 rfl)
theorem dX11_bundled_8 : decode cX11_bundled 8 = .ok (.iload_n 2, 1) := dk_1028 (dk_g tcX11_bundled_0 8 rfl)
theorem dX11_bundled_9 : decode cX11_bundled 9 = .ok (.invokestatic 280, 3) := dk_1184 (dk_g tcX11_bundled_0 9 rfl) (dk_g tcX11_bundled_0 10 rfl) (dk_g tcX11_bundled_0 11 rfl) rfl
theorem tcX11_bundled_1 : (cX11_bundled.data.toList.drop 12).take 12 = [153, 0, 11, 42, 29, 182, 0, 188, 154, 0, 9, 42] := by decide +kernel
theorem dX11_bundled_12 : decode cX11_bundled 12 = .ok (.ifCond .eq 11, 3) := dk_2153 (dk_g tcX11_bundled_1 0 rfl) (dk_g tcX11_bundled_1 1 rfl) (dk_g tcX11_bundled_1 2 rfl) rfl rfl
theorem dX11_bundled_15 : decode cX11_bundled 15 = .ok (.aload_n 0, 1) := dk_1042 (dk_g tcX11_bundled_1 3 rfl)
theorem dX11_bundled_16 : decode cX11_bundled 16 = .ok (.iload_n 3, 1) := dk_1029 (dk_g tcX11_bundled_1 4 rfl)
theorem dX11_bundled_17 : decode cX11_bundled 17 = .ok (.invokevirtual 188, 3) := dk_1182 (dk_g tcX11_bundled_1 5 rfl) (dk_g tcX11_bundled_1 6 rfl) (dk_g tcX11_bundled_1 7 rfl) rfl
theorem dX11_bundled_20 : decode cX11_bundled 20 = .ok (.ifCond .ne 9, 3) := dk_2154 (dk_g tcX11_bundled_1 8 rfl) (dk_g tcX11_bundled_1 9 rfl) (dk_g tcX11_bundled_1 10 rfl) rfl rfl
theorem dX11_bundled_23 : decode cX11_bundled 23 = .ok (.aload_n 0, 1) := dk_1042 (dk_g tcX11_bundled_1 11 rfl)
theorem tcX11_bundled_2 : (cX11_bundled.data.toList.drop 24).take 12 = [4, 182, 0, 98, 172, 42, 180, 0, 62, 27, 28, 182] := by decide +kernel
theorem dX11_bundled_24 : decode cX11_bundled 24 = .ok (.iconst 1, 1) := dk_1004 (dk_g tcX11_bundled_2 0 rfl)
theorem dX11_bundled_25 : decode cX11_bundled 25 = .ok (.invokevirtual 98, 3) := dk_1182 (dk_g tcX11_bundled_2 1 rfl) (dk_g tcX11_bundled_2 2 rfl) (dk_g tcX11_bundled_2 3 rfl) rfl
theorem dX11_bundled_28 : decode cX11_bundled 28 = .ok (.ireturn, 1) := dk_1172 (dk_g tcX11_bundled_2 4 rfl)
theorem dX11_bundled_29 : decode cX11_bundled 29 = .ok (.aload_n 0, 1) := dk_1042 (dk_g tcX11_bundled_2 5 rfl)
theorem dX11_bundled_30 : decode cX11_bundled 30 = .ok (.getfield 62, 3) := dk_1180 (dk_g tcX11_bundled_2 6 rfl) (dk_g tcX11_bundled_2 7 rfl) (dk_g tcX11_bundled_2 8 rfl) rfl
theorem dX11_bundled_33 : decode cX11_bundled 33 = .ok (.iload_n 1, 1) := dk_1027 (dk_g tcX11_bundled_2 9 rfl)
theorem dX11_bundled_34 : decode cX11_bundled 34 = .ok (.iload_n 2, 1) := dk_1028 (dk_g tcX11_bundled_2 10 rfl)
theorem tcX11_bundled_3 : (cX11_bundled.data.toList.drop 36).take 12 = [1, 28, 42, 42, 180, 0, 75, 42, 180, 0, 16, 180] := by decide +kernel
theorem dX11_bundled_35 : decode cX11_bundled 35 = .ok (.invokevirtual 284, 3) := dk_1182 (dk_g tcX11_bundled_2 11 rfl) (dk_g tcX11_bundled_3 0 rfl) (dk_g tcX11_bundled_3 1 rfl) rfl
theorem dX11_bundled_38 : decode cX11_bundled 38 = .ok (.aload_n 0, 1) := dk_1042 (dk_g tcX11_bundled_3 2 rfl)
theorem dX11_bundled_39 : decode cX11_bundled 39 = .ok (.aload_n 0, 1) := dk_1042 (dk_g tcX11_bundled_3 3 rfl)
theorem dX11_bundled_40 : decode cX11_bundled 40 = .ok (.getfield 75, 3) := dk_1180 (dk_g tcX11_bundled_3 4 rfl) (dk_g tcX11_bundled_3 5 rfl) (dk_g tcX11_bundled_3 6 rfl) rfl
theorem dX11_bundled_43 : decode cX11_bundled 43 = .ok (.aload_n 0, 1) := dk_1042 (dk_g tcX11_bundled_3 7 rfl)
theorem dX11_bundled_44 : decode cX11_bundled 44 = .ok (.getfield 16, 3) := dk_1180 (dk_g tcX11_bundled_3 8 rfl) (dk_g tcX11_bundled_3 9 rfl) (dk_g tcX11_bundled_3 10 rfl) rfl
theorem tcX11_bundled_4 : (cX11_bundled.data.toList.drop 48).take 12 = [0, 122, 42, 180, 0, 26, 27, 28, 42, 180, 0, 62] := by decide +kernel
theorem dX11_bundled_47 : decode cX11_bundled 47 = .ok (.getfield 122, 3) := dk_1180 (dk_g tcX11_bundled_3 11 rfl) (dk_g tcX11_bundled_4 0 rfl) (dk_g tcX11_bundled_4 1 rfl) rfl
theorem dX11_bundled_50 : decode cX11_bundled 50 = .ok (.aload_n 0, 1) := dk_1042 (dk_g tcX11_bundled_4 2 rfl)
theorem dX11_bundled_51 : decode cX11_bundled 51 = .ok (.getfield 26, 3) := dk_1180 (dk_g tcX11_bundled_4 3 rfl) (dk_g tcX11_bundled_4 4 rfl) (dk_g tcX11_bundled_4 5 rfl) rfl
theorem dX11_bundled_54 : decode cX11_bundled 54 = .ok (.iload_n 1, 1) := dk_1027 (dk_g tcX11_bundled_4 6 rfl)
theorem dX11_bundled_55 : decode cX11_bundled 55 = .ok (.iload_n 2, 1) := dk_1028 (dk_g tcX11_bundled_4 7 rfl)
theorem dX11_bundled_56 : decode cX11_bundled 56 = .ok (.aload_n 0, 1) := dk_1042 (dk_g tcX11_bundled_4 8 rfl)
theorem dX11_bundled_57 : decode cX11_bundled 57 = .ok (.getfield 62, 3) := dk_1180 (dk_g tcX11_bundled_4 9 rfl) (dk_g tcX11_bundled_4 10 rfl) (dk_g tcX11_bundled_4 11 rfl) rfl
theorem tcX11_bundled_5 : (cX11_bundled.data.toList.drop 60).take 12 = [180, 1, 56, 29, 182, 1, 57, 182, 0, 115, 172] := by decide +kernel
theorem dX11_bundled_60 : decode cX11_bundled 60 = .ok (.getfield 312, 3) := dk_1180 (dk_g tcX11_bundled_5 0 rfl) (dk_g tcX11_bundled_5 1 rfl) (dk_g tcX11_bundled_5 2 rfl) rfl
theorem dX11_bundled_63 : decode cX11_bundled 63 = .ok (.iload_n 3, 1) := dk_1029 (dk_g tcX11_bundled_5 3 rfl)
theorem dX11_bundled_64 : decode cX11_bundled 64 = .ok (.invokevirtual 313, 3) := dk_1182 (dk_g tcX11_bundled_5 4 rfl) (dk_g tcX11_bundled_5 5 rfl) (dk_g tcX11_bundled_5 6 rfl) rfl
theorem dX11_bundled_67 : decode cX11_bundled 67 = .ok (.invokevirtual 115, 3) := dk_1182 (dk_g tcX11_bundled_5 7 rfl) (dk_g tcX11_bundled_5 8 rfl) (dk_g tcX11_bundled_5 9 rfl) rfl
theorem dX11_bundled_70 : decode cX11_bundled 70 = .ok (.ireturn, 1) := dk_1172 (dk_g tcX11_bundled_5 10 rfl)
theorem tcX11_fold_0 : (cX11_fold.data.toList.drop 0).take 12 = [42, 42, 180, 0, 26, 42, 180, 0, 16, 180, 0, 122] := by decide +kernel
theorem dX11_fold_0 : decode cX11_fold 0 = .ok (.aload_n 0, 1) := dk_1042 (dk_g tcX11_fold_0 0 rfl)
theorem dX11_fold_1 : decode cX11_fold 1 = .ok (.aload_n 0, 1) := dk_1042 (dk_g tcX11_fold_0 1 rfl)
theorem dX11_fold_2 : decode cX11_fold 2 = .ok (.getfield 26, 3) := dk_1180 (dk_g tcX11_fold_0 2 rfl) (dk_g tcX11_fold_0 3 rfl) (dk_g tcX11_fold_0 4 rfl) rfl
theorem dX11_fold_5 : decode cX11_fold 5 = .ok (.aload_n 0, 1) := dk_1042 (dk_g tcX11_fold_0 5 rfl)
theorem dX11_fold_6 : decode cX11_fold 6 = .ok (.getfield 16, 3) := dk_1180 (dk_g tcX11_fold_0 6 rfl) (dk_g tcX11_fold_0 7 rfl) (dk_g tcX11_fold_0 8 rfl) rfl
theorem dX11_fold_9 : decode cX11_fold 9 = .ok (.getfield 122, 3) := dk_1180 (dk_g tcX11_fold_0 9 rfl) (dk_g tcX11_fold_0 10 rfl) (dk_g tcX11_fold_0 11 rfl) rfl
theorem tcX11_fold_1 : (cX11_fold.data.toList.drop 12).take 12 = [182, 1, 60, 182, 0, 115, 172] := by decide +kernel
theorem dX11_fold_12 : decode cX11_fold 12 = .ok (.invokevirtual 316, 3) := dk_1182 (dk_g tcX11_fold_1 0 rfl) (dk_g tcX11_fold_1 1 rfl) (dk_g tcX11_fold_1 2 rfl) rfl
theorem dX11_fold_15 : decode cX11_fold 15 = .ok (.invokevirtual 115, 3) := dk_1182 (dk_g tcX11_fold_1 3 rfl) (dk_g tcX11_fold_1 4 rfl) (dk_g tcX11_fold_1 5 rfl) rfl
theorem dX11_fold_18 : decode cX11_fold 18 = .ok (.ireturn, 1) := dk_1172 (dk_g tcX11_fold_1 6 rfl)
theorem tcX11_steps_0 : (cX11_steps.data.toList.drop 0).take 12 = [27, 28, 184, 1, 45, 154, 0, 9, 42, 4, 182, 0] := by decide +kernel
theorem dX11_steps_0 : decode cX11_steps 0 = .ok (.iload_n 1, 1) := dk_1027 (dk_g tcX11_steps_0 0 rfl)
theorem dX11_steps_1 : decode cX11_steps 1 = .ok (.iload_n 2, 1) := dk_1028 (dk_g tcX11_steps_0 1 rfl)
theorem dX11_steps_2 : decode cX11_steps 2 = .ok (.invokestatic 301, 3) := dk_1184 (dk_g tcX11_steps_0 2 rfl) (dk_g tcX11_steps_0 3 rfl) (dk_g tcX11_steps_0 4 rfl) rfl
theorem dX11_steps_5 : decode cX11_steps 5 = .ok (.ifCond .ne 9, 3) := dk_2154 (dk_g tcX11_steps_0 5 rfl) (dk_g tcX11_steps_0 6 rfl) (dk_g tcX11_steps_0 7 rfl) rfl rfl
theorem dX11_steps_8 : decode cX11_steps 8 = .ok (.aload_n 0, 1) := dk_1042 (dk_g tcX11_steps_0 8 rfl)
theorem dX11_steps_9 : decode cX11_steps 9 = .ok (.iconst 1, 1) := dk_1004 (dk_g tcX11_steps_0 9 rfl)
theorem tcX11_steps_1 : (cX11_steps.data.toList.drop 12).take 12 = [98, 172, 42, 180, 0, 62, 27, 28, 182, 1, 11, 42] := by decide +kernel
theorem dX11_steps_10 : decode cX11_steps 10 = .ok (.invokevirtual 98, 3) := dk_1182 (dk_g tcX11_steps_0 10 rfl) (dk_g tcX11_steps_0 11 rfl) (dk_g tcX11_steps_1 0 rfl) rfl
theorem dX11_steps_13 : decode cX11_steps 13 = .ok (.ireturn, 1) := dk_1172 (dk_g tcX11_steps_1 1 rfl)
theorem dX11_steps_14 : decode cX11_steps 14 = .ok (.aload_n 0, 1) := dk_1042 (dk_g tcX11_steps_1 2 rfl)
theorem dX11_steps_15 : decode cX11_steps 15 = .ok (.getfield 62, 3) := dk_1180 (dk_g tcX11_steps_1 3 rfl) (dk_g tcX11_steps_1 4 rfl) (dk_g tcX11_steps_1 5 rfl) rfl
theorem dX11_steps_18 : decode cX11_steps 18 = .ok (.iload_n 1, 1) := dk_1027 (dk_g tcX11_steps_1 6 rfl)
theorem dX11_steps_19 : decode cX11_steps 19 = .ok (.iload_n 2, 1) := dk_1028 (dk_g tcX11_steps_1 7 rfl)
theorem dX11_steps_20 : decode cX11_steps 20 = .ok (.invokevirtual 267, 3) := dk_1182 (dk_g tcX11_steps_1 8 rfl) (dk_g tcX11_steps_1 9 rfl) (dk_g tcX11_steps_1 10 rfl) rfl
theorem dX11_steps_23 : decode cX11_steps 23 = .ok (.aload_n 0, 1) := dk_1042 (dk_g tcX11_steps_1 11 rfl)
theorem tcX11_steps_2 : (cX11_steps.data.toList.drop 24).take 12 = [42, 180, 0, 62, 180, 1, 56, 182, 0, 115, 172] := by decide +kernel
theorem dX11_steps_24 : decode cX11_steps 24 = .ok (.aload_n 0, 1) := dk_1042 (dk_g tcX11_steps_2 0 rfl)
theorem dX11_steps_25 : decode cX11_steps 25 = .ok (.getfield 62, 3) := dk_1180 (dk_g tcX11_steps_2 1 rfl) (dk_g tcX11_steps_2 2 rfl) (dk_g tcX11_steps_2 3 rfl) rfl
theorem dX11_steps_28 : decode cX11_steps 28 = .ok (.getfield 312, 3) := dk_1180 (dk_g tcX11_steps_2 4 rfl) (dk_g tcX11_steps_2 5 rfl) (dk_g tcX11_steps_2 6 rfl) rfl
theorem dX11_steps_31 : decode cX11_steps 31 = .ok (.invokevirtual 115, 3) := dk_1182 (dk_g tcX11_steps_2 7 rfl) (dk_g tcX11_steps_2 8 rfl) (dk_g tcX11_steps_2 9 rfl) rfl
theorem dX11_steps_34 : decode cX11_steps 34 = .ok (.ireturn, 1) := dk_1172 (dk_g tcX11_steps_2 10 rfl)
theorem tcX11_climbs_0 : (cX11_climbs.data.toList.drop 0).take 12 = [27, 155, 0, 8, 27, 28, 164, 0, 9, 42, 4, 182] := by decide +kernel
theorem dX11_climbs_0 : decode cX11_climbs 0 = .ok (.iload_n 1, 1) := dk_1027 (dk_g tcX11_climbs_0 0 rfl)
theorem dX11_climbs_1 : decode cX11_climbs 1 = .ok (.ifCond .lt 8, 3) := dk_2155 (dk_g tcX11_climbs_0 1 rfl) (dk_g tcX11_climbs_0 2 rfl) (dk_g tcX11_climbs_0 3 rfl) rfl rfl
theorem dX11_climbs_4 : decode cX11_climbs 4 = .ok (.iload_n 1, 1) := dk_1027 (dk_g tcX11_climbs_0 4 rfl)
theorem dX11_climbs_5 : decode cX11_climbs 5 = .ok (.iload_n 2, 1) := dk_1028 (dk_g tcX11_climbs_0 5 rfl)
theorem dX11_climbs_6 : decode cX11_climbs 6 = .ok (.if_icmp .le 9, 3) := dk_2164 (dk_g tcX11_climbs_0 6 rfl) (dk_g tcX11_climbs_0 7 rfl) (dk_g tcX11_climbs_0 8 rfl) rfl rfl
theorem dX11_climbs_9 : decode cX11_climbs 9 = .ok (.aload_n 0, 1) := dk_1042 (dk_g tcX11_climbs_0 9 rfl)
theorem dX11_climbs_10 : decode cX11_climbs 10 = .ok (.iconst 1, 1) := dk_1004 (dk_g tcX11_climbs_0 10 rfl)
theorem tcX11_climbs_1 : (cX11_climbs.data.toList.drop 12).take 12 = [0, 98, 172, 42, 180, 0, 62, 27, 28, 182, 1, 18] := by decide +kernel
theorem dX11_climbs_11 : decode cX11_climbs 11 = .ok (.invokevirtual 98, 3) := dk_1182 (dk_g tcX11_climbs_0 11 rfl) (dk_g tcX11_climbs_1 0 rfl) (dk_g tcX11_climbs_1 1 rfl) rfl
theorem dX11_climbs_14 : decode cX11_climbs 14 = .ok (.ireturn, 1) := dk_1172 (dk_g tcX11_climbs_1 2 rfl)
theorem dX11_climbs_15 : decode cX11_climbs 15 = .ok (.aload_n 0, 1) := dk_1042 (dk_g tcX11_climbs_1 3 rfl)
theorem dX11_climbs_16 : decode cX11_climbs 16 = .ok (.getfield 62, 3) := dk_1180 (dk_g tcX11_climbs_1 4 rfl) (dk_g tcX11_climbs_1 5 rfl) (dk_g tcX11_climbs_1 6 rfl) rfl
theorem dX11_climbs_19 : decode cX11_climbs 19 = .ok (.iload_n 1, 1) := dk_1027 (dk_g tcX11_climbs_1 7 rfl)
theorem dX11_climbs_20 : decode cX11_climbs 20 = .ok (.iload_n 2, 1) := dk_1028 (dk_g tcX11_climbs_1 8 rfl)
theorem dX11_climbs_21 : decode cX11_climbs 21 = .ok (.invokevirtual 274, 3) := dk_1182 (dk_g tcX11_climbs_1 9 rfl) (dk_g tcX11_climbs_1 10 rfl) (dk_g tcX11_climbs_1 11 rfl) rfl
theorem tcX11_climbs_2 : (cX11_climbs.data.toList.drop 24).take 12 = [42, 42, 180, 0, 62, 180, 1, 56, 182, 0, 115, 172] := by decide +kernel
theorem dX11_climbs_24 : decode cX11_climbs 24 = .ok (.aload_n 0, 1) := dk_1042 (dk_g tcX11_climbs_2 0 rfl)
theorem dX11_climbs_25 : decode cX11_climbs 25 = .ok (.aload_n 0, 1) := dk_1042 (dk_g tcX11_climbs_2 1 rfl)
theorem dX11_climbs_26 : decode cX11_climbs 26 = .ok (.getfield 62, 3) := dk_1180 (dk_g tcX11_climbs_2 2 rfl) (dk_g tcX11_climbs_2 3 rfl) (dk_g tcX11_climbs_2 4 rfl) rfl
theorem dX11_climbs_29 : decode cX11_climbs 29 = .ok (.getfield 312, 3) := dk_1180 (dk_g tcX11_climbs_2 5 rfl) (dk_g tcX11_climbs_2 6 rfl) (dk_g tcX11_climbs_2 7 rfl) rfl
theorem dX11_climbs_32 : decode cX11_climbs 32 = .ok (.invokevirtual 115, 3) := dk_1182 (dk_g tcX11_climbs_2 8 rfl) (dk_g tcX11_climbs_2 9 rfl) (dk_g tcX11_climbs_2 10 rfl) rfl
theorem dX11_climbs_35 : decode cX11_climbs 35 = .ok (.ireturn, 1) := dk_1172 (dk_g tcX11_climbs_2 11 rfl)
theorem tcX11_agree_0 : (cX11_agree.data.toList.drop 0).take 12 = [42, 180, 0, 16, 27, 182, 0, 220, 78, 42, 180, 0] := by decide +kernel
theorem dX11_agree_0 : decode cX11_agree 0 = .ok (.aload_n 0, 1) := dk_1042 (dk_g tcX11_agree_0 0 rfl)
theorem dX11_agree_1 : decode cX11_agree 1 = .ok (.getfield 16, 3) := dk_1180 (dk_g tcX11_agree_0 1 rfl) (dk_g tcX11_agree_0 2 rfl) (dk_g tcX11_agree_0 3 rfl) rfl
theorem dX11_agree_4 : decode cX11_agree 4 = .ok (.iload_n 1, 1) := dk_1027 (dk_g tcX11_agree_0 4 rfl)
theorem dX11_agree_5 : decode cX11_agree 5 = .ok (.invokevirtual 220, 3) := dk_1182 (dk_g tcX11_agree_0 5 rfl) (dk_g tcX11_agree_0 6 rfl) (dk_g tcX11_agree_0 7 rfl) rfl
theorem dX11_agree_8 : decode cX11_agree 8 = .ok (.astore_n 3, 1) := dk_1078 (dk_g tcX11_agree_0 8 rfl)
theorem dX11_agree_9 : decode cX11_agree 9 = .ok (.aload_n 0, 1) := dk_1042 (dk_g tcX11_agree_0 9 rfl)
theorem tcX11_agree_1 : (cX11_agree.data.toList.drop 12).take 12 = [16, 28, 182, 0, 220, 58, 4, 45, 198, 0, 8, 25] := by decide +kernel
theorem dX11_agree_10 : decode cX11_agree 10 = .ok (.getfield 16, 3) := dk_1180 (dk_g tcX11_agree_0 10 rfl) (dk_g tcX11_agree_0 11 rfl) (dk_g tcX11_agree_1 0 rfl) rfl
theorem dX11_agree_13 : decode cX11_agree 13 = .ok (.iload_n 2, 1) := dk_1028 (dk_g tcX11_agree_1 1 rfl)
theorem dX11_agree_14 : decode cX11_agree 14 = .ok (.invokevirtual 220, 3) := dk_1182 (dk_g tcX11_agree_1 2 rfl) (dk_g tcX11_agree_1 3 rfl) (dk_g tcX11_agree_1 4 rfl) rfl
theorem dX11_agree_17 : decode cX11_agree 17 = .ok (.astore 4, 2) := dk_1058 (dk_g tcX11_agree_1 5 rfl) (dk_g tcX11_agree_1 6 rfl) rfl
theorem dX11_agree_19 : decode cX11_agree 19 = .ok (.aload_n 3, 1) := dk_1045 (dk_g tcX11_agree_1 7 rfl)
theorem dX11_agree_20 : decode cX11_agree 20 = .ok (.ifnull 8, 3) := dk_2198 (dk_g tcX11_agree_1 8 rfl) (dk_g tcX11_agree_1 9 rfl) (dk_g tcX11_agree_1 10 rfl) rfl rfl
theorem tcX11_agree_2 : (cX11_agree.data.toList.drop 24).take 12 = [4, 199, 0, 9, 42, 5, 182, 0, 98, 172, 42, 42] := by decide +kernel
theorem dX11_agree_23 : decode cX11_agree 23 = .ok (.aload 4, 2) := dk_1025 (dk_g tcX11_agree_1 11 rfl) (dk_g tcX11_agree_2 0 rfl) rfl
theorem dX11_agree_25 : decode cX11_agree 25 = .ok (.ifnonnull 9, 3) := dk_2199 (dk_g tcX11_agree_2 1 rfl) (dk_g tcX11_agree_2 2 rfl) (dk_g tcX11_agree_2 3 rfl) rfl rfl
theorem dX11_agree_28 : decode cX11_agree 28 = .ok (.aload_n 0, 1) := dk_1042 (dk_g tcX11_agree_2 4 rfl)
theorem dX11_agree_29 : decode cX11_agree 29 = .ok (.iconst 2, 1) := dk_1005 (dk_g tcX11_agree_2 5 rfl)
theorem dX11_agree_30 : decode cX11_agree 30 = .ok (.invokevirtual 98, 3) := dk_1182 (dk_g tcX11_agree_2 6 rfl) (dk_g tcX11_agree_2 7 rfl) (dk_g tcX11_agree_2 8 rfl) rfl
theorem dX11_agree_33 : decode cX11_agree 33 = .ok (.ireturn, 1) := dk_1172 (dk_g tcX11_agree_2 9 rfl)
theorem dX11_agree_34 : decode cX11_agree 34 = .ok (.aload_n 0, 1) := dk_1042 (dk_g tcX11_agree_2 10 rfl)
theorem dX11_agree_35 : decode cX11_agree 35 = .ok (.aload_n 0, 1) := dk_1042 (dk_g tcX11_agree_2 11 rfl)
theorem tcX11_agree_3 : (cX11_agree.data.toList.drop 36).take 12 = [180, 0, 16, 45, 25, 4, 182, 1, 63, 153, 0, 7] := by decide +kernel
theorem dX11_agree_36 : decode cX11_agree 36 = .ok (.getfield 16, 3) := dk_1180 (dk_g tcX11_agree_3 0 rfl) (dk_g tcX11_agree_3 1 rfl) (dk_g tcX11_agree_3 2 rfl) rfl
theorem dX11_agree_39 : decode cX11_agree 39 = .ok (.aload_n 3, 1) := dk_1045 (dk_g tcX11_agree_3 3 rfl)
theorem dX11_agree_40 : decode cX11_agree 40 = .ok (.aload 4, 2) := dk_1025 (dk_g tcX11_agree_3 4 rfl) (dk_g tcX11_agree_3 5 rfl) rfl
theorem dX11_agree_42 : decode cX11_agree 42 = .ok (.invokevirtual 319, 3) := dk_1182 (dk_g tcX11_agree_3 6 rfl) (dk_g tcX11_agree_3 7 rfl) (dk_g tcX11_agree_3 8 rfl) rfl
theorem dX11_agree_45 : decode cX11_agree 45 = .ok (.ifCond .eq 7, 3) := dk_2153 (dk_g tcX11_agree_3 9 rfl) (dk_g tcX11_agree_3 10 rfl) (dk_g tcX11_agree_3 11 rfl) rfl rfl
theorem tcX11_agree_4 : (cX11_agree.data.toList.drop 48).take 12 = [4, 167, 0, 4, 3, 182, 0, 115, 172] := by decide +kernel
theorem dX11_agree_48 : decode cX11_agree 48 = .ok (.iconst 1, 1) := dk_1004 (dk_g tcX11_agree_4 0 rfl)
theorem dX11_agree_49 : decode cX11_agree 49 = .ok (.goto 4, 3) := dk_2167 (dk_g tcX11_agree_4 1 rfl) (dk_g tcX11_agree_4 2 rfl) (dk_g tcX11_agree_4 3 rfl) rfl rfl
theorem dX11_agree_52 : decode cX11_agree 52 = .ok (.iconst 0, 1) := dk_1003 (dk_g tcX11_agree_4 4 rfl)
theorem dX11_agree_53 : decode cX11_agree 53 = .ok (.invokevirtual 115, 3) := dk_1182 (dk_g tcX11_agree_4 5 rfl) (dk_g tcX11_agree_4 6 rfl) (dk_g tcX11_agree_4 7 rfl) rfl
theorem dX11_agree_56 : decode cX11_agree 56 = .ok (.ireturn, 1) := dk_1172 (dk_g tcX11_agree_4 8 rfl)
theorem tcX11_where_0 : (cX11_where.data.toList.drop 0).take 12 = [28, 155, 0, 8, 28, 4, 164, 0, 9, 42, 4, 182] := by decide +kernel
theorem dX11_where_0 : decode cX11_where 0 = .ok (.iload_n 2, 1) := dk_1028 (dk_g tcX11_where_0 0 rfl)
theorem dX11_where_1 : decode cX11_where 1 = .ok (.ifCond .lt 8, 3) := dk_2155 (dk_g tcX11_where_0 1 rfl) (dk_g tcX11_where_0 2 rfl) (dk_g tcX11_where_0 3 rfl) rfl rfl
theorem dX11_where_4 : decode cX11_where 4 = .ok (.iload_n 2, 1) := dk_1028 (dk_g tcX11_where_0 4 rfl)
theorem dX11_where_5 : decode cX11_where 5 = .ok (.iconst 1, 1) := dk_1004 (dk_g tcX11_where_0 5 rfl)
theorem dX11_where_6 : decode cX11_where 6 = .ok (.if_icmp .le 9, 3) := dk_2164 (dk_g tcX11_where_0 6 rfl) (dk_g tcX11_where_0 7 rfl) (dk_g tcX11_where_0 8 rfl) rfl rfl
theorem dX11_where_9 : decode cX11_where 9 = .ok (.aload_n 0, 1) := dk_1042 (dk_g tcX11_where_0 9 rfl)
theorem dX11_where_10 : decode cX11_where 10 = .ok (.iconst 1, 1) := dk_1004 (dk_g tcX11_where_0 10 rfl)
theorem tcX11_where_1 : (cX11_where.data.toList.drop 12).take 12 = [0, 98, 172, 42, 180, 0, 16, 27, 182, 0, 163, 78] := by decide +kernel
theorem dX11_where_11 : decode cX11_where 11 = .ok (.invokevirtual 98, 3) := dk_1182 (dk_g tcX11_where_0 11 rfl) (dk_g tcX11_where_1 0 rfl) (dk_g tcX11_where_1 1 rfl) rfl
theorem dX11_where_14 : decode cX11_where 14 = .ok (.ireturn, 1) := dk_1172 (dk_g tcX11_where_1 2 rfl)
theorem dX11_where_15 : decode cX11_where 15 = .ok (.aload_n 0, 1) := dk_1042 (dk_g tcX11_where_1 3 rfl)
theorem dX11_where_16 : decode cX11_where 16 = .ok (.getfield 16, 3) := dk_1180 (dk_g tcX11_where_1 4 rfl) (dk_g tcX11_where_1 5 rfl) (dk_g tcX11_where_1 6 rfl) rfl
theorem dX11_where_19 : decode cX11_where 19 = .ok (.iload_n 1, 1) := dk_1027 (dk_g tcX11_where_1 7 rfl)
theorem dX11_where_20 : decode cX11_where 20 = .ok (.invokevirtual 163, 3) := dk_1182 (dk_g tcX11_where_1 8 rfl) (dk_g tcX11_where_1 9 rfl) (dk_g tcX11_where_1 10 rfl) rfl
theorem dX11_where_23 : decode cX11_where 23 = .ok (.astore_n 3, 1) := dk_1078 (dk_g tcX11_where_1 11 rfl)
theorem tcX11_where_2 : (cX11_where.data.toList.drop 24).take 12 = [45, 199, 0, 9, 42, 5, 182, 0, 98, 172, 28, 4] := by decide +kernel
theorem dX11_where_24 : decode cX11_where 24 = .ok (.aload_n 3, 1) := dk_1045 (dk_g tcX11_where_2 0 rfl)
theorem dX11_where_25 : decode cX11_where 25 = .ok (.ifnonnull 9, 3) := dk_2199 (dk_g tcX11_where_2 1 rfl) (dk_g tcX11_where_2 2 rfl) (dk_g tcX11_where_2 3 rfl) rfl rfl
theorem dX11_where_28 : decode cX11_where 28 = .ok (.aload_n 0, 1) := dk_1042 (dk_g tcX11_where_2 4 rfl)
theorem dX11_where_29 : decode cX11_where 29 = .ok (.iconst 2, 1) := dk_1005 (dk_g tcX11_where_2 5 rfl)
theorem dX11_where_30 : decode cX11_where 30 = .ok (.invokevirtual 98, 3) := dk_1182 (dk_g tcX11_where_2 6 rfl) (dk_g tcX11_where_2 7 rfl) (dk_g tcX11_where_2 8 rfl) rfl
theorem dX11_where_33 : decode cX11_where 33 = .ok (.ireturn, 1) := dk_1172 (dk_g tcX11_where_2 9 rfl)
theorem dX11_where_34 : decode cX11_where 34 = .ok (.iload_n 2, 1) := dk_1028 (dk_g tcX11_where_2 10 rfl)
theorem dX11_where_35 : decode cX11_where 35 = .ok (.iconst 1, 1) := dk_1004 (dk_g tcX11_where_2 11 rfl)
theorem tcX11_where_3 : (cX11_where.data.toList.drop 36).take 12 = [160, 0, 16, 42, 45, 42, 180, 0, 40, 182, 1, 67] := by decide +kernel
theorem dX11_where_36 : decode cX11_where 36 = .ok (.if_icmp .ne 16, 3) := dk_2160 (dk_g tcX11_where_3 0 rfl) (dk_g tcX11_where_3 1 rfl) (dk_g tcX11_where_3 2 rfl) rfl rfl
theorem dX11_where_39 : decode cX11_where 39 = .ok (.aload_n 0, 1) := dk_1042 (dk_g tcX11_where_3 3 rfl)
theorem dX11_where_40 : decode cX11_where 40 = .ok (.aload_n 3, 1) := dk_1045 (dk_g tcX11_where_3 4 rfl)
theorem dX11_where_41 : decode cX11_where 41 = .ok (.aload_n 0, 1) := dk_1042 (dk_g tcX11_where_3 5 rfl)
theorem dX11_where_42 : decode cX11_where 42 = .ok (.getfield 40, 3) := dk_1180 (dk_g tcX11_where_3 6 rfl) (dk_g tcX11_where_3 7 rfl) (dk_g tcX11_where_3 8 rfl) rfl
theorem dX11_where_45 : decode cX11_where 45 = .ok (.invokevirtual 323, 3) := dk_1182 (dk_g tcX11_where_3 9 rfl) (dk_g tcX11_where_3 10 rfl) (dk_g tcX11_where_3 11 rfl) rfl
theorem tcX11_where_4 : (cX11_where.data.toList.drop 48).take 12 = [182, 0, 115, 172, 45, 42, 180, 0, 40, 182, 1, 71] := by decide +kernel
theorem dX11_where_48 : decode cX11_where 48 = .ok (.invokevirtual 115, 3) := dk_1182 (dk_g tcX11_where_4 0 rfl) (dk_g tcX11_where_4 1 rfl) (dk_g tcX11_where_4 2 rfl) rfl
theorem dX11_where_51 : decode cX11_where 51 = .ok (.ireturn, 1) := dk_1172 (dk_g tcX11_where_4 3 rfl)
theorem dX11_where_52 : decode cX11_where 52 = .ok (.aload_n 3, 1) := dk_1045 (dk_g tcX11_where_4 4 rfl)
theorem dX11_where_53 : decode cX11_where 53 = .ok (.aload_n 0, 1) := dk_1042 (dk_g tcX11_where_4 5 rfl)
theorem dX11_where_54 : decode cX11_where 54 = .ok (.getfield 40, 3) := dk_1180 (dk_g tcX11_where_4 6 rfl) (dk_g tcX11_where_4 7 rfl) (dk_g tcX11_where_4 8 rfl) rfl
theorem dX11_where_57 : decode cX11_where 57 = .ok (.invokevirtual 327, 3) := dk_1182 (dk_g tcX11_where_4 9 rfl) (dk_g tcX11_where_4 10 rfl) (dk_g tcX11_where_4 11 rfl) rfl
theorem tcX11_where_5 : (cX11_where.data.toList.drop 60).take 12 = [54, 4, 21, 4, 156, 0, 11, 42, 8, 182, 0, 98] := by decide +kernel
theorem dX11_where_60 : decode cX11_where 60 = .ok (.istore 4, 2) := dk_1054 (dk_g tcX11_where_5 0 rfl) (dk_g tcX11_where_5 1 rfl) rfl
theorem dX11_where_62 : decode cX11_where 62 = .ok (.iload 4, 2) := dk_1021 (dk_g tcX11_where_5 2 rfl) (dk_g tcX11_where_5 3 rfl) rfl
theorem dX11_where_64 : decode cX11_where 64 = .ok (.ifCond .ge 11, 3) := dk_2156 (dk_g tcX11_where_5 4 rfl) (dk_g tcX11_where_5 5 rfl) (dk_g tcX11_where_5 6 rfl) rfl rfl
theorem dX11_where_67 : decode cX11_where 67 = .ok (.aload_n 0, 1) := dk_1042 (dk_g tcX11_where_5 7 rfl)
theorem dX11_where_68 : decode cX11_where 68 = .ok (.iconst 5, 1) := dk_1008 (dk_g tcX11_where_5 8 rfl)
theorem dX11_where_69 : decode cX11_where 69 = .ok (.invokevirtual 98, 3) := dk_1182 (dk_g tcX11_where_5 9 rfl) (dk_g tcX11_where_5 10 rfl) (dk_g tcX11_where_5 11 rfl) rfl
theorem tcX11_where_6 : (cX11_where.data.toList.drop 72).take 12 = [167, 0, 9, 42, 21, 4, 182, 0, 115, 172] := by decide +kernel
theorem dX11_where_72 : decode cX11_where 72 = .ok (.goto 9, 3) := dk_2167 (dk_g tcX11_where_6 0 rfl) (dk_g tcX11_where_6 1 rfl) (dk_g tcX11_where_6 2 rfl) rfl rfl
theorem dX11_where_75 : decode cX11_where 75 = .ok (.aload_n 0, 1) := dk_1042 (dk_g tcX11_where_6 3 rfl)
theorem dX11_where_76 : decode cX11_where 76 = .ok (.iload 4, 2) := dk_1021 (dk_g tcX11_where_6 4 rfl) (dk_g tcX11_where_6 5 rfl) rfl
theorem dX11_where_78 : decode cX11_where 78 = .ok (.invokevirtual 115, 3) := dk_1182 (dk_g tcX11_where_6 6 rfl) (dk_g tcX11_where_6 7 rfl) (dk_g tcX11_where_6 8 rfl) rfl
theorem dX11_where_81 : decode cX11_where 81 = .ok (.ireturn, 1) := dk_1172 (dk_g tcX11_where_6 9 rfl)
theorem tcX11_tree_0 : (cX11_tree.data.toList.drop 0).take 12 = [29, 155, 0, 14, 21, 4, 155, 0, 9, 21, 4, 5] := by decide +kernel
theorem dX11_tree_0 : decode cX11_tree 0 = .ok (.iload_n 3, 1) := dk_1029 (dk_g tcX11_tree_0 0 rfl)
theorem dX11_tree_1 : decode cX11_tree 1 = .ok (.ifCond .lt 14, 3) := dk_2155 (dk_g tcX11_tree_0 1 rfl) (dk_g tcX11_tree_0 2 rfl) (dk_g tcX11_tree_0 3 rfl) rfl rfl
theorem dX11_tree_4 : decode cX11_tree 4 = .ok (.iload 4, 2) := dk_1021 (dk_g tcX11_tree_0 4 rfl) (dk_g tcX11_tree_0 5 rfl) rfl
theorem dX11_tree_6 : decode cX11_tree 6 = .ok (.ifCond .lt 9, 3) := dk_2155 (dk_g tcX11_tree_0 6 rfl) (dk_g tcX11_tree_0 7 rfl) (dk_g tcX11_tree_0 8 rfl) rfl rfl
theorem dX11_tree_9 : decode cX11_tree 9 = .ok (.iload 4, 2) := dk_1021 (dk_g tcX11_tree_0 9 rfl) (dk_g tcX11_tree_0 10 rfl) rfl
theorem dX11_tree_11 : decode cX11_tree 11 = .ok (.iconst 2, 1) := dk_1005 (dk_g tcX11_tree_0 11 rfl)
theorem tcX11_tree_1 : (cX11_tree.data.toList.drop 12).take 12 = [164, 0, 9, 42, 4, 182, 0, 98, 172, 42, 180, 0] := by decide +kernel
theorem dX11_tree_12 : decode cX11_tree 12 = .ok (.if_icmp .le 9, 3) := dk_2164 (dk_g tcX11_tree_1 0 rfl) (dk_g tcX11_tree_1 1 rfl) (dk_g tcX11_tree_1 2 rfl) rfl rfl
theorem dX11_tree_15 : decode cX11_tree 15 = .ok (.aload_n 0, 1) := dk_1042 (dk_g tcX11_tree_1 3 rfl)
theorem dX11_tree_16 : decode cX11_tree 16 = .ok (.iconst 1, 1) := dk_1004 (dk_g tcX11_tree_1 4 rfl)
theorem dX11_tree_17 : decode cX11_tree 17 = .ok (.invokevirtual 98, 3) := dk_1182 (dk_g tcX11_tree_1 5 rfl) (dk_g tcX11_tree_1 6 rfl) (dk_g tcX11_tree_1 7 rfl) rfl
theorem dX11_tree_20 : decode cX11_tree 20 = .ok (.ireturn, 1) := dk_1172 (dk_g tcX11_tree_1 8 rfl)
theorem dX11_tree_21 : decode cX11_tree 21 = .ok (.aload_n 0, 1) := dk_1042 (dk_g tcX11_tree_1 9 rfl)
theorem tcX11_tree_2 : (cX11_tree.data.toList.drop 24).take 12 = [16, 27, 182, 0, 163, 58, 5, 25, 5, 3, 28, 184] := by decide +kernel
theorem dX11_tree_22 : decode cX11_tree 22 = .ok (.getfield 16, 3) := dk_1180 (dk_g tcX11_tree_1 10 rfl) (dk_g tcX11_tree_1 11 rfl) (dk_g tcX11_tree_2 0 rfl) rfl
theorem dX11_tree_25 : decode cX11_tree 25 = .ok (.iload_n 1, 1) := dk_1027 (dk_g tcX11_tree_2 1 rfl)
theorem dX11_tree_26 : decode cX11_tree 26 = .ok (.invokevirtual 163, 3) := dk_1182 (dk_g tcX11_tree_2 2 rfl) (dk_g tcX11_tree_2 3 rfl) (dk_g tcX11_tree_2 4 rfl) rfl
theorem dX11_tree_29 : decode cX11_tree 29 = .ok (.astore 5, 2) := dk_1058 (dk_g tcX11_tree_2 5 rfl) (dk_g tcX11_tree_2 6 rfl) rfl
theorem dX11_tree_31 : decode cX11_tree 31 = .ok (.aload 5, 2) := dk_1025 (dk_g tcX11_tree_2 7 rfl) (dk_g tcX11_tree_2 8 rfl) rfl
theorem dX11_tree_33 : decode cX11_tree 33 = .ok (.iconst 0, 1) := dk_1003 (dk_g tcX11_tree_2 9 rfl)
theorem dX11_tree_34 : decode cX11_tree 34 = .ok (.iload_n 2, 1) := dk_1028 (dk_g tcX11_tree_2 10 rfl)
theorem tcX11_tree_3 : (cX11_tree.data.toList.drop 36).take 12 = [0, 180, 54, 6, 21, 6, 153, 0, 10, 42, 21, 6] := by decide +kernel
theorem dX11_tree_35 : decode cX11_tree 35 = .ok (.invokestatic 180, 3) := dk_1184 (dk_g tcX11_tree_2 11 rfl) (dk_g tcX11_tree_3 0 rfl) (dk_g tcX11_tree_3 1 rfl) rfl
theorem dX11_tree_38 : decode cX11_tree 38 = .ok (.istore 6, 2) := dk_1054 (dk_g tcX11_tree_3 2 rfl) (dk_g tcX11_tree_3 3 rfl) rfl
theorem dX11_tree_40 : decode cX11_tree 40 = .ok (.iload 6, 2) := dk_1021 (dk_g tcX11_tree_3 4 rfl) (dk_g tcX11_tree_3 5 rfl) rfl
theorem dX11_tree_42 : decode cX11_tree 42 = .ok (.ifCond .eq 10, 3) := dk_2153 (dk_g tcX11_tree_3 6 rfl) (dk_g tcX11_tree_3 7 rfl) (dk_g tcX11_tree_3 8 rfl) rfl rfl
theorem dX11_tree_45 : decode cX11_tree 45 = .ok (.aload_n 0, 1) := dk_1042 (dk_g tcX11_tree_3 9 rfl)
theorem dX11_tree_46 : decode cX11_tree 46 = .ok (.iload 6, 2) := dk_1021 (dk_g tcX11_tree_3 10 rfl) (dk_g tcX11_tree_3 11 rfl) rfl
theorem tcX11_tree_4 : (cX11_tree.data.toList.drop 48).take 12 = [182, 0, 98, 172, 29, 5, 28, 104, 5, 100, 164, 0] := by decide +kernel
theorem dX11_tree_48 : decode cX11_tree 48 = .ok (.invokevirtual 98, 3) := dk_1182 (dk_g tcX11_tree_4 0 rfl) (dk_g tcX11_tree_4 1 rfl) (dk_g tcX11_tree_4 2 rfl) rfl
theorem dX11_tree_51 : decode cX11_tree 51 = .ok (.ireturn, 1) := dk_1172 (dk_g tcX11_tree_4 3 rfl)
theorem dX11_tree_52 : decode cX11_tree 52 = .ok (.iload_n 3, 1) := dk_1029 (dk_g tcX11_tree_4 4 rfl)
theorem dX11_tree_53 : decode cX11_tree 53 = .ok (.iconst 2, 1) := dk_1005 (dk_g tcX11_tree_4 5 rfl)
theorem dX11_tree_54 : decode cX11_tree 54 = .ok (.iload_n 2, 1) := dk_1028 (dk_g tcX11_tree_4 6 rfl)
theorem dX11_tree_55 : decode cX11_tree 55 = .ok (.imul, 1) := dk_1104 (dk_g tcX11_tree_4 7 rfl)
theorem dX11_tree_56 : decode cX11_tree 56 = .ok (.iconst 2, 1) := dk_1005 (dk_g tcX11_tree_4 8 rfl)
theorem dX11_tree_57 : decode cX11_tree 57 = .ok (.isub, 1) := dk_1100 (dk_g tcX11_tree_4 9 rfl)
theorem tcX11_tree_5 : (cX11_tree.data.toList.drop 60).take 12 = [9, 42, 8, 182, 0, 98, 172, 42, 180, 0, 62, 29] := by decide +kernel
theorem dX11_tree_58 : decode cX11_tree 58 = .ok (.if_icmp .le 9, 3) := dk_2164 (dk_g tcX11_tree_4 10 rfl) (dk_g tcX11_tree_4 11 rfl) (dk_g tcX11_tree_5 0 rfl) rfl rfl
theorem dX11_tree_61 : decode cX11_tree 61 = .ok (.aload_n 0, 1) := dk_1042 (dk_g tcX11_tree_5 1 rfl)
theorem dX11_tree_62 : decode cX11_tree 62 = .ok (.iconst 5, 1) := dk_1008 (dk_g tcX11_tree_5 2 rfl)
theorem dX11_tree_63 : decode cX11_tree 63 = .ok (.invokevirtual 98, 3) := dk_1182 (dk_g tcX11_tree_5 3 rfl) (dk_g tcX11_tree_5 4 rfl) (dk_g tcX11_tree_5 5 rfl) rfl
theorem dX11_tree_66 : decode cX11_tree 66 = .ok (.ireturn, 1) := dk_1172 (dk_g tcX11_tree_5 6 rfl)
theorem dX11_tree_67 : decode cX11_tree 67 = .ok (.aload_n 0, 1) := dk_1042 (dk_g tcX11_tree_5 7 rfl)
theorem dX11_tree_68 : decode cX11_tree 68 = .ok (.getfield 62, 3) := dk_1180 (dk_g tcX11_tree_5 8 rfl) (dk_g tcX11_tree_5 9 rfl) (dk_g tcX11_tree_5 10 rfl) rfl
theorem dX11_tree_71 : decode cX11_tree 71 = .ok (.iload_n 3, 1) := dk_1029 (dk_g tcX11_tree_5 11 rfl)
theorem tcX11_tree_6 : (cX11_tree.data.toList.drop 72).take 12 = [28, 182, 1, 74, 21, 4, 154, 0, 16, 42, 42, 180] := by decide +kernel
theorem dX11_tree_72 : decode cX11_tree 72 = .ok (.iload_n 2, 1) := dk_1028 (dk_g tcX11_tree_6 0 rfl)
theorem dX11_tree_73 : decode cX11_tree 73 = .ok (.invokevirtual 330, 3) := dk_1182 (dk_g tcX11_tree_6 1 rfl) (dk_g tcX11_tree_6 2 rfl) (dk_g tcX11_tree_6 3 rfl) rfl
theorem dX11_tree_76 : decode cX11_tree 76 = .ok (.iload 4, 2) := dk_1021 (dk_g tcX11_tree_6 4 rfl) (dk_g tcX11_tree_6 5 rfl) rfl
theorem dX11_tree_78 : decode cX11_tree 78 = .ok (.ifCond .ne 16, 3) := dk_2154 (dk_g tcX11_tree_6 6 rfl) (dk_g tcX11_tree_6 7 rfl) (dk_g tcX11_tree_6 8 rfl) rfl rfl
theorem dX11_tree_81 : decode cX11_tree 81 = .ok (.aload_n 0, 1) := dk_1042 (dk_g tcX11_tree_6 9 rfl)
theorem dX11_tree_82 : decode cX11_tree 82 = .ok (.aload_n 0, 1) := dk_1042 (dk_g tcX11_tree_6 10 rfl)
theorem tcX11_tree_7 : (cX11_tree.data.toList.drop 84).take 12 = [0, 62, 3, 182, 1, 77, 182, 0, 115, 172, 42, 21] := by decide +kernel
theorem dX11_tree_83 : decode cX11_tree 83 = .ok (.getfield 62, 3) := dk_1180 (dk_g tcX11_tree_6 11 rfl) (dk_g tcX11_tree_7 0 rfl) (dk_g tcX11_tree_7 1 rfl) rfl
theorem dX11_tree_86 : decode cX11_tree 86 = .ok (.iconst 0, 1) := dk_1003 (dk_g tcX11_tree_7 2 rfl)
theorem dX11_tree_87 : decode cX11_tree 87 = .ok (.invokevirtual 333, 3) := dk_1182 (dk_g tcX11_tree_7 3 rfl) (dk_g tcX11_tree_7 4 rfl) (dk_g tcX11_tree_7 5 rfl) rfl
theorem dX11_tree_90 : decode cX11_tree 90 = .ok (.invokevirtual 115, 3) := dk_1182 (dk_g tcX11_tree_7 6 rfl) (dk_g tcX11_tree_7 7 rfl) (dk_g tcX11_tree_7 8 rfl) rfl
theorem dX11_tree_93 : decode cX11_tree 93 = .ok (.ireturn, 1) := dk_1172 (dk_g tcX11_tree_7 9 rfl)
theorem dX11_tree_94 : decode cX11_tree 94 = .ok (.aload_n 0, 1) := dk_1042 (dk_g tcX11_tree_7 10 rfl)
theorem tcX11_tree_8 : (cX11_tree.data.toList.drop 96).take 12 = [4, 4, 160, 0, 14, 42, 180, 0, 62, 3, 182, 1] := by decide +kernel
theorem dX11_tree_95 : decode cX11_tree 95 = .ok (.iload 4, 2) := dk_1021 (dk_g tcX11_tree_7 11 rfl) (dk_g tcX11_tree_8 0 rfl) rfl
theorem dX11_tree_97 : decode cX11_tree 97 = .ok (.iconst 1, 1) := dk_1004 (dk_g tcX11_tree_8 1 rfl)
theorem dX11_tree_98 : decode cX11_tree 98 = .ok (.if_icmp .ne 14, 3) := dk_2160 (dk_g tcX11_tree_8 2 rfl) (dk_g tcX11_tree_8 3 rfl) (dk_g tcX11_tree_8 4 rfl) rfl rfl
theorem dX11_tree_101 : decode cX11_tree 101 = .ok (.aload_n 0, 1) := dk_1042 (dk_g tcX11_tree_8 5 rfl)
theorem dX11_tree_102 : decode cX11_tree 102 = .ok (.getfield 62, 3) := dk_1180 (dk_g tcX11_tree_8 6 rfl) (dk_g tcX11_tree_8 7 rfl) (dk_g tcX11_tree_8 8 rfl) rfl
theorem dX11_tree_105 : decode cX11_tree 105 = .ok (.iconst 0, 1) := dk_1003 (dk_g tcX11_tree_8 9 rfl)
theorem tcX11_tree_9 : (cX11_tree.data.toList.drop 108).take 12 = [80, 167, 0, 28, 42, 180, 0, 16, 25, 5, 42, 180] := by decide +kernel
theorem dX11_tree_106 : decode cX11_tree 106 = .ok (.invokevirtual 336, 3) := dk_1182 (dk_g tcX11_tree_8 10 rfl) (dk_g tcX11_tree_8 11 rfl) (dk_g tcX11_tree_9 0 rfl) rfl
theorem dX11_tree_109 : decode cX11_tree 109 = .ok (.goto 28, 3) := dk_2167 (dk_g tcX11_tree_9 1 rfl) (dk_g tcX11_tree_9 2 rfl) (dk_g tcX11_tree_9 3 rfl) rfl rfl
theorem dX11_tree_112 : decode cX11_tree 112 = .ok (.aload_n 0, 1) := dk_1042 (dk_g tcX11_tree_9 4 rfl)
theorem dX11_tree_113 : decode cX11_tree 113 = .ok (.getfield 16, 3) := dk_1180 (dk_g tcX11_tree_9 5 rfl) (dk_g tcX11_tree_9 6 rfl) (dk_g tcX11_tree_9 7 rfl) rfl
theorem dX11_tree_116 : decode cX11_tree 116 = .ok (.aload 5, 2) := dk_1025 (dk_g tcX11_tree_9 8 rfl) (dk_g tcX11_tree_9 9 rfl) rfl
theorem dX11_tree_118 : decode cX11_tree 118 = .ok (.aload_n 0, 1) := dk_1042 (dk_g tcX11_tree_9 10 rfl)
theorem tcX11_tree_10 : (cX11_tree.data.toList.drop 120).take 12 = [0, 62, 3, 182, 1, 77, 42, 180, 0, 62, 3, 182] := by decide +kernel
theorem dX11_tree_119 : decode cX11_tree 119 = .ok (.getfield 62, 3) := dk_1180 (dk_g tcX11_tree_9 11 rfl) (dk_g tcX11_tree_10 0 rfl) (dk_g tcX11_tree_10 1 rfl) rfl
theorem dX11_tree_122 : decode cX11_tree 122 = .ok (.iconst 0, 1) := dk_1003 (dk_g tcX11_tree_10 2 rfl)
theorem dX11_tree_123 : decode cX11_tree 123 = .ok (.invokevirtual 333, 3) := dk_1182 (dk_g tcX11_tree_10 3 rfl) (dk_g tcX11_tree_10 4 rfl) (dk_g tcX11_tree_10 5 rfl) rfl
theorem dX11_tree_126 : decode cX11_tree 126 = .ok (.aload_n 0, 1) := dk_1042 (dk_g tcX11_tree_10 6 rfl)
theorem dX11_tree_127 : decode cX11_tree 127 = .ok (.getfield 62, 3) := dk_1180 (dk_g tcX11_tree_10 7 rfl) (dk_g tcX11_tree_10 8 rfl) (dk_g tcX11_tree_10 9 rfl) rfl
theorem dX11_tree_130 : decode cX11_tree 130 = .ok (.iconst 0, 1) := dk_1003 (dk_g tcX11_tree_10 10 rfl)
theorem tcX11_tree_11 : (cX11_tree.data.toList.drop 132).take 12 = [1, 80, 182, 1, 83, 182, 0, 115, 172] := by decide +kernel
theorem dX11_tree_131 : decode cX11_tree 131 = .ok (.invokevirtual 336, 3) := dk_1182 (dk_g tcX11_tree_10 11 rfl) (dk_g tcX11_tree_11 0 rfl) (dk_g tcX11_tree_11 1 rfl) rfl
theorem dX11_tree_134 : decode cX11_tree 134 = .ok (.invokevirtual 339, 3) := dk_1182 (dk_g tcX11_tree_11 2 rfl) (dk_g tcX11_tree_11 3 rfl) (dk_g tcX11_tree_11 4 rfl) rfl
theorem dX11_tree_137 : decode cX11_tree 137 = .ok (.invokevirtual 115, 3) := dk_1182 (dk_g tcX11_tree_11 5 rfl) (dk_g tcX11_tree_11 6 rfl) (dk_g tcX11_tree_11 7 rfl) rfl
theorem dX11_tree_140 : decode cX11_tree 140 = .ok (.ireturn, 1) := dk_1172 (dk_g tcX11_tree_11 8 rfl)
theorem tcX11_proves_0 : (cX11_proves.data.toList.drop 0).take 12 = [27, 155, 0, 7, 28, 156, 0, 9, 42, 4, 182, 0] := by decide +kernel
theorem dX11_proves_0 : decode cX11_proves 0 = .ok (.iload_n 1, 1) := dk_1027 (dk_g tcX11_proves_0 0 rfl)
theorem dX11_proves_1 : decode cX11_proves 1 = .ok (.ifCond .lt 7, 3) := dk_2155 (dk_g tcX11_proves_0 1 rfl) (dk_g tcX11_proves_0 2 rfl) (dk_g tcX11_proves_0 3 rfl) rfl rfl
theorem dX11_proves_4 : decode cX11_proves 4 = .ok (.iload_n 2, 1) := dk_1028 (dk_g tcX11_proves_0 4 rfl)
theorem dX11_proves_5 : decode cX11_proves 5 = .ok (.ifCond .ge 9, 3) := dk_2156 (dk_g tcX11_proves_0 5 rfl) (dk_g tcX11_proves_0 6 rfl) (dk_g tcX11_proves_0 7 rfl) rfl rfl
theorem dX11_proves_8 : decode cX11_proves 8 = .ok (.aload_n 0, 1) := dk_1042 (dk_g tcX11_proves_0 8 rfl)
theorem dX11_proves_9 : decode cX11_proves 9 = .ok (.iconst 1, 1) := dk_1004 (dk_g tcX11_proves_0 9 rfl)
theorem tcX11_proves_1 : (cX11_proves.data.toList.drop 12).take 12 = [98, 172, 42, 180, 0, 16, 27, 182, 0, 198, 78, 42] := by decide +kernel
theorem dX11_proves_10 : decode cX11_proves 10 = .ok (.invokevirtual 98, 3) := dk_1182 (dk_g tcX11_proves_0 10 rfl) (dk_g tcX11_proves_0 11 rfl) (dk_g tcX11_proves_1 0 rfl) rfl
theorem dX11_proves_13 : decode cX11_proves 13 = .ok (.ireturn, 1) := dk_1172 (dk_g tcX11_proves_1 1 rfl)
theorem dX11_proves_14 : decode cX11_proves 14 = .ok (.aload_n 0, 1) := dk_1042 (dk_g tcX11_proves_1 2 rfl)
theorem dX11_proves_15 : decode cX11_proves 15 = .ok (.getfield 16, 3) := dk_1180 (dk_g tcX11_proves_1 3 rfl) (dk_g tcX11_proves_1 4 rfl) (dk_g tcX11_proves_1 5 rfl) rfl
theorem dX11_proves_18 : decode cX11_proves 18 = .ok (.iload_n 1, 1) := dk_1027 (dk_g tcX11_proves_1 6 rfl)
theorem dX11_proves_19 : decode cX11_proves 19 = .ok (.invokevirtual 198, 3) := dk_1182 (dk_g tcX11_proves_1 7 rfl) (dk_g tcX11_proves_1 8 rfl) (dk_g tcX11_proves_1 9 rfl) rfl
theorem dX11_proves_22 : decode cX11_proves 22 = .ok (.astore_n 3, 1) := dk_1078 (dk_g tcX11_proves_1 10 rfl)
theorem dX11_proves_23 : decode cX11_proves 23 = .ok (.aload_n 0, 1) := dk_1042 (dk_g tcX11_proves_1 11 rfl)
theorem tcX11_proves_2 : (cX11_proves.data.toList.drop 24).take 12 = [180, 0, 16, 28, 182, 0, 198, 58, 4, 45, 198, 0] := by decide +kernel
theorem dX11_proves_24 : decode cX11_proves 24 = .ok (.getfield 16, 3) := dk_1180 (dk_g tcX11_proves_2 0 rfl) (dk_g tcX11_proves_2 1 rfl) (dk_g tcX11_proves_2 2 rfl) rfl
theorem dX11_proves_27 : decode cX11_proves 27 = .ok (.iload_n 2, 1) := dk_1028 (dk_g tcX11_proves_2 3 rfl)
theorem dX11_proves_28 : decode cX11_proves 28 = .ok (.invokevirtual 198, 3) := dk_1182 (dk_g tcX11_proves_2 4 rfl) (dk_g tcX11_proves_2 5 rfl) (dk_g tcX11_proves_2 6 rfl) rfl
theorem dX11_proves_31 : decode cX11_proves 31 = .ok (.astore 4, 2) := dk_1058 (dk_g tcX11_proves_2 7 rfl) (dk_g tcX11_proves_2 8 rfl) rfl
theorem dX11_proves_33 : decode cX11_proves 33 = .ok (.aload_n 3, 1) := dk_1045 (dk_g tcX11_proves_2 9 rfl)
theorem tcX11_proves_3 : (cX11_proves.data.toList.drop 36).take 12 = [20, 25, 4, 198, 0, 15, 45, 180, 0, 207, 25, 4] := by decide +kernel
theorem dX11_proves_34 : decode cX11_proves 34 = .ok (.ifnull 20, 3) := dk_2198 (dk_g tcX11_proves_2 10 rfl) (dk_g tcX11_proves_2 11 rfl) (dk_g tcX11_proves_3 0 rfl) rfl rfl
theorem dX11_proves_37 : decode cX11_proves 37 = .ok (.aload 4, 2) := dk_1025 (dk_g tcX11_proves_3 1 rfl) (dk_g tcX11_proves_3 2 rfl) rfl
theorem dX11_proves_39 : decode cX11_proves 39 = .ok (.ifnull 15, 3) := dk_2198 (dk_g tcX11_proves_3 3 rfl) (dk_g tcX11_proves_3 4 rfl) (dk_g tcX11_proves_3 5 rfl) rfl rfl
theorem dX11_proves_42 : decode cX11_proves 42 = .ok (.aload_n 3, 1) := dk_1045 (dk_g tcX11_proves_3 6 rfl)
theorem dX11_proves_43 : decode cX11_proves 43 = .ok (.getfield 207, 3) := dk_1180 (dk_g tcX11_proves_3 7 rfl) (dk_g tcX11_proves_3 8 rfl) (dk_g tcX11_proves_3 9 rfl) rfl
theorem dX11_proves_46 : decode cX11_proves 46 = .ok (.aload 4, 2) := dk_1025 (dk_g tcX11_proves_3 10 rfl) (dk_g tcX11_proves_3 11 rfl) rfl
theorem tcX11_proves_4 : (cX11_proves.data.toList.drop 48).take 12 = [180, 0, 207, 164, 0, 9, 42, 8, 182, 0, 98, 172] := by decide +kernel
theorem dX11_proves_48 : decode cX11_proves 48 = .ok (.getfield 207, 3) := dk_1180 (dk_g tcX11_proves_4 0 rfl) (dk_g tcX11_proves_4 1 rfl) (dk_g tcX11_proves_4 2 rfl) rfl
theorem dX11_proves_51 : decode cX11_proves 51 = .ok (.if_icmp .le 9, 3) := dk_2164 (dk_g tcX11_proves_4 3 rfl) (dk_g tcX11_proves_4 4 rfl) (dk_g tcX11_proves_4 5 rfl) rfl rfl
theorem dX11_proves_54 : decode cX11_proves 54 = .ok (.aload_n 0, 1) := dk_1042 (dk_g tcX11_proves_4 6 rfl)
theorem dX11_proves_55 : decode cX11_proves 55 = .ok (.iconst 5, 1) := dk_1008 (dk_g tcX11_proves_4 7 rfl)
theorem dX11_proves_56 : decode cX11_proves 56 = .ok (.invokevirtual 98, 3) := dk_1182 (dk_g tcX11_proves_4 8 rfl) (dk_g tcX11_proves_4 9 rfl) (dk_g tcX11_proves_4 10 rfl) rfl
theorem dX11_proves_59 : decode cX11_proves 59 = .ok (.ireturn, 1) := dk_1172 (dk_g tcX11_proves_4 11 rfl)
theorem tcX11_proves_5 : (cX11_proves.data.toList.drop 60).take 12 = [42, 180, 0, 16, 25, 4, 180, 0, 202, 182, 0, 163] := by decide +kernel
theorem dX11_proves_60 : decode cX11_proves 60 = .ok (.aload_n 0, 1) := dk_1042 (dk_g tcX11_proves_5 0 rfl)
theorem dX11_proves_61 : decode cX11_proves 61 = .ok (.getfield 16, 3) := dk_1180 (dk_g tcX11_proves_5 1 rfl) (dk_g tcX11_proves_5 2 rfl) (dk_g tcX11_proves_5 3 rfl) rfl
theorem dX11_proves_64 : decode cX11_proves 64 = .ok (.aload 4, 2) := dk_1025 (dk_g tcX11_proves_5 4 rfl) (dk_g tcX11_proves_5 5 rfl) rfl
theorem dX11_proves_66 : decode cX11_proves 66 = .ok (.getfield 202, 3) := dk_1180 (dk_g tcX11_proves_5 6 rfl) (dk_g tcX11_proves_5 7 rfl) (dk_g tcX11_proves_5 8 rfl) rfl
theorem dX11_proves_69 : decode cX11_proves 69 = .ok (.invokevirtual 163, 3) := dk_1182 (dk_g tcX11_proves_5 9 rfl) (dk_g tcX11_proves_5 10 rfl) (dk_g tcX11_proves_5 11 rfl) rfl
theorem tcX11_proves_6 : (cX11_proves.data.toList.drop 72).take 12 = [58, 5, 42, 42, 180, 0, 16, 25, 5, 45, 180, 0] := by decide +kernel
theorem dX11_proves_72 : decode cX11_proves 72 = .ok (.astore 5, 2) := dk_1058 (dk_g tcX11_proves_6 0 rfl) (dk_g tcX11_proves_6 1 rfl) rfl
theorem dX11_proves_74 : decode cX11_proves 74 = .ok (.aload_n 0, 1) := dk_1042 (dk_g tcX11_proves_6 2 rfl)
theorem dX11_proves_75 : decode cX11_proves 75 = .ok (.aload_n 0, 1) := dk_1042 (dk_g tcX11_proves_6 3 rfl)
theorem dX11_proves_76 : decode cX11_proves 76 = .ok (.getfield 16, 3) := dk_1180 (dk_g tcX11_proves_6 4 rfl) (dk_g tcX11_proves_6 5 rfl) (dk_g tcX11_proves_6 6 rfl) rfl
theorem dX11_proves_79 : decode cX11_proves 79 = .ok (.aload 5, 2) := dk_1025 (dk_g tcX11_proves_6 7 rfl) (dk_g tcX11_proves_6 8 rfl) rfl
theorem dX11_proves_81 : decode cX11_proves 81 = .ok (.aload_n 3, 1) := dk_1045 (dk_g tcX11_proves_6 9 rfl)
theorem tcX11_proves_7 : (cX11_proves.data.toList.drop 84).take 12 = [207, 45, 180, 0, 210, 25, 4, 180, 0, 207, 25, 4] := by decide +kernel
theorem dX11_proves_82 : decode cX11_proves 82 = .ok (.getfield 207, 3) := dk_1180 (dk_g tcX11_proves_6 10 rfl) (dk_g tcX11_proves_6 11 rfl) (dk_g tcX11_proves_7 0 rfl) rfl
theorem dX11_proves_85 : decode cX11_proves 85 = .ok (.aload_n 3, 1) := dk_1045 (dk_g tcX11_proves_7 1 rfl)
theorem dX11_proves_86 : decode cX11_proves 86 = .ok (.getfield 210, 3) := dk_1180 (dk_g tcX11_proves_7 2 rfl) (dk_g tcX11_proves_7 3 rfl) (dk_g tcX11_proves_7 4 rfl) rfl
theorem dX11_proves_89 : decode cX11_proves 89 = .ok (.aload 4, 2) := dk_1025 (dk_g tcX11_proves_7 5 rfl) (dk_g tcX11_proves_7 6 rfl) rfl
theorem dX11_proves_91 : decode cX11_proves 91 = .ok (.getfield 207, 3) := dk_1180 (dk_g tcX11_proves_7 7 rfl) (dk_g tcX11_proves_7 8 rfl) (dk_g tcX11_proves_7 9 rfl) rfl
theorem dX11_proves_94 : decode cX11_proves 94 = .ok (.aload 4, 2) := dk_1025 (dk_g tcX11_proves_7 10 rfl) (dk_g tcX11_proves_7 11 rfl) rfl
theorem tcX11_proves_8 : (cX11_proves.data.toList.drop 96).take 12 = [180, 0, 210, 182, 1, 86, 182, 0, 115, 172] := by decide +kernel
theorem dX11_proves_96 : decode cX11_proves 96 = .ok (.getfield 210, 3) := dk_1180 (dk_g tcX11_proves_8 0 rfl) (dk_g tcX11_proves_8 1 rfl) (dk_g tcX11_proves_8 2 rfl) rfl
theorem dX11_proves_99 : decode cX11_proves 99 = .ok (.invokevirtual 342, 3) := dk_1182 (dk_g tcX11_proves_8 3 rfl) (dk_g tcX11_proves_8 4 rfl) (dk_g tcX11_proves_8 5 rfl) rfl
theorem dX11_proves_102 : decode cX11_proves 102 = .ok (.invokevirtual 115, 3) := dk_1182 (dk_g tcX11_proves_8 6 rfl) (dk_g tcX11_proves_8 7 rfl) (dk_g tcX11_proves_8 8 rfl) rfl
theorem dX11_proves_105 : decode cX11_proves 105 = .ok (.ireturn, 1) := dk_1172 (dk_g tcX11_proves_8 9 rfl)
theorem tcX11_longest_0 : (cX11_longest.data.toList.drop 0).take 12 = [27, 4, 161, 0, 19, 27, 17, 2, 0, 163, 0, 12] := by decide +kernel
theorem dX11_longest_0 : decode cX11_longest 0 = .ok (.iload_n 1, 1) := dk_1027 (dk_g tcX11_longest_0 0 rfl)
theorem dX11_longest_1 : decode cX11_longest 1 = .ok (.iconst 1, 1) := dk_1004 (dk_g tcX11_longest_0 1 rfl)
theorem dX11_longest_2 : decode cX11_longest 2 = .ok (.if_icmp .lt 19, 3) := dk_2161 (dk_g tcX11_longest_0 2 rfl) (dk_g tcX11_longest_0 3 rfl) (dk_g tcX11_longest_0 4 rfl) rfl rfl
theorem dX11_longest_5 : decode cX11_longest 5 = .ok (.iload_n 1, 1) := dk_1027 (dk_g tcX11_longest_0 5 rfl)
theorem dX11_longest_6 : decode cX11_longest 6 = .ok (.sipush 512, 3) := dk_2017 (dk_g tcX11_longest_0 6 rfl) (dk_g tcX11_longest_0 7 rfl) (dk_g tcX11_longest_0 8 rfl) rfl rfl
theorem dX11_longest_9 : decode cX11_longest 9 = .ok (.if_icmp .gt 12, 3) := dk_2163 (dk_g tcX11_longest_0 9 rfl) (dk_g tcX11_longest_0 10 rfl) (dk_g tcX11_longest_0 11 rfl) rfl rfl
theorem tcX11_longest_1 : (cX11_longest.data.toList.drop 12).take 12 = [28, 155, 0, 8, 28, 5, 164, 0, 9, 42, 4, 182] := by decide +kernel
theorem dX11_longest_12 : decode cX11_longest 12 = .ok (.iload_n 2, 1) := dk_1028 (dk_g tcX11_longest_1 0 rfl)
theorem dX11_longest_13 : decode cX11_longest 13 = .ok (.ifCond .lt 8, 3) := dk_2155 (dk_g tcX11_longest_1 1 rfl) (dk_g tcX11_longest_1 2 rfl) (dk_g tcX11_longest_1 3 rfl) rfl rfl
theorem dX11_longest_16 : decode cX11_longest 16 = .ok (.iload_n 2, 1) := dk_1028 (dk_g tcX11_longest_1 4 rfl)
theorem dX11_longest_17 : decode cX11_longest 17 = .ok (.iconst 2, 1) := dk_1005 (dk_g tcX11_longest_1 5 rfl)
theorem dX11_longest_18 : decode cX11_longest 18 = .ok (.if_icmp .le 9, 3) := dk_2164 (dk_g tcX11_longest_1 6 rfl) (dk_g tcX11_longest_1 7 rfl) (dk_g tcX11_longest_1 8 rfl) rfl rfl
theorem dX11_longest_21 : decode cX11_longest 21 = .ok (.aload_n 0, 1) := dk_1042 (dk_g tcX11_longest_1 9 rfl)
theorem dX11_longest_22 : decode cX11_longest 22 = .ok (.iconst 1, 1) := dk_1004 (dk_g tcX11_longest_1 10 rfl)
theorem tcX11_longest_2 : (cX11_longest.data.toList.drop 24).take 12 = [0, 98, 172, 3, 62, 3, 54, 4, 3, 54, 5, 3] := by decide +kernel
theorem dX11_longest_23 : decode cX11_longest 23 = .ok (.invokevirtual 98, 3) := dk_1182 (dk_g tcX11_longest_1 11 rfl) (dk_g tcX11_longest_2 0 rfl) (dk_g tcX11_longest_2 1 rfl) rfl
theorem dX11_longest_26 : decode cX11_longest 26 = .ok (.ireturn, 1) := dk_1172 (dk_g tcX11_longest_2 2 rfl)
theorem dX11_longest_27 : decode cX11_longest 27 = .ok (.iconst 0, 1) := dk_1003 (dk_g tcX11_longest_2 3 rfl)
theorem dX11_longest_28 : decode cX11_longest 28 = .ok (.istore_n 3, 1) := dk_1062 (dk_g tcX11_longest_2 4 rfl)
theorem dX11_longest_29 : decode cX11_longest 29 = .ok (.iconst 0, 1) := dk_1003 (dk_g tcX11_longest_2 5 rfl)
theorem dX11_longest_30 : decode cX11_longest 30 = .ok (.istore 4, 2) := dk_1054 (dk_g tcX11_longest_2 6 rfl) (dk_g tcX11_longest_2 7 rfl) rfl
theorem dX11_longest_32 : decode cX11_longest 32 = .ok (.iconst 0, 1) := dk_1003 (dk_g tcX11_longest_2 8 rfl)
theorem dX11_longest_33 : decode cX11_longest 33 = .ok (.istore 5, 2) := dk_1054 (dk_g tcX11_longest_2 9 rfl) (dk_g tcX11_longest_2 10 rfl) rfl
theorem dX11_longest_35 : decode cX11_longest 35 = .ok (.iconst 0, 1) := dk_1003 (dk_g tcX11_longest_2 11 rfl)
theorem tcX11_longest_3 : (cX11_longest.data.toList.drop 36).take 12 = [54, 6, 21, 6, 27, 162, 0, 54, 42, 180, 0, 62] := by decide +kernel
theorem dX11_longest_36 : decode cX11_longest 36 = .ok (.istore 6, 2) := dk_1054 (dk_g tcX11_longest_3 0 rfl) (dk_g tcX11_longest_3 1 rfl) rfl
theorem dX11_longest_38 : decode cX11_longest 38 = .ok (.iload 6, 2) := dk_1021 (dk_g tcX11_longest_3 2 rfl) (dk_g tcX11_longest_3 3 rfl) rfl
theorem dX11_longest_40 : decode cX11_longest 40 = .ok (.iload_n 1, 1) := dk_1027 (dk_g tcX11_longest_3 4 rfl)
theorem dX11_longest_41 : decode cX11_longest 41 = .ok (.if_icmp .ge 54, 3) := dk_2162 (dk_g tcX11_longest_3 5 rfl) (dk_g tcX11_longest_3 6 rfl) (dk_g tcX11_longest_3 7 rfl) rfl rfl
theorem dX11_longest_44 : decode cX11_longest 44 = .ok (.aload_n 0, 1) := dk_1042 (dk_g tcX11_longest_3 8 rfl)
theorem dX11_longest_45 : decode cX11_longest 45 = .ok (.getfield 62, 3) := dk_1180 (dk_g tcX11_longest_3 9 rfl) (dk_g tcX11_longest_3 10 rfl) (dk_g tcX11_longest_3 11 rfl) rfl
theorem tcX11_longest_4 : (cX11_longest.data.toList.drop 48).take 12 = [21, 6, 27, 182, 1, 11, 21, 5, 42, 180, 0, 62] := by decide +kernel
theorem dX11_longest_48 : decode cX11_longest 48 = .ok (.iload 6, 2) := dk_1021 (dk_g tcX11_longest_4 0 rfl) (dk_g tcX11_longest_4 1 rfl) rfl
theorem dX11_longest_50 : decode cX11_longest 50 = .ok (.iload_n 1, 1) := dk_1027 (dk_g tcX11_longest_4 2 rfl)
theorem dX11_longest_51 : decode cX11_longest 51 = .ok (.invokevirtual 267, 3) := dk_1182 (dk_g tcX11_longest_4 3 rfl) (dk_g tcX11_longest_4 4 rfl) (dk_g tcX11_longest_4 5 rfl) rfl
theorem dX11_longest_54 : decode cX11_longest 54 = .ok (.iload 5, 2) := dk_1021 (dk_g tcX11_longest_4 6 rfl) (dk_g tcX11_longest_4 7 rfl) rfl
theorem dX11_longest_56 : decode cX11_longest 56 = .ok (.aload_n 0, 1) := dk_1042 (dk_g tcX11_longest_4 8 rfl)
theorem dX11_longest_57 : decode cX11_longest 57 = .ok (.getfield 62, 3) := dk_1180 (dk_g tcX11_longest_4 9 rfl) (dk_g tcX11_longest_4 10 rfl) (dk_g tcX11_longest_4 11 rfl) rfl
theorem tcX11_longest_5 : (cX11_longest.data.toList.drop 60).take 12 = [180, 1, 56, 96, 54, 5, 42, 180, 0, 62, 180, 1] := by decide +kernel
theorem dX11_longest_60 : decode cX11_longest 60 = .ok (.getfield 312, 3) := dk_1180 (dk_g tcX11_longest_5 0 rfl) (dk_g tcX11_longest_5 1 rfl) (dk_g tcX11_longest_5 2 rfl) rfl
theorem dX11_longest_63 : decode cX11_longest 63 = .ok (.iadd, 1) := dk_1096 (dk_g tcX11_longest_5 3 rfl)
theorem dX11_longest_64 : decode cX11_longest 64 = .ok (.istore 5, 2) := dk_1054 (dk_g tcX11_longest_5 4 rfl) (dk_g tcX11_longest_5 5 rfl) rfl
theorem dX11_longest_66 : decode cX11_longest 66 = .ok (.aload_n 0, 1) := dk_1042 (dk_g tcX11_longest_5 6 rfl)
theorem dX11_longest_67 : decode cX11_longest 67 = .ok (.getfield 62, 3) := dk_1180 (dk_g tcX11_longest_5 7 rfl) (dk_g tcX11_longest_5 8 rfl) (dk_g tcX11_longest_5 9 rfl) rfl
theorem tcX11_longest_6 : (cX11_longest.data.toList.drop 72).take 12 = [56, 29, 164, 0, 15, 42, 180, 0, 62, 180, 1, 56] := by decide +kernel
theorem dX11_longest_70 : decode cX11_longest 70 = .ok (.getfield 312, 3) := dk_1180 (dk_g tcX11_longest_5 10 rfl) (dk_g tcX11_longest_5 11 rfl) (dk_g tcX11_longest_6 0 rfl) rfl
theorem dX11_longest_73 : decode cX11_longest 73 = .ok (.iload_n 3, 1) := dk_1029 (dk_g tcX11_longest_6 1 rfl)
theorem dX11_longest_74 : decode cX11_longest 74 = .ok (.if_icmp .le 15, 3) := dk_2164 (dk_g tcX11_longest_6 2 rfl) (dk_g tcX11_longest_6 3 rfl) (dk_g tcX11_longest_6 4 rfl) rfl rfl
theorem dX11_longest_77 : decode cX11_longest 77 = .ok (.aload_n 0, 1) := dk_1042 (dk_g tcX11_longest_6 5 rfl)
theorem dX11_longest_78 : decode cX11_longest 78 = .ok (.getfield 62, 3) := dk_1180 (dk_g tcX11_longest_6 6 rfl) (dk_g tcX11_longest_6 7 rfl) (dk_g tcX11_longest_6 8 rfl) rfl
theorem dX11_longest_81 : decode cX11_longest 81 = .ok (.getfield 312, 3) := dk_1180 (dk_g tcX11_longest_6 9 rfl) (dk_g tcX11_longest_6 10 rfl) (dk_g tcX11_longest_6 11 rfl) rfl
theorem tcX11_longest_7 : (cX11_longest.data.toList.drop 84).take 12 = [62, 21, 6, 54, 4, 132, 6, 1, 167, 255, 202, 28] := by decide +kernel
theorem dX11_longest_84 : decode cX11_longest 84 = .ok (.istore_n 3, 1) := dk_1062 (dk_g tcX11_longest_7 0 rfl)
theorem dX11_longest_85 : decode cX11_longest 85 = .ok (.iload 6, 2) := dk_1021 (dk_g tcX11_longest_7 1 rfl) (dk_g tcX11_longest_7 2 rfl) rfl
theorem dX11_longest_87 : decode cX11_longest 87 = .ok (.istore 4, 2) := dk_1054 (dk_g tcX11_longest_7 3 rfl) (dk_g tcX11_longest_7 4 rfl) rfl
theorem dX11_longest_89 : decode cX11_longest 89 = .ok (.iinc 6 1, 3) := dk_1132 (dk_g tcX11_longest_7 5 rfl) (dk_g tcX11_longest_7 6 rfl) (dk_g tcX11_longest_7 7 rfl) rfl (by decide +kernel)
theorem dX11_longest_92 : decode cX11_longest 92 = .ok (.goto (-54), 3) := dk_1167 (dk_g tcX11_longest_7 8 rfl) (dk_g tcX11_longest_7 9 rfl) (dk_g tcX11_longest_7 10 rfl) (by decide +kernel)
theorem dX11_longest_95 : decode cX11_longest 95 = .ok (.iload_n 2, 1) := dk_1028 (dk_g tcX11_longest_7 11 rfl)
theorem tcX11_longest_8 : (cX11_longest.data.toList.drop 96).take 12 = [154, 0, 9, 42, 29, 182, 0, 115, 172, 42, 28, 4] := by decide +kernel
theorem dX11_longest_96 : decode cX11_longest 96 = .ok (.ifCond .ne 9, 3) := dk_2154 (dk_g tcX11_longest_8 0 rfl) (dk_g tcX11_longest_8 1 rfl) (dk_g tcX11_longest_8 2 rfl) rfl rfl
theorem dX11_longest_99 : decode cX11_longest 99 = .ok (.aload_n 0, 1) := dk_1042 (dk_g tcX11_longest_8 3 rfl)
theorem dX11_longest_100 : decode cX11_longest 100 = .ok (.iload_n 3, 1) := dk_1029 (dk_g tcX11_longest_8 4 rfl)
theorem dX11_longest_101 : decode cX11_longest 101 = .ok (.invokevirtual 115, 3) := dk_1182 (dk_g tcX11_longest_8 5 rfl) (dk_g tcX11_longest_8 6 rfl) (dk_g tcX11_longest_8 7 rfl) rfl
theorem dX11_longest_104 : decode cX11_longest 104 = .ok (.ireturn, 1) := dk_1172 (dk_g tcX11_longest_8 8 rfl)
theorem dX11_longest_105 : decode cX11_longest 105 = .ok (.aload_n 0, 1) := dk_1042 (dk_g tcX11_longest_8 9 rfl)
theorem dX11_longest_106 : decode cX11_longest 106 = .ok (.iload_n 2, 1) := dk_1028 (dk_g tcX11_longest_8 10 rfl)
theorem dX11_longest_107 : decode cX11_longest 107 = .ok (.iconst 1, 1) := dk_1004 (dk_g tcX11_longest_8 11 rfl)
theorem tcX11_longest_9 : (cX11_longest.data.toList.drop 108).take 12 = [160, 0, 8, 21, 4, 167, 0, 5, 21, 5, 182, 0] := by decide +kernel
theorem dX11_longest_108 : decode cX11_longest 108 = .ok (.if_icmp .ne 8, 3) := dk_2160 (dk_g tcX11_longest_9 0 rfl) (dk_g tcX11_longest_9 1 rfl) (dk_g tcX11_longest_9 2 rfl) rfl rfl
theorem dX11_longest_111 : decode cX11_longest 111 = .ok (.iload 4, 2) := dk_1021 (dk_g tcX11_longest_9 3 rfl) (dk_g tcX11_longest_9 4 rfl) rfl
theorem dX11_longest_113 : decode cX11_longest 113 = .ok (.goto 5, 3) := dk_2167 (dk_g tcX11_longest_9 5 rfl) (dk_g tcX11_longest_9 6 rfl) (dk_g tcX11_longest_9 7 rfl) rfl rfl
theorem dX11_longest_116 : decode cX11_longest 116 = .ok (.iload 5, 2) := dk_1021 (dk_g tcX11_longest_9 8 rfl) (dk_g tcX11_longest_9 9 rfl) rfl
theorem tcX11_longest_10 : (cX11_longest.data.toList.drop 120).take 12 = [115, 172] := by decide +kernel
theorem dX11_longest_118 : decode cX11_longest 118 = .ok (.invokevirtual 115, 3) := dk_1182 (dk_g tcX11_longest_9 10 rfl) (dk_g tcX11_longest_9 11 rfl) (dk_g tcX11_longest_10 0 rfl) rfl
theorem dX11_longest_121 : decode cX11_longest 121 = .ok (.ireturn, 1) := dk_1172 (dk_g tcX11_longest_10 1 rfl)
theorem tcX11_part_0 : (cX11_part.data.toList.drop 0).take 12 = [29, 155, 0, 8, 29, 4, 164, 0, 9, 42, 4, 182] := by decide +kernel
theorem dX11_part_0 : decode cX11_part 0 = .ok (.iload_n 3, 1) := dk_1029 (dk_g tcX11_part_0 0 rfl)
theorem dX11_part_1 : decode cX11_part 1 = .ok (.ifCond .lt 8, 3) := dk_2155 (dk_g tcX11_part_0 1 rfl) (dk_g tcX11_part_0 2 rfl) (dk_g tcX11_part_0 3 rfl) rfl rfl
theorem dX11_part_4 : decode cX11_part 4 = .ok (.iload_n 3, 1) := dk_1029 (dk_g tcX11_part_0 4 rfl)
theorem dX11_part_5 : decode cX11_part 5 = .ok (.iconst 1, 1) := dk_1004 (dk_g tcX11_part_0 5 rfl)
theorem dX11_part_6 : decode cX11_part 6 = .ok (.if_icmp .le 9, 3) := dk_2164 (dk_g tcX11_part_0 6 rfl) (dk_g tcX11_part_0 7 rfl) (dk_g tcX11_part_0 8 rfl) rfl rfl
theorem dX11_part_9 : decode cX11_part 9 = .ok (.aload_n 0, 1) := dk_1042 (dk_g tcX11_part_0 9 rfl)
theorem dX11_part_10 : decode cX11_part 10 = .ok (.iconst 1, 1) := dk_1004 (dk_g tcX11_part_0 10 rfl)
theorem tcX11_part_1 : (cX11_part.data.toList.drop 12).take 12 = [0, 98, 172, 42, 180, 0, 16, 27, 182, 0, 163, 58] := by decide +kernel
theorem dX11_part_11 : decode cX11_part 11 = .ok (.invokevirtual 98, 3) := dk_1182 (dk_g tcX11_part_0 11 rfl) (dk_g tcX11_part_1 0 rfl) (dk_g tcX11_part_1 1 rfl) rfl
theorem dX11_part_14 : decode cX11_part 14 = .ok (.ireturn, 1) := dk_1172 (dk_g tcX11_part_1 2 rfl)
theorem dX11_part_15 : decode cX11_part 15 = .ok (.aload_n 0, 1) := dk_1042 (dk_g tcX11_part_1 3 rfl)
theorem dX11_part_16 : decode cX11_part 16 = .ok (.getfield 16, 3) := dk_1180 (dk_g tcX11_part_1 4 rfl) (dk_g tcX11_part_1 5 rfl) (dk_g tcX11_part_1 6 rfl) rfl
theorem dX11_part_19 : decode cX11_part 19 = .ok (.iload_n 1, 1) := dk_1027 (dk_g tcX11_part_1 7 rfl)
theorem dX11_part_20 : decode cX11_part 20 = .ok (.invokevirtual 163, 3) := dk_1182 (dk_g tcX11_part_1 8 rfl) (dk_g tcX11_part_1 9 rfl) (dk_g tcX11_part_1 10 rfl) rfl
theorem tcX11_part_2 : (cX11_part.data.toList.drop 24).take 12 = [4, 42, 180, 0, 16, 28, 182, 0, 163, 58, 5, 25] := by decide +kernel
theorem dX11_part_23 : decode cX11_part 23 = .ok (.astore 4, 2) := dk_1058 (dk_g tcX11_part_1 11 rfl) (dk_g tcX11_part_2 0 rfl) rfl
theorem dX11_part_25 : decode cX11_part 25 = .ok (.aload_n 0, 1) := dk_1042 (dk_g tcX11_part_2 1 rfl)
theorem dX11_part_26 : decode cX11_part 26 = .ok (.getfield 16, 3) := dk_1180 (dk_g tcX11_part_2 2 rfl) (dk_g tcX11_part_2 3 rfl) (dk_g tcX11_part_2 4 rfl) rfl
theorem dX11_part_29 : decode cX11_part 29 = .ok (.iload_n 2, 1) := dk_1028 (dk_g tcX11_part_2 5 rfl)
theorem dX11_part_30 : decode cX11_part 30 = .ok (.invokevirtual 163, 3) := dk_1182 (dk_g tcX11_part_2 6 rfl) (dk_g tcX11_part_2 7 rfl) (dk_g tcX11_part_2 8 rfl) rfl
theorem dX11_part_33 : decode cX11_part 33 = .ok (.astore 5, 2) := dk_1058 (dk_g tcX11_part_2 9 rfl) (dk_g tcX11_part_2 10 rfl) rfl
theorem tcX11_part_3 : (cX11_part.data.toList.drop 36).take 12 = [4, 198, 0, 8, 25, 5, 199, 0, 9, 42, 5, 182] := by decide +kernel
theorem dX11_part_35 : decode cX11_part 35 = .ok (.aload 4, 2) := dk_1025 (dk_g tcX11_part_2 11 rfl) (dk_g tcX11_part_3 0 rfl) rfl
theorem dX11_part_37 : decode cX11_part 37 = .ok (.ifnull 8, 3) := dk_2198 (dk_g tcX11_part_3 1 rfl) (dk_g tcX11_part_3 2 rfl) (dk_g tcX11_part_3 3 rfl) rfl rfl
theorem dX11_part_40 : decode cX11_part 40 = .ok (.aload 5, 2) := dk_1025 (dk_g tcX11_part_3 4 rfl) (dk_g tcX11_part_3 5 rfl) rfl
theorem dX11_part_42 : decode cX11_part 42 = .ok (.ifnonnull 9, 3) := dk_2199 (dk_g tcX11_part_3 6 rfl) (dk_g tcX11_part_3 7 rfl) (dk_g tcX11_part_3 8 rfl) rfl rfl
theorem dX11_part_45 : decode cX11_part 45 = .ok (.aload_n 0, 1) := dk_1042 (dk_g tcX11_part_3 9 rfl)
theorem dX11_part_46 : decode cX11_part 46 = .ok (.iconst 2, 1) := dk_1005 (dk_g tcX11_part_3 10 rfl)
theorem tcX11_part_4 : (cX11_part.data.toList.drop 48).take 12 = [0, 98, 172, 42, 29, 154, 0, 17, 42, 180, 0, 16] := by decide +kernel
theorem dX11_part_47 : decode cX11_part 47 = .ok (.invokevirtual 98, 3) := dk_1182 (dk_g tcX11_part_3 11 rfl) (dk_g tcX11_part_4 0 rfl) (dk_g tcX11_part_4 1 rfl) rfl
theorem dX11_part_50 : decode cX11_part 50 = .ok (.ireturn, 1) := dk_1172 (dk_g tcX11_part_4 2 rfl)
theorem dX11_part_51 : decode cX11_part 51 = .ok (.aload_n 0, 1) := dk_1042 (dk_g tcX11_part_4 3 rfl)
theorem dX11_part_52 : decode cX11_part 52 = .ok (.iload_n 3, 1) := dk_1029 (dk_g tcX11_part_4 4 rfl)
theorem dX11_part_53 : decode cX11_part 53 = .ok (.ifCond .ne 17, 3) := dk_2154 (dk_g tcX11_part_4 5 rfl) (dk_g tcX11_part_4 6 rfl) (dk_g tcX11_part_4 7 rfl) rfl rfl
theorem dX11_part_56 : decode cX11_part 56 = .ok (.aload_n 0, 1) := dk_1042 (dk_g tcX11_part_4 8 rfl)
theorem dX11_part_57 : decode cX11_part 57 = .ok (.getfield 16, 3) := dk_1180 (dk_g tcX11_part_4 9 rfl) (dk_g tcX11_part_4 10 rfl) (dk_g tcX11_part_4 11 rfl) rfl
theorem tcX11_part_5 : (cX11_part.data.toList.drop 60).take 12 = [25, 4, 25, 5, 182, 1, 90, 167, 0, 14, 42, 180] := by decide +kernel
theorem dX11_part_60 : decode cX11_part 60 = .ok (.aload 4, 2) := dk_1025 (dk_g tcX11_part_5 0 rfl) (dk_g tcX11_part_5 1 rfl) rfl
theorem dX11_part_62 : decode cX11_part 62 = .ok (.aload 5, 2) := dk_1025 (dk_g tcX11_part_5 2 rfl) (dk_g tcX11_part_5 3 rfl) rfl
theorem dX11_part_64 : decode cX11_part 64 = .ok (.invokevirtual 346, 3) := dk_1182 (dk_g tcX11_part_5 4 rfl) (dk_g tcX11_part_5 5 rfl) (dk_g tcX11_part_5 6 rfl) rfl
theorem dX11_part_67 : decode cX11_part 67 = .ok (.goto 14, 3) := dk_2167 (dk_g tcX11_part_5 7 rfl) (dk_g tcX11_part_5 8 rfl) (dk_g tcX11_part_5 9 rfl) rfl rfl
theorem dX11_part_70 : decode cX11_part 70 = .ok (.aload_n 0, 1) := dk_1042 (dk_g tcX11_part_5 10 rfl)
theorem tcX11_part_6 : (cX11_part.data.toList.drop 72).take 12 = [0, 16, 25, 4, 25, 5, 182, 1, 94, 182, 0, 115] := by decide +kernel
theorem dX11_part_71 : decode cX11_part 71 = .ok (.getfield 16, 3) := dk_1180 (dk_g tcX11_part_5 11 rfl) (dk_g tcX11_part_6 0 rfl) (dk_g tcX11_part_6 1 rfl) rfl
theorem dX11_part_74 : decode cX11_part 74 = .ok (.aload 4, 2) := dk_1025 (dk_g tcX11_part_6 2 rfl) (dk_g tcX11_part_6 3 rfl) rfl
theorem dX11_part_76 : decode cX11_part 76 = .ok (.aload 5, 2) := dk_1025 (dk_g tcX11_part_6 4 rfl) (dk_g tcX11_part_6 5 rfl) rfl
theorem dX11_part_78 : decode cX11_part 78 = .ok (.invokevirtual 350, 3) := dk_1182 (dk_g tcX11_part_6 6 rfl) (dk_g tcX11_part_6 7 rfl) (dk_g tcX11_part_6 8 rfl) rfl
theorem dX11_part_81 : decode cX11_part 81 = .ok (.invokevirtual 115, 3) := dk_1182 (dk_g tcX11_part_6 9 rfl) (dk_g tcX11_part_6 10 rfl) (dk_g tcX11_part_6 11 rfl) rfl
theorem tcX11_part_7 : (cX11_part.data.toList.drop 84).take 12 = [172] := by decide +kernel
theorem dX11_part_84 : decode cX11_part 84 = .ok (.ireturn, 1) := dk_1172 (dk_g tcX11_part_7 0 rfl)
theorem tcX11_blame_0 : (cX11_blame.data.toList.drop 0).take 12 = [28, 155, 0, 8, 28, 5, 164, 0, 9, 42, 4, 182] := by decide +kernel
theorem dX11_blame_0 : decode cX11_blame 0 = .ok (.iload_n 2, 1) := dk_1028 (dk_g tcX11_blame_0 0 rfl)
theorem dX11_blame_1 : decode cX11_blame 1 = .ok (.ifCond .lt 8, 3) := dk_2155 (dk_g tcX11_blame_0 1 rfl) (dk_g tcX11_blame_0 2 rfl) (dk_g tcX11_blame_0 3 rfl) rfl rfl
theorem dX11_blame_4 : decode cX11_blame 4 = .ok (.iload_n 2, 1) := dk_1028 (dk_g tcX11_blame_0 4 rfl)
theorem dX11_blame_5 : decode cX11_blame 5 = .ok (.iconst 2, 1) := dk_1005 (dk_g tcX11_blame_0 5 rfl)
theorem dX11_blame_6 : decode cX11_blame 6 = .ok (.if_icmp .le 9, 3) := dk_2164 (dk_g tcX11_blame_0 6 rfl) (dk_g tcX11_blame_0 7 rfl) (dk_g tcX11_blame_0 8 rfl) rfl rfl
theorem dX11_blame_9 : decode cX11_blame 9 = .ok (.aload_n 0, 1) := dk_1042 (dk_g tcX11_blame_0 9 rfl)
theorem dX11_blame_10 : decode cX11_blame 10 = .ok (.iconst 1, 1) := dk_1004 (dk_g tcX11_blame_0 10 rfl)
theorem tcX11_blame_1 : (cX11_blame.data.toList.drop 12).take 12 = [0, 98, 172, 42, 180, 0, 16, 27, 182, 0, 163, 199] := by decide +kernel
theorem dX11_blame_11 : decode cX11_blame 11 = .ok (.invokevirtual 98, 3) := dk_1182 (dk_g tcX11_blame_0 11 rfl) (dk_g tcX11_blame_1 0 rfl) (dk_g tcX11_blame_1 1 rfl) rfl
theorem dX11_blame_14 : decode cX11_blame 14 = .ok (.ireturn, 1) := dk_1172 (dk_g tcX11_blame_1 2 rfl)
theorem dX11_blame_15 : decode cX11_blame 15 = .ok (.aload_n 0, 1) := dk_1042 (dk_g tcX11_blame_1 3 rfl)
theorem dX11_blame_16 : decode cX11_blame 16 = .ok (.getfield 16, 3) := dk_1180 (dk_g tcX11_blame_1 4 rfl) (dk_g tcX11_blame_1 5 rfl) (dk_g tcX11_blame_1 6 rfl) rfl
theorem dX11_blame_19 : decode cX11_blame 19 = .ok (.iload_n 1, 1) := dk_1027 (dk_g tcX11_blame_1 7 rfl)
theorem dX11_blame_20 : decode cX11_blame 20 = .ok (.invokevirtual 163, 3) := dk_1182 (dk_g tcX11_blame_1 8 rfl) (dk_g tcX11_blame_1 9 rfl) (dk_g tcX11_blame_1 10 rfl) rfl
theorem tcX11_blame_2 : (cX11_blame.data.toList.drop 24).take 12 = [0, 9, 42, 5, 182, 0, 98, 172, 28, 5, 160, 0] := by decide +kernel
theorem dX11_blame_23 : decode cX11_blame 23 = .ok (.ifnonnull 9, 3) := dk_2199 (dk_g tcX11_blame_1 11 rfl) (dk_g tcX11_blame_2 0 rfl) (dk_g tcX11_blame_2 1 rfl) rfl rfl
theorem dX11_blame_26 : decode cX11_blame 26 = .ok (.aload_n 0, 1) := dk_1042 (dk_g tcX11_blame_2 2 rfl)
theorem dX11_blame_27 : decode cX11_blame 27 = .ok (.iconst 2, 1) := dk_1005 (dk_g tcX11_blame_2 3 rfl)
theorem dX11_blame_28 : decode cX11_blame 28 = .ok (.invokevirtual 98, 3) := dk_1182 (dk_g tcX11_blame_2 4 rfl) (dk_g tcX11_blame_2 5 rfl) (dk_g tcX11_blame_2 6 rfl) rfl
theorem dX11_blame_31 : decode cX11_blame 31 = .ok (.ireturn, 1) := dk_1172 (dk_g tcX11_blame_2 7 rfl)
theorem dX11_blame_32 : decode cX11_blame 32 = .ok (.iload_n 2, 1) := dk_1028 (dk_g tcX11_blame_2 8 rfl)
theorem dX11_blame_33 : decode cX11_blame 33 = .ok (.iconst 2, 1) := dk_1005 (dk_g tcX11_blame_2 9 rfl)
theorem tcX11_blame_3 : (cX11_blame.data.toList.drop 36).take 12 = [16, 42, 42, 180, 0, 16, 27, 182, 1, 97, 182, 0] := by decide +kernel
theorem dX11_blame_34 : decode cX11_blame 34 = .ok (.if_icmp .ne 16, 3) := dk_2160 (dk_g tcX11_blame_2 10 rfl) (dk_g tcX11_blame_2 11 rfl) (dk_g tcX11_blame_3 0 rfl) rfl rfl
theorem dX11_blame_37 : decode cX11_blame 37 = .ok (.aload_n 0, 1) := dk_1042 (dk_g tcX11_blame_3 1 rfl)
theorem dX11_blame_38 : decode cX11_blame 38 = .ok (.aload_n 0, 1) := dk_1042 (dk_g tcX11_blame_3 2 rfl)
theorem dX11_blame_39 : decode cX11_blame 39 = .ok (.getfield 16, 3) := dk_1180 (dk_g tcX11_blame_3 3 rfl) (dk_g tcX11_blame_3 4 rfl) (dk_g tcX11_blame_3 5 rfl) rfl
theorem dX11_blame_42 : decode cX11_blame 42 = .ok (.iload_n 1, 1) := dk_1027 (dk_g tcX11_blame_3 6 rfl)
theorem dX11_blame_43 : decode cX11_blame 43 = .ok (.invokevirtual 353, 3) := dk_1182 (dk_g tcX11_blame_3 7 rfl) (dk_g tcX11_blame_3 8 rfl) (dk_g tcX11_blame_3 9 rfl) rfl
theorem tcX11_blame_4 : (cX11_blame.data.toList.drop 48).take 12 = [115, 172, 42, 180, 0, 16, 27, 182, 1, 100, 62, 42] := by decide +kernel
theorem dX11_blame_46 : decode cX11_blame 46 = .ok (.invokevirtual 115, 3) := dk_1182 (dk_g tcX11_blame_3 10 rfl) (dk_g tcX11_blame_3 11 rfl) (dk_g tcX11_blame_4 0 rfl) rfl
theorem dX11_blame_49 : decode cX11_blame 49 = .ok (.ireturn, 1) := dk_1172 (dk_g tcX11_blame_4 1 rfl)
theorem dX11_blame_50 : decode cX11_blame 50 = .ok (.aload_n 0, 1) := dk_1042 (dk_g tcX11_blame_4 2 rfl)
theorem dX11_blame_51 : decode cX11_blame 51 = .ok (.getfield 16, 3) := dk_1180 (dk_g tcX11_blame_4 3 rfl) (dk_g tcX11_blame_4 4 rfl) (dk_g tcX11_blame_4 5 rfl) rfl
theorem dX11_blame_54 : decode cX11_blame 54 = .ok (.iload_n 1, 1) := dk_1027 (dk_g tcX11_blame_4 6 rfl)
theorem dX11_blame_55 : decode cX11_blame 55 = .ok (.invokevirtual 356, 3) := dk_1182 (dk_g tcX11_blame_4 7 rfl) (dk_g tcX11_blame_4 8 rfl) (dk_g tcX11_blame_4 9 rfl) rfl
theorem dX11_blame_58 : decode cX11_blame 58 = .ok (.istore_n 3, 1) := dk_1062 (dk_g tcX11_blame_4 10 rfl)
theorem dX11_blame_59 : decode cX11_blame 59 = .ok (.aload_n 0, 1) := dk_1042 (dk_g tcX11_blame_4 11 rfl)
theorem tcX11_blame_5 : (cX11_blame.data.toList.drop 60).take 12 = [28, 153, 0, 8, 29, 2, 160, 0, 7, 29, 167, 0] := by decide +kernel
theorem dX11_blame_60 : decode cX11_blame 60 = .ok (.iload_n 2, 1) := dk_1028 (dk_g tcX11_blame_5 0 rfl)
theorem dX11_blame_61 : decode cX11_blame 61 = .ok (.ifCond .eq 8, 3) := dk_2153 (dk_g tcX11_blame_5 1 rfl) (dk_g tcX11_blame_5 2 rfl) (dk_g tcX11_blame_5 3 rfl) rfl rfl
theorem dX11_blame_64 : decode cX11_blame 64 = .ok (.iload_n 3, 1) := dk_1029 (dk_g tcX11_blame_5 4 rfl)
theorem dX11_blame_65 : decode cX11_blame 65 = .ok (.iconst (-1), 1) := dk_1002 (dk_g tcX11_blame_5 5 rfl)
theorem dX11_blame_66 : decode cX11_blame 66 = .ok (.if_icmp .ne 7, 3) := dk_2160 (dk_g tcX11_blame_5 6 rfl) (dk_g tcX11_blame_5 7 rfl) (dk_g tcX11_blame_5 8 rfl) rfl rfl
theorem dX11_blame_69 : decode cX11_blame 69 = .ok (.iload_n 3, 1) := dk_1029 (dk_g tcX11_blame_5 9 rfl)
theorem tcX11_blame_6 : (cX11_blame.data.toList.drop 72).take 12 = [12, 42, 180, 0, 16, 27, 29, 182, 1, 103, 182, 0] := by decide +kernel
theorem dX11_blame_70 : decode cX11_blame 70 = .ok (.goto 12, 3) := dk_2167 (dk_g tcX11_blame_5 10 rfl) (dk_g tcX11_blame_5 11 rfl) (dk_g tcX11_blame_6 0 rfl) rfl rfl
theorem dX11_blame_73 : decode cX11_blame 73 = .ok (.aload_n 0, 1) := dk_1042 (dk_g tcX11_blame_6 1 rfl)
theorem dX11_blame_74 : decode cX11_blame 74 = .ok (.getfield 16, 3) := dk_1180 (dk_g tcX11_blame_6 2 rfl) (dk_g tcX11_blame_6 3 rfl) (dk_g tcX11_blame_6 4 rfl) rfl
theorem dX11_blame_77 : decode cX11_blame 77 = .ok (.iload_n 1, 1) := dk_1027 (dk_g tcX11_blame_6 5 rfl)
theorem dX11_blame_78 : decode cX11_blame 78 = .ok (.iload_n 3, 1) := dk_1029 (dk_g tcX11_blame_6 6 rfl)
theorem dX11_blame_79 : decode cX11_blame 79 = .ok (.invokevirtual 359, 3) := dk_1182 (dk_g tcX11_blame_6 7 rfl) (dk_g tcX11_blame_6 8 rfl) (dk_g tcX11_blame_6 9 rfl) rfl
theorem tcX11_blame_7 : (cX11_blame.data.toList.drop 84).take 12 = [115, 172] := by decide +kernel
theorem dX11_blame_82 : decode cX11_blame 82 = .ok (.invokevirtual 115, 3) := dk_1182 (dk_g tcX11_blame_6 10 rfl) (dk_g tcX11_blame_6 11 rfl) (dk_g tcX11_blame_7 0 rfl) rfl
theorem dX11_blame_85 : decode cX11_blame 85 = .ok (.ireturn, 1) := dk_1172 (dk_g tcX11_blame_7 1 rfl)
theorem tcX11_weak_0 : (cX11_weak.data.toList.drop 0).take 12 = [21, 4, 155, 0, 9, 21, 4, 4, 164, 0, 9, 42] := by decide +kernel
theorem dX11_weak_0 : decode cX11_weak 0 = .ok (.iload 4, 2) := dk_1021 (dk_g tcX11_weak_0 0 rfl) (dk_g tcX11_weak_0 1 rfl) rfl
theorem dX11_weak_2 : decode cX11_weak 2 = .ok (.ifCond .lt 9, 3) := dk_2155 (dk_g tcX11_weak_0 2 rfl) (dk_g tcX11_weak_0 3 rfl) (dk_g tcX11_weak_0 4 rfl) rfl rfl
theorem dX11_weak_5 : decode cX11_weak 5 = .ok (.iload 4, 2) := dk_1021 (dk_g tcX11_weak_0 5 rfl) (dk_g tcX11_weak_0 6 rfl) rfl
theorem dX11_weak_7 : decode cX11_weak 7 = .ok (.iconst 1, 1) := dk_1004 (dk_g tcX11_weak_0 7 rfl)
theorem dX11_weak_8 : decode cX11_weak 8 = .ok (.if_icmp .le 9, 3) := dk_2164 (dk_g tcX11_weak_0 8 rfl) (dk_g tcX11_weak_0 9 rfl) (dk_g tcX11_weak_0 10 rfl) rfl rfl
theorem dX11_weak_11 : decode cX11_weak 11 = .ok (.aload_n 0, 1) := dk_1042 (dk_g tcX11_weak_0 11 rfl)
theorem tcX11_weak_1 : (cX11_weak.data.toList.drop 12).take 12 = [4, 182, 0, 98, 172, 42, 180, 0, 16, 27, 182, 0] := by decide +kernel
theorem dX11_weak_12 : decode cX11_weak 12 = .ok (.iconst 1, 1) := dk_1004 (dk_g tcX11_weak_1 0 rfl)
theorem dX11_weak_13 : decode cX11_weak 13 = .ok (.invokevirtual 98, 3) := dk_1182 (dk_g tcX11_weak_1 1 rfl) (dk_g tcX11_weak_1 2 rfl) (dk_g tcX11_weak_1 3 rfl) rfl
theorem dX11_weak_16 : decode cX11_weak 16 = .ok (.ireturn, 1) := dk_1172 (dk_g tcX11_weak_1 4 rfl)
theorem dX11_weak_17 : decode cX11_weak 17 = .ok (.aload_n 0, 1) := dk_1042 (dk_g tcX11_weak_1 5 rfl)
theorem dX11_weak_18 : decode cX11_weak 18 = .ok (.getfield 16, 3) := dk_1180 (dk_g tcX11_weak_1 6 rfl) (dk_g tcX11_weak_1 7 rfl) (dk_g tcX11_weak_1 8 rfl) rfl
theorem dX11_weak_21 : decode cX11_weak 21 = .ok (.iload_n 1, 1) := dk_1027 (dk_g tcX11_weak_1 9 rfl)
theorem tcX11_weak_2 : (cX11_weak.data.toList.drop 24).take 12 = [163, 58, 5, 25, 5, 28, 29, 184, 1, 8, 54, 6] := by decide +kernel
theorem dX11_weak_22 : decode cX11_weak 22 = .ok (.invokevirtual 163, 3) := dk_1182 (dk_g tcX11_weak_1 10 rfl) (dk_g tcX11_weak_1 11 rfl) (dk_g tcX11_weak_2 0 rfl) rfl
theorem dX11_weak_25 : decode cX11_weak 25 = .ok (.astore 5, 2) := dk_1058 (dk_g tcX11_weak_2 1 rfl) (dk_g tcX11_weak_2 2 rfl) rfl
theorem dX11_weak_27 : decode cX11_weak 27 = .ok (.aload 5, 2) := dk_1025 (dk_g tcX11_weak_2 3 rfl) (dk_g tcX11_weak_2 4 rfl) rfl
theorem dX11_weak_29 : decode cX11_weak 29 = .ok (.iload_n 2, 1) := dk_1028 (dk_g tcX11_weak_2 5 rfl)
theorem dX11_weak_30 : decode cX11_weak 30 = .ok (.iload_n 3, 1) := dk_1029 (dk_g tcX11_weak_2 6 rfl)
theorem dX11_weak_31 : decode cX11_weak 31 = .ok (.invokestatic 264, 3) := dk_1184 (dk_g tcX11_weak_2 7 rfl) (dk_g tcX11_weak_2 8 rfl) (dk_g tcX11_weak_2 9 rfl) rfl
theorem dX11_weak_34 : decode cX11_weak 34 = .ok (.istore 6, 2) := dk_1054 (dk_g tcX11_weak_2 10 rfl) (dk_g tcX11_weak_2 11 rfl) rfl
theorem tcX11_weak_3 : (cX11_weak.data.toList.drop 36).take 12 = [21, 6, 154, 0, 8, 25, 5, 199, 0, 10, 42, 21] := by decide +kernel
theorem dX11_weak_36 : decode cX11_weak 36 = .ok (.iload 6, 2) := dk_1021 (dk_g tcX11_weak_3 0 rfl) (dk_g tcX11_weak_3 1 rfl) rfl
theorem dX11_weak_38 : decode cX11_weak 38 = .ok (.ifCond .ne 8, 3) := dk_2154 (dk_g tcX11_weak_3 2 rfl) (dk_g tcX11_weak_3 3 rfl) (dk_g tcX11_weak_3 4 rfl) rfl rfl
theorem dX11_weak_41 : decode cX11_weak 41 = .ok (.aload 5, 2) := dk_1025 (dk_g tcX11_weak_3 5 rfl) (dk_g tcX11_weak_3 6 rfl) rfl
theorem dX11_weak_43 : decode cX11_weak 43 = .ok (.ifnonnull 10, 3) := dk_2199 (dk_g tcX11_weak_3 7 rfl) (dk_g tcX11_weak_3 8 rfl) (dk_g tcX11_weak_3 9 rfl) rfl rfl
theorem dX11_weak_46 : decode cX11_weak 46 = .ok (.aload_n 0, 1) := dk_1042 (dk_g tcX11_weak_3 10 rfl)
theorem tcX11_weak_4 : (cX11_weak.data.toList.drop 48).take 12 = [6, 182, 0, 98, 172, 42, 180, 0, 62, 28, 29, 182] := by decide +kernel
theorem dX11_weak_47 : decode cX11_weak 47 = .ok (.iload 6, 2) := dk_1021 (dk_g tcX11_weak_3 11 rfl) (dk_g tcX11_weak_4 0 rfl) rfl
theorem dX11_weak_49 : decode cX11_weak 49 = .ok (.invokevirtual 98, 3) := dk_1182 (dk_g tcX11_weak_4 1 rfl) (dk_g tcX11_weak_4 2 rfl) (dk_g tcX11_weak_4 3 rfl) rfl
theorem dX11_weak_52 : decode cX11_weak 52 = .ok (.ireturn, 1) := dk_1172 (dk_g tcX11_weak_4 4 rfl)
theorem dX11_weak_53 : decode cX11_weak 53 = .ok (.aload_n 0, 1) := dk_1042 (dk_g tcX11_weak_4 5 rfl)
theorem dX11_weak_54 : decode cX11_weak 54 = .ok (.getfield 62, 3) := dk_1180 (dk_g tcX11_weak_4 6 rfl) (dk_g tcX11_weak_4 7 rfl) (dk_g tcX11_weak_4 8 rfl) rfl
theorem dX11_weak_57 : decode cX11_weak 57 = .ok (.iload_n 2, 1) := dk_1028 (dk_g tcX11_weak_4 9 rfl)
theorem dX11_weak_58 : decode cX11_weak 58 = .ok (.iload_n 3, 1) := dk_1029 (dk_g tcX11_weak_4 10 rfl)
theorem tcX11_weak_5 : (cX11_weak.data.toList.drop 60).take 12 = [1, 11, 42, 180, 0, 16, 42, 180, 0, 62, 25, 5] := by decide +kernel
theorem dX11_weak_59 : decode cX11_weak 59 = .ok (.invokevirtual 267, 3) := dk_1182 (dk_g tcX11_weak_4 11 rfl) (dk_g tcX11_weak_5 0 rfl) (dk_g tcX11_weak_5 1 rfl) rfl
theorem dX11_weak_62 : decode cX11_weak 62 = .ok (.aload_n 0, 1) := dk_1042 (dk_g tcX11_weak_5 2 rfl)
theorem dX11_weak_63 : decode cX11_weak 63 = .ok (.getfield 16, 3) := dk_1180 (dk_g tcX11_weak_5 3 rfl) (dk_g tcX11_weak_5 4 rfl) (dk_g tcX11_weak_5 5 rfl) rfl
theorem dX11_weak_66 : decode cX11_weak 66 = .ok (.aload_n 0, 1) := dk_1042 (dk_g tcX11_weak_5 6 rfl)
theorem dX11_weak_67 : decode cX11_weak 67 = .ok (.getfield 62, 3) := dk_1180 (dk_g tcX11_weak_5 7 rfl) (dk_g tcX11_weak_5 8 rfl) (dk_g tcX11_weak_5 9 rfl) rfl
theorem dX11_weak_70 : decode cX11_weak 70 = .ok (.aload 5, 2) := dk_1025 (dk_g tcX11_weak_5 10 rfl) (dk_g tcX11_weak_5 11 rfl) rfl
theorem tcX11_weak_6 : (cX11_weak.data.toList.drop 72).take 12 = [42, 180, 0, 69, 182, 1, 14, 42, 182, 1, 107, 58] := by decide +kernel
theorem dX11_weak_72 : decode cX11_weak 72 = .ok (.aload_n 0, 1) := dk_1042 (dk_g tcX11_weak_6 0 rfl)
theorem dX11_weak_73 : decode cX11_weak 73 = .ok (.getfield 69, 3) := dk_1180 (dk_g tcX11_weak_6 1 rfl) (dk_g tcX11_weak_6 2 rfl) (dk_g tcX11_weak_6 3 rfl) rfl
theorem dX11_weak_76 : decode cX11_weak 76 = .ok (.invokevirtual 270, 3) := dk_1182 (dk_g tcX11_weak_6 4 rfl) (dk_g tcX11_weak_6 5 rfl) (dk_g tcX11_weak_6 6 rfl) rfl
theorem dX11_weak_79 : decode cX11_weak 79 = .ok (.aload_n 0, 1) := dk_1042 (dk_g tcX11_weak_6 7 rfl)
theorem dX11_weak_80 : decode cX11_weak 80 = .ok (.invokevirtual 363, 3) := dk_1182 (dk_g tcX11_weak_6 8 rfl) (dk_g tcX11_weak_6 9 rfl) (dk_g tcX11_weak_6 10 rfl) rfl
theorem tcX11_weak_7 : (cX11_weak.data.toList.drop 84).take 12 = [7, 25, 7, 42, 180, 0, 62, 42, 180, 0, 69, 25] := by decide +kernel
theorem dX11_weak_83 : decode cX11_weak 83 = .ok (.astore 7, 2) := dk_1058 (dk_g tcX11_weak_6 11 rfl) (dk_g tcX11_weak_7 0 rfl) rfl
theorem dX11_weak_85 : decode cX11_weak 85 = .ok (.aload 7, 2) := dk_1025 (dk_g tcX11_weak_7 1 rfl) (dk_g tcX11_weak_7 2 rfl) rfl
theorem dX11_weak_87 : decode cX11_weak 87 = .ok (.aload_n 0, 1) := dk_1042 (dk_g tcX11_weak_7 3 rfl)
theorem dX11_weak_88 : decode cX11_weak 88 = .ok (.getfield 62, 3) := dk_1180 (dk_g tcX11_weak_7 4 rfl) (dk_g tcX11_weak_7 5 rfl) (dk_g tcX11_weak_7 6 rfl) rfl
theorem dX11_weak_91 : decode cX11_weak 91 = .ok (.aload_n 0, 1) := dk_1042 (dk_g tcX11_weak_7 7 rfl)
theorem dX11_weak_92 : decode cX11_weak 92 = .ok (.getfield 69, 3) := dk_1180 (dk_g tcX11_weak_7 8 rfl) (dk_g tcX11_weak_7 9 rfl) (dk_g tcX11_weak_7 10 rfl) rfl
theorem tcX11_weak_8 : (cX11_weak.data.toList.drop 96).take 12 = [5, 28, 182, 0, 174, 42, 180, 0, 16, 25, 5, 29] := by decide +kernel
theorem dX11_weak_95 : decode cX11_weak 95 = .ok (.aload 5, 2) := dk_1025 (dk_g tcX11_weak_7 11 rfl) (dk_g tcX11_weak_8 0 rfl) rfl
theorem dX11_weak_97 : decode cX11_weak 97 = .ok (.iload_n 2, 1) := dk_1028 (dk_g tcX11_weak_8 1 rfl)
theorem dX11_weak_98 : decode cX11_weak 98 = .ok (.invokevirtual 174, 3) := dk_1182 (dk_g tcX11_weak_8 2 rfl) (dk_g tcX11_weak_8 3 rfl) (dk_g tcX11_weak_8 4 rfl) rfl
theorem dX11_weak_101 : decode cX11_weak 101 = .ok (.aload_n 0, 1) := dk_1042 (dk_g tcX11_weak_8 5 rfl)
theorem dX11_weak_102 : decode cX11_weak 102 = .ok (.getfield 16, 3) := dk_1180 (dk_g tcX11_weak_8 6 rfl) (dk_g tcX11_weak_8 7 rfl) (dk_g tcX11_weak_8 8 rfl) rfl
theorem dX11_weak_105 : decode cX11_weak 105 = .ok (.aload 5, 2) := dk_1025 (dk_g tcX11_weak_8 9 rfl) (dk_g tcX11_weak_8 10 rfl) rfl
theorem dX11_weak_107 : decode cX11_weak 107 = .ok (.iload_n 3, 1) := dk_1029 (dk_g tcX11_weak_8 11 rfl)
theorem tcX11_weak_9 : (cX11_weak.data.toList.drop 108).take 12 = [182, 0, 184, 182, 1, 111, 21, 4, 154, 0, 13, 42] := by decide +kernel
theorem dX11_weak_108 : decode cX11_weak 108 = .ok (.invokevirtual 184, 3) := dk_1182 (dk_g tcX11_weak_9 0 rfl) (dk_g tcX11_weak_9 1 rfl) (dk_g tcX11_weak_9 2 rfl) rfl
theorem dX11_weak_111 : decode cX11_weak 111 = .ok (.invokevirtual 367, 3) := dk_1182 (dk_g tcX11_weak_9 3 rfl) (dk_g tcX11_weak_9 4 rfl) (dk_g tcX11_weak_9 5 rfl) rfl
theorem dX11_weak_114 : decode cX11_weak 114 = .ok (.iload 4, 2) := dk_1021 (dk_g tcX11_weak_9 6 rfl) (dk_g tcX11_weak_9 7 rfl) rfl
theorem dX11_weak_116 : decode cX11_weak 116 = .ok (.ifCond .ne 13, 3) := dk_2154 (dk_g tcX11_weak_9 8 rfl) (dk_g tcX11_weak_9 9 rfl) (dk_g tcX11_weak_9 10 rfl) rfl rfl
theorem dX11_weak_119 : decode cX11_weak 119 = .ok (.aload_n 0, 1) := dk_1042 (dk_g tcX11_weak_9 11 rfl)
theorem tcX11_weak_10 : (cX11_weak.data.toList.drop 120).take 12 = [25, 7, 180, 1, 117, 182, 0, 115, 172, 25, 7, 180] := by decide +kernel
theorem dX11_weak_120 : decode cX11_weak 120 = .ok (.aload 7, 2) := dk_1025 (dk_g tcX11_weak_10 0 rfl) (dk_g tcX11_weak_10 1 rfl) rfl
theorem dX11_weak_122 : decode cX11_weak 122 = .ok (.getfield 373, 3) := dk_1180 (dk_g tcX11_weak_10 2 rfl) (dk_g tcX11_weak_10 3 rfl) (dk_g tcX11_weak_10 4 rfl) rfl
theorem dX11_weak_125 : decode cX11_weak 125 = .ok (.invokevirtual 115, 3) := dk_1182 (dk_g tcX11_weak_10 5 rfl) (dk_g tcX11_weak_10 6 rfl) (dk_g tcX11_weak_10 7 rfl) rfl
theorem dX11_weak_128 : decode cX11_weak 128 = .ok (.ireturn, 1) := dk_1172 (dk_g tcX11_weak_10 8 rfl)
theorem dX11_weak_129 : decode cX11_weak 129 = .ok (.aload 7, 2) := dk_1025 (dk_g tcX11_weak_10 9 rfl) (dk_g tcX11_weak_10 10 rfl) rfl
theorem tcX11_weak_11 : (cX11_weak.data.toList.drop 132).take 12 = [1, 117, 154, 0, 11, 42, 8, 182, 0, 98, 167, 0] := by decide +kernel
theorem dX11_weak_131 : decode cX11_weak 131 = .ok (.getfield 373, 3) := dk_1180 (dk_g tcX11_weak_10 11 rfl) (dk_g tcX11_weak_11 0 rfl) (dk_g tcX11_weak_11 1 rfl) rfl
theorem dX11_weak_134 : decode cX11_weak 134 = .ok (.ifCond .ne 11, 3) := dk_2154 (dk_g tcX11_weak_11 2 rfl) (dk_g tcX11_weak_11 3 rfl) (dk_g tcX11_weak_11 4 rfl) rfl rfl
theorem dX11_weak_137 : decode cX11_weak 137 = .ok (.aload_n 0, 1) := dk_1042 (dk_g tcX11_weak_11 5 rfl)
theorem dX11_weak_138 : decode cX11_weak 138 = .ok (.iconst 5, 1) := dk_1008 (dk_g tcX11_weak_11 6 rfl)
theorem dX11_weak_139 : decode cX11_weak 139 = .ok (.invokevirtual 98, 3) := dk_1182 (dk_g tcX11_weak_11 7 rfl) (dk_g tcX11_weak_11 8 rfl) (dk_g tcX11_weak_11 9 rfl) rfl
theorem tcX11_weak_12 : (cX11_weak.data.toList.drop 144).take 12 = [12, 42, 25, 7, 180, 1, 120, 182, 0, 115, 172] := by decide +kernel
theorem dX11_weak_142 : decode cX11_weak 142 = .ok (.goto 12, 3) := dk_2167 (dk_g tcX11_weak_11 10 rfl) (dk_g tcX11_weak_11 11 rfl) (dk_g tcX11_weak_12 0 rfl) rfl rfl
theorem dX11_weak_145 : decode cX11_weak 145 = .ok (.aload_n 0, 1) := dk_1042 (dk_g tcX11_weak_12 1 rfl)
theorem dX11_weak_146 : decode cX11_weak 146 = .ok (.aload 7, 2) := dk_1025 (dk_g tcX11_weak_12 2 rfl) (dk_g tcX11_weak_12 3 rfl) rfl
theorem dX11_weak_148 : decode cX11_weak 148 = .ok (.getfield 376, 3) := dk_1180 (dk_g tcX11_weak_12 4 rfl) (dk_g tcX11_weak_12 5 rfl) (dk_g tcX11_weak_12 6 rfl) rfl
theorem dX11_weak_151 : decode cX11_weak 151 = .ok (.invokevirtual 115, 3) := dk_1182 (dk_g tcX11_weak_12 7 rfl) (dk_g tcX11_weak_12 8 rfl) (dk_g tcX11_weak_12 9 rfl) rfl
theorem dX11_weak_154 : decode cX11_weak 154 = .ok (.ireturn, 1) := dk_1172 (dk_g tcX11_weak_12 10 rfl)
theorem tcX11_clash_0 : (cX11_clash.data.toList.drop 0).take 12 = [21, 5, 155, 0, 18, 21, 5, 7, 163, 0, 12, 42] := by decide +kernel
theorem dX11_clash_0 : decode cX11_clash 0 = .ok (.iload 5, 2) := dk_1021 (dk_g tcX11_clash_0 0 rfl) (dk_g tcX11_clash_0 1 rfl) rfl
theorem dX11_clash_2 : decode cX11_clash 2 = .ok (.ifCond .lt 18, 3) := dk_2155 (dk_g tcX11_clash_0 2 rfl) (dk_g tcX11_clash_0 3 rfl) (dk_g tcX11_clash_0 4 rfl) rfl rfl
theorem dX11_clash_5 : decode cX11_clash 5 = .ok (.iload 5, 2) := dk_1021 (dk_g tcX11_clash_0 5 rfl) (dk_g tcX11_clash_0 6 rfl) rfl
theorem dX11_clash_7 : decode cX11_clash 7 = .ok (.iconst 4, 1) := dk_1007 (dk_g tcX11_clash_0 7 rfl)
theorem dX11_clash_8 : decode cX11_clash 8 = .ok (.if_icmp .gt 12, 3) := dk_2163 (dk_g tcX11_clash_0 8 rfl) (dk_g tcX11_clash_0 9 rfl) (dk_g tcX11_clash_0 10 rfl) rfl rfl
theorem dX11_clash_11 : decode cX11_clash 11 = .ok (.aload_n 0, 1) := dk_1042 (dk_g tcX11_clash_0 11 rfl)
theorem tcX11_clash_1 : (cX11_clash.data.toList.drop 12).take 12 = [21, 4, 182, 0, 188, 154, 0, 9, 42, 4, 182, 0] := by decide +kernel
theorem dX11_clash_12 : decode cX11_clash 12 = .ok (.iload 4, 2) := dk_1021 (dk_g tcX11_clash_1 0 rfl) (dk_g tcX11_clash_1 1 rfl) rfl
theorem dX11_clash_14 : decode cX11_clash 14 = .ok (.invokevirtual 188, 3) := dk_1182 (dk_g tcX11_clash_1 2 rfl) (dk_g tcX11_clash_1 3 rfl) (dk_g tcX11_clash_1 4 rfl) rfl
theorem dX11_clash_17 : decode cX11_clash 17 = .ok (.ifCond .ne 9, 3) := dk_2154 (dk_g tcX11_clash_1 5 rfl) (dk_g tcX11_clash_1 6 rfl) (dk_g tcX11_clash_1 7 rfl) rfl rfl
theorem dX11_clash_20 : decode cX11_clash 20 = .ok (.aload_n 0, 1) := dk_1042 (dk_g tcX11_clash_1 8 rfl)
theorem dX11_clash_21 : decode cX11_clash 21 = .ok (.iconst 1, 1) := dk_1004 (dk_g tcX11_clash_1 9 rfl)
theorem tcX11_clash_2 : (cX11_clash.data.toList.drop 24).take 12 = [98, 172, 42, 180, 0, 16, 27, 182, 0, 163, 58, 6] := by decide +kernel
theorem dX11_clash_22 : decode cX11_clash 22 = .ok (.invokevirtual 98, 3) := dk_1182 (dk_g tcX11_clash_1 10 rfl) (dk_g tcX11_clash_1 11 rfl) (dk_g tcX11_clash_2 0 rfl) rfl
theorem dX11_clash_25 : decode cX11_clash 25 = .ok (.ireturn, 1) := dk_1172 (dk_g tcX11_clash_2 1 rfl)
theorem dX11_clash_26 : decode cX11_clash 26 = .ok (.aload_n 0, 1) := dk_1042 (dk_g tcX11_clash_2 2 rfl)
theorem dX11_clash_27 : decode cX11_clash 27 = .ok (.getfield 16, 3) := dk_1180 (dk_g tcX11_clash_2 3 rfl) (dk_g tcX11_clash_2 4 rfl) (dk_g tcX11_clash_2 5 rfl) rfl
theorem dX11_clash_30 : decode cX11_clash 30 = .ok (.iload_n 1, 1) := dk_1027 (dk_g tcX11_clash_2 6 rfl)
theorem dX11_clash_31 : decode cX11_clash 31 = .ok (.invokevirtual 163, 3) := dk_1182 (dk_g tcX11_clash_2 7 rfl) (dk_g tcX11_clash_2 8 rfl) (dk_g tcX11_clash_2 9 rfl) rfl
theorem dX11_clash_34 : decode cX11_clash 34 = .ok (.astore 6, 2) := dk_1058 (dk_g tcX11_clash_2 10 rfl) (dk_g tcX11_clash_2 11 rfl) rfl
theorem tcX11_clash_3 : (cX11_clash.data.toList.drop 36).take 12 = [25, 6, 28, 29, 184, 1, 8, 54, 7, 21, 7, 154] := by decide +kernel
theorem dX11_clash_36 : decode cX11_clash 36 = .ok (.aload 6, 2) := dk_1025 (dk_g tcX11_clash_3 0 rfl) (dk_g tcX11_clash_3 1 rfl) rfl
theorem dX11_clash_38 : decode cX11_clash 38 = .ok (.iload_n 2, 1) := dk_1028 (dk_g tcX11_clash_3 2 rfl)
theorem dX11_clash_39 : decode cX11_clash 39 = .ok (.iload_n 3, 1) := dk_1029 (dk_g tcX11_clash_3 3 rfl)
theorem dX11_clash_40 : decode cX11_clash 40 = .ok (.invokestatic 264, 3) := dk_1184 (dk_g tcX11_clash_3 4 rfl) (dk_g tcX11_clash_3 5 rfl) (dk_g tcX11_clash_3 6 rfl) rfl
theorem dX11_clash_43 : decode cX11_clash 43 = .ok (.istore 7, 2) := dk_1054 (dk_g tcX11_clash_3 7 rfl) (dk_g tcX11_clash_3 8 rfl) rfl
theorem dX11_clash_45 : decode cX11_clash 45 = .ok (.iload 7, 2) := dk_1021 (dk_g tcX11_clash_3 9 rfl) (dk_g tcX11_clash_3 10 rfl) rfl
theorem tcX11_clash_4 : (cX11_clash.data.toList.drop 48).take 12 = [0, 8, 25, 6, 199, 0, 10, 42, 21, 7, 182, 0] := by decide +kernel
theorem dX11_clash_47 : decode cX11_clash 47 = .ok (.ifCond .ne 8, 3) := dk_2154 (dk_g tcX11_clash_3 11 rfl) (dk_g tcX11_clash_4 0 rfl) (dk_g tcX11_clash_4 1 rfl) rfl rfl
theorem dX11_clash_50 : decode cX11_clash 50 = .ok (.aload 6, 2) := dk_1025 (dk_g tcX11_clash_4 2 rfl) (dk_g tcX11_clash_4 3 rfl) rfl
theorem dX11_clash_52 : decode cX11_clash 52 = .ok (.ifnonnull 10, 3) := dk_2199 (dk_g tcX11_clash_4 4 rfl) (dk_g tcX11_clash_4 5 rfl) (dk_g tcX11_clash_4 6 rfl) rfl rfl
theorem dX11_clash_55 : decode cX11_clash 55 = .ok (.aload_n 0, 1) := dk_1042 (dk_g tcX11_clash_4 7 rfl)
theorem dX11_clash_56 : decode cX11_clash 56 = .ok (.iload 7, 2) := dk_1021 (dk_g tcX11_clash_4 8 rfl) (dk_g tcX11_clash_4 9 rfl) rfl
theorem tcX11_clash_5 : (cX11_clash.data.toList.drop 60).take 12 = [98, 172, 42, 180, 0, 62, 28, 29, 182, 1, 11, 42] := by decide +kernel
theorem dX11_clash_58 : decode cX11_clash 58 = .ok (.invokevirtual 98, 3) := dk_1182 (dk_g tcX11_clash_4 10 rfl) (dk_g tcX11_clash_4 11 rfl) (dk_g tcX11_clash_5 0 rfl) rfl
theorem dX11_clash_61 : decode cX11_clash 61 = .ok (.ireturn, 1) := dk_1172 (dk_g tcX11_clash_5 1 rfl)
theorem dX11_clash_62 : decode cX11_clash 62 = .ok (.aload_n 0, 1) := dk_1042 (dk_g tcX11_clash_5 2 rfl)
theorem dX11_clash_63 : decode cX11_clash 63 = .ok (.getfield 62, 3) := dk_1180 (dk_g tcX11_clash_5 3 rfl) (dk_g tcX11_clash_5 4 rfl) (dk_g tcX11_clash_5 5 rfl) rfl
theorem dX11_clash_66 : decode cX11_clash 66 = .ok (.iload_n 2, 1) := dk_1028 (dk_g tcX11_clash_5 6 rfl)
theorem dX11_clash_67 : decode cX11_clash 67 = .ok (.iload_n 3, 1) := dk_1029 (dk_g tcX11_clash_5 7 rfl)
theorem dX11_clash_68 : decode cX11_clash 68 = .ok (.invokevirtual 267, 3) := dk_1182 (dk_g tcX11_clash_5 8 rfl) (dk_g tcX11_clash_5 9 rfl) (dk_g tcX11_clash_5 10 rfl) rfl
theorem dX11_clash_71 : decode cX11_clash 71 = .ok (.aload_n 0, 1) := dk_1042 (dk_g tcX11_clash_5 11 rfl)
theorem tcX11_clash_6 : (cX11_clash.data.toList.drop 72).take 12 = [180, 0, 62, 42, 180, 0, 16, 180, 0, 122, 42, 180] := by decide +kernel
theorem dX11_clash_72 : decode cX11_clash 72 = .ok (.getfield 62, 3) := dk_1180 (dk_g tcX11_clash_6 0 rfl) (dk_g tcX11_clash_6 1 rfl) (dk_g tcX11_clash_6 2 rfl) rfl
theorem dX11_clash_75 : decode cX11_clash 75 = .ok (.aload_n 0, 1) := dk_1042 (dk_g tcX11_clash_6 3 rfl)
theorem dX11_clash_76 : decode cX11_clash 76 = .ok (.getfield 16, 3) := dk_1180 (dk_g tcX11_clash_6 4 rfl) (dk_g tcX11_clash_6 5 rfl) (dk_g tcX11_clash_6 6 rfl) rfl
theorem dX11_clash_79 : decode cX11_clash 79 = .ok (.getfield 122, 3) := dk_1180 (dk_g tcX11_clash_6 7 rfl) (dk_g tcX11_clash_6 8 rfl) (dk_g tcX11_clash_6 9 rfl) rfl
theorem dX11_clash_82 : decode cX11_clash 82 = .ok (.aload_n 0, 1) := dk_1042 (dk_g tcX11_clash_6 10 rfl)
theorem tcX11_clash_7 : (cX11_clash.data.toList.drop 84).take 12 = [0, 26, 21, 4, 42, 180, 0, 16, 25, 6, 29, 182] := by decide +kernel
theorem dX11_clash_83 : decode cX11_clash 83 = .ok (.getfield 26, 3) := dk_1180 (dk_g tcX11_clash_6 11 rfl) (dk_g tcX11_clash_7 0 rfl) (dk_g tcX11_clash_7 1 rfl) rfl
theorem dX11_clash_86 : decode cX11_clash 86 = .ok (.iload 4, 2) := dk_1021 (dk_g tcX11_clash_7 2 rfl) (dk_g tcX11_clash_7 3 rfl) rfl
theorem dX11_clash_88 : decode cX11_clash 88 = .ok (.aload_n 0, 1) := dk_1042 (dk_g tcX11_clash_7 4 rfl)
theorem dX11_clash_89 : decode cX11_clash 89 = .ok (.getfield 16, 3) := dk_1180 (dk_g tcX11_clash_7 5 rfl) (dk_g tcX11_clash_7 6 rfl) (dk_g tcX11_clash_7 7 rfl) rfl
theorem dX11_clash_92 : decode cX11_clash 92 = .ok (.aload 6, 2) := dk_1025 (dk_g tcX11_clash_7 8 rfl) (dk_g tcX11_clash_7 9 rfl) rfl
theorem dX11_clash_94 : decode cX11_clash 94 = .ok (.iload_n 3, 1) := dk_1029 (dk_g tcX11_clash_7 10 rfl)
theorem tcX11_clash_8 : (cX11_clash.data.toList.drop 96).take 12 = [0, 184, 182, 1, 48, 153, 0, 9, 42, 8, 182, 0] := by decide +kernel
theorem dX11_clash_95 : decode cX11_clash 95 = .ok (.invokevirtual 184, 3) := dk_1182 (dk_g tcX11_clash_7 11 rfl) (dk_g tcX11_clash_8 0 rfl) (dk_g tcX11_clash_8 1 rfl) rfl
theorem dX11_clash_98 : decode cX11_clash 98 = .ok (.invokevirtual 304, 3) := dk_1182 (dk_g tcX11_clash_8 2 rfl) (dk_g tcX11_clash_8 3 rfl) (dk_g tcX11_clash_8 4 rfl) rfl
theorem dX11_clash_101 : decode cX11_clash 101 = .ok (.ifCond .eq 9, 3) := dk_2153 (dk_g tcX11_clash_8 5 rfl) (dk_g tcX11_clash_8 6 rfl) (dk_g tcX11_clash_8 7 rfl) rfl rfl
theorem dX11_clash_104 : decode cX11_clash 104 = .ok (.aload_n 0, 1) := dk_1042 (dk_g tcX11_clash_8 8 rfl)
theorem dX11_clash_105 : decode cX11_clash 105 = .ok (.iconst 5, 1) := dk_1008 (dk_g tcX11_clash_8 9 rfl)
theorem tcX11_clash_9 : (cX11_clash.data.toList.drop 108).take 12 = [98, 172, 42, 180, 0, 16, 42, 180, 0, 62, 25, 6] := by decide +kernel
theorem dX11_clash_106 : decode cX11_clash 106 = .ok (.invokevirtual 98, 3) := dk_1182 (dk_g tcX11_clash_8 10 rfl) (dk_g tcX11_clash_8 11 rfl) (dk_g tcX11_clash_9 0 rfl) rfl
theorem dX11_clash_109 : decode cX11_clash 109 = .ok (.ireturn, 1) := dk_1172 (dk_g tcX11_clash_9 1 rfl)
theorem dX11_clash_110 : decode cX11_clash 110 = .ok (.aload_n 0, 1) := dk_1042 (dk_g tcX11_clash_9 2 rfl)
theorem dX11_clash_111 : decode cX11_clash 111 = .ok (.getfield 16, 3) := dk_1180 (dk_g tcX11_clash_9 3 rfl) (dk_g tcX11_clash_9 4 rfl) (dk_g tcX11_clash_9 5 rfl) rfl
theorem dX11_clash_114 : decode cX11_clash 114 = .ok (.aload_n 0, 1) := dk_1042 (dk_g tcX11_clash_9 6 rfl)
theorem dX11_clash_115 : decode cX11_clash 115 = .ok (.getfield 62, 3) := dk_1180 (dk_g tcX11_clash_9 7 rfl) (dk_g tcX11_clash_9 8 rfl) (dk_g tcX11_clash_9 9 rfl) rfl
theorem dX11_clash_118 : decode cX11_clash 118 = .ok (.aload 6, 2) := dk_1025 (dk_g tcX11_clash_9 10 rfl) (dk_g tcX11_clash_9 11 rfl) rfl
theorem tcX11_clash_10 : (cX11_clash.data.toList.drop 120).take 12 = [42, 180, 0, 69, 182, 1, 14, 42, 25, 6, 28, 182] := by decide +kernel
theorem dX11_clash_120 : decode cX11_clash 120 = .ok (.aload_n 0, 1) := dk_1042 (dk_g tcX11_clash_10 0 rfl)
theorem dX11_clash_121 : decode cX11_clash 121 = .ok (.getfield 69, 3) := dk_1180 (dk_g tcX11_clash_10 1 rfl) (dk_g tcX11_clash_10 2 rfl) (dk_g tcX11_clash_10 3 rfl) rfl
theorem dX11_clash_124 : decode cX11_clash 124 = .ok (.invokevirtual 270, 3) := dk_1182 (dk_g tcX11_clash_10 4 rfl) (dk_g tcX11_clash_10 5 rfl) (dk_g tcX11_clash_10 6 rfl) rfl
theorem dX11_clash_127 : decode cX11_clash 127 = .ok (.aload_n 0, 1) := dk_1042 (dk_g tcX11_clash_10 7 rfl)
theorem dX11_clash_128 : decode cX11_clash 128 = .ok (.aload 6, 2) := dk_1025 (dk_g tcX11_clash_10 8 rfl) (dk_g tcX11_clash_10 9 rfl) rfl
theorem dX11_clash_130 : decode cX11_clash 130 = .ok (.iload_n 2, 1) := dk_1028 (dk_g tcX11_clash_10 10 rfl)
theorem tcX11_clash_11 : (cX11_clash.data.toList.drop 132).take 12 = [0, 174, 21, 4, 182, 1, 123, 54, 8, 21, 8, 156] := by decide +kernel
theorem dX11_clash_131 : decode cX11_clash 131 = .ok (.invokevirtual 174, 3) := dk_1182 (dk_g tcX11_clash_10 11 rfl) (dk_g tcX11_clash_11 0 rfl) (dk_g tcX11_clash_11 1 rfl) rfl
theorem dX11_clash_134 : decode cX11_clash 134 = .ok (.iload 4, 2) := dk_1021 (dk_g tcX11_clash_11 2 rfl) (dk_g tcX11_clash_11 3 rfl) rfl
theorem dX11_clash_136 : decode cX11_clash 136 = .ok (.invokevirtual 379, 3) := dk_1182 (dk_g tcX11_clash_11 4 rfl) (dk_g tcX11_clash_11 5 rfl) (dk_g tcX11_clash_11 6 rfl) rfl
theorem dX11_clash_139 : decode cX11_clash 139 = .ok (.istore 8, 2) := dk_1054 (dk_g tcX11_clash_11 7 rfl) (dk_g tcX11_clash_11 8 rfl) rfl
theorem dX11_clash_141 : decode cX11_clash 141 = .ok (.iload 8, 2) := dk_1021 (dk_g tcX11_clash_11 9 rfl) (dk_g tcX11_clash_11 10 rfl) rfl
theorem tcX11_clash_12 : (cX11_clash.data.toList.drop 144).take 12 = [0, 9, 42, 8, 182, 0, 98, 172, 21, 5, 154, 0] := by decide +kernel
theorem dX11_clash_143 : decode cX11_clash 143 = .ok (.ifCond .ge 9, 3) := dk_2156 (dk_g tcX11_clash_11 11 rfl) (dk_g tcX11_clash_12 0 rfl) (dk_g tcX11_clash_12 1 rfl) rfl rfl
theorem dX11_clash_146 : decode cX11_clash 146 = .ok (.aload_n 0, 1) := dk_1042 (dk_g tcX11_clash_12 2 rfl)
theorem dX11_clash_147 : decode cX11_clash 147 = .ok (.iconst 5, 1) := dk_1008 (dk_g tcX11_clash_12 3 rfl)
theorem dX11_clash_148 : decode cX11_clash 148 = .ok (.invokevirtual 98, 3) := dk_1182 (dk_g tcX11_clash_12 4 rfl) (dk_g tcX11_clash_12 5 rfl) (dk_g tcX11_clash_12 6 rfl) rfl
theorem dX11_clash_151 : decode cX11_clash 151 = .ok (.ireturn, 1) := dk_1172 (dk_g tcX11_clash_12 7 rfl)
theorem dX11_clash_152 : decode cX11_clash 152 = .ok (.iload 5, 2) := dk_1021 (dk_g tcX11_clash_12 8 rfl) (dk_g tcX11_clash_12 9 rfl) rfl
theorem tcX11_clash_13 : (cX11_clash.data.toList.drop 156).take 12 = [10, 42, 21, 8, 182, 0, 115, 172, 21, 5, 5, 163] := by decide +kernel
theorem dX11_clash_154 : decode cX11_clash 154 = .ok (.ifCond .ne 10, 3) := dk_2154 (dk_g tcX11_clash_12 10 rfl) (dk_g tcX11_clash_12 11 rfl) (dk_g tcX11_clash_13 0 rfl) rfl rfl
theorem dX11_clash_157 : decode cX11_clash 157 = .ok (.aload_n 0, 1) := dk_1042 (dk_g tcX11_clash_13 1 rfl)
theorem dX11_clash_158 : decode cX11_clash 158 = .ok (.iload 8, 2) := dk_1021 (dk_g tcX11_clash_13 2 rfl) (dk_g tcX11_clash_13 3 rfl) rfl
theorem dX11_clash_160 : decode cX11_clash 160 = .ok (.invokevirtual 115, 3) := dk_1182 (dk_g tcX11_clash_13 4 rfl) (dk_g tcX11_clash_13 5 rfl) (dk_g tcX11_clash_13 6 rfl) rfl
theorem dX11_clash_163 : decode cX11_clash 163 = .ok (.ireturn, 1) := dk_1172 (dk_g tcX11_clash_13 7 rfl)
theorem dX11_clash_164 : decode cX11_clash 164 = .ok (.iload 5, 2) := dk_1021 (dk_g tcX11_clash_13 8 rfl) (dk_g tcX11_clash_13 9 rfl) rfl
theorem dX11_clash_166 : decode cX11_clash 166 = .ok (.iconst 2, 1) := dk_1005 (dk_g tcX11_clash_13 10 rfl)
theorem tcX11_clash_14 : (cX11_clash.data.toList.drop 168).take 12 = [0, 7, 4, 167, 0, 4, 3, 54, 9, 21, 9, 153] := by decide +kernel
theorem dX11_clash_167 : decode cX11_clash 167 = .ok (.if_icmp .gt 7, 3) := dk_2163 (dk_g tcX11_clash_13 11 rfl) (dk_g tcX11_clash_14 0 rfl) (dk_g tcX11_clash_14 1 rfl) rfl rfl
theorem dX11_clash_170 : decode cX11_clash 170 = .ok (.iconst 1, 1) := dk_1004 (dk_g tcX11_clash_14 2 rfl)
theorem dX11_clash_171 : decode cX11_clash 171 = .ok (.goto 4, 3) := dk_2167 (dk_g tcX11_clash_14 3 rfl) (dk_g tcX11_clash_14 4 rfl) (dk_g tcX11_clash_14 5 rfl) rfl rfl
theorem dX11_clash_174 : decode cX11_clash 174 = .ok (.iconst 0, 1) := dk_1003 (dk_g tcX11_clash_14 6 rfl)
theorem dX11_clash_175 : decode cX11_clash 175 = .ok (.istore 9, 2) := dk_1054 (dk_g tcX11_clash_14 7 rfl) (dk_g tcX11_clash_14 8 rfl) rfl
theorem dX11_clash_177 : decode cX11_clash 177 = .ok (.iload 9, 2) := dk_1021 (dk_g tcX11_clash_14 9 rfl) (dk_g tcX11_clash_14 10 rfl) rfl
theorem tcX11_clash_15 : (cX11_clash.data.toList.drop 180).take 12 = [0, 10, 42, 180, 0, 69, 167, 0, 7, 42, 180, 0] := by decide +kernel
theorem dX11_clash_179 : decode cX11_clash 179 = .ok (.ifCond .eq 10, 3) := dk_2153 (dk_g tcX11_clash_14 11 rfl) (dk_g tcX11_clash_15 0 rfl) (dk_g tcX11_clash_15 1 rfl) rfl rfl
theorem dX11_clash_182 : decode cX11_clash 182 = .ok (.aload_n 0, 1) := dk_1042 (dk_g tcX11_clash_15 2 rfl)
theorem dX11_clash_183 : decode cX11_clash 183 = .ok (.getfield 69, 3) := dk_1180 (dk_g tcX11_clash_15 3 rfl) (dk_g tcX11_clash_15 4 rfl) (dk_g tcX11_clash_15 5 rfl) rfl
theorem dX11_clash_186 : decode cX11_clash 186 = .ok (.goto 7, 3) := dk_2167 (dk_g tcX11_clash_15 6 rfl) (dk_g tcX11_clash_15 7 rfl) (dk_g tcX11_clash_15 8 rfl) rfl rfl
theorem dX11_clash_189 : decode cX11_clash 189 = .ok (.aload_n 0, 1) := dk_1042 (dk_g tcX11_clash_15 9 rfl)
theorem tcX11_clash_16 : (cX11_clash.data.toList.drop 192).take 12 = [26, 58, 10, 42, 180, 0, 62, 42, 180, 0, 16, 180] := by decide +kernel
theorem dX11_clash_190 : decode cX11_clash 190 = .ok (.getfield 26, 3) := dk_1180 (dk_g tcX11_clash_15 10 rfl) (dk_g tcX11_clash_15 11 rfl) (dk_g tcX11_clash_16 0 rfl) rfl
theorem dX11_clash_193 : decode cX11_clash 193 = .ok (.astore 10, 2) := dk_1058 (dk_g tcX11_clash_16 1 rfl) (dk_g tcX11_clash_16 2 rfl) rfl
theorem dX11_clash_195 : decode cX11_clash 195 = .ok (.aload_n 0, 1) := dk_1042 (dk_g tcX11_clash_16 3 rfl)
theorem dX11_clash_196 : decode cX11_clash 196 = .ok (.getfield 62, 3) := dk_1180 (dk_g tcX11_clash_16 4 rfl) (dk_g tcX11_clash_16 5 rfl) (dk_g tcX11_clash_16 6 rfl) rfl
theorem dX11_clash_199 : decode cX11_clash 199 = .ok (.aload_n 0, 1) := dk_1042 (dk_g tcX11_clash_16 7 rfl)
theorem dX11_clash_200 : decode cX11_clash 200 = .ok (.getfield 16, 3) := dk_1180 (dk_g tcX11_clash_16 8 rfl) (dk_g tcX11_clash_16 9 rfl) (dk_g tcX11_clash_16 10 rfl) rfl
theorem tcX11_clash_17 : (cX11_clash.data.toList.drop 204).take 12 = [0, 122, 25, 10, 21, 9, 153, 0, 12, 25, 6, 28] := by decide +kernel
theorem dX11_clash_203 : decode cX11_clash 203 = .ok (.getfield 122, 3) := dk_1180 (dk_g tcX11_clash_16 11 rfl) (dk_g tcX11_clash_17 0 rfl) (dk_g tcX11_clash_17 1 rfl) rfl
theorem dX11_clash_206 : decode cX11_clash 206 = .ok (.aload 10, 2) := dk_1025 (dk_g tcX11_clash_17 2 rfl) (dk_g tcX11_clash_17 3 rfl) rfl
theorem dX11_clash_208 : decode cX11_clash 208 = .ok (.iload 9, 2) := dk_1021 (dk_g tcX11_clash_17 4 rfl) (dk_g tcX11_clash_17 5 rfl) rfl
theorem dX11_clash_210 : decode cX11_clash 210 = .ok (.ifCond .eq 12, 3) := dk_2153 (dk_g tcX11_clash_17 6 rfl) (dk_g tcX11_clash_17 7 rfl) (dk_g tcX11_clash_17 8 rfl) rfl rfl
theorem dX11_clash_213 : decode cX11_clash 213 = .ok (.aload 6, 2) := dk_1025 (dk_g tcX11_clash_17 9 rfl) (dk_g tcX11_clash_17 10 rfl) rfl
theorem dX11_clash_215 : decode cX11_clash 215 = .ok (.iload_n 2, 1) := dk_1028 (dk_g tcX11_clash_17 11 rfl)
theorem tcX11_clash_18 : (cX11_clash.data.toList.drop 216).take 12 = [182, 0, 174, 167, 0, 5, 21, 4, 21, 8, 182, 1] := by decide +kernel
theorem dX11_clash_216 : decode cX11_clash 216 = .ok (.invokevirtual 174, 3) := dk_1182 (dk_g tcX11_clash_18 0 rfl) (dk_g tcX11_clash_18 1 rfl) (dk_g tcX11_clash_18 2 rfl) rfl
theorem dX11_clash_219 : decode cX11_clash 219 = .ok (.goto 5, 3) := dk_2167 (dk_g tcX11_clash_18 3 rfl) (dk_g tcX11_clash_18 4 rfl) (dk_g tcX11_clash_18 5 rfl) rfl rfl
theorem dX11_clash_222 : decode cX11_clash 222 = .ok (.iload 4, 2) := dk_1021 (dk_g tcX11_clash_18 6 rfl) (dk_g tcX11_clash_18 7 rfl) rfl
theorem dX11_clash_224 : decode cX11_clash 224 = .ok (.iload 8, 2) := dk_1021 (dk_g tcX11_clash_18 8 rfl) (dk_g tcX11_clash_18 9 rfl) rfl
theorem tcX11_clash_19 : (cX11_clash.data.toList.drop 228).take 12 = [126, 54, 11, 21, 5, 4, 159, 0, 9, 21, 5, 6] := by decide +kernel
theorem dX11_clash_226 : decode cX11_clash 226 = .ok (.invokevirtual 382, 3) := dk_1182 (dk_g tcX11_clash_18 10 rfl) (dk_g tcX11_clash_18 11 rfl) (dk_g tcX11_clash_19 0 rfl) rfl
theorem dX11_clash_229 : decode cX11_clash 229 = .ok (.istore 11, 2) := dk_1054 (dk_g tcX11_clash_19 1 rfl) (dk_g tcX11_clash_19 2 rfl) rfl
theorem dX11_clash_231 : decode cX11_clash 231 = .ok (.iload 5, 2) := dk_1021 (dk_g tcX11_clash_19 3 rfl) (dk_g tcX11_clash_19 4 rfl) rfl
theorem dX11_clash_233 : decode cX11_clash 233 = .ok (.iconst 1, 1) := dk_1004 (dk_g tcX11_clash_19 5 rfl)
theorem dX11_clash_234 : decode cX11_clash 234 = .ok (.if_icmp .eq 9, 3) := dk_2159 (dk_g tcX11_clash_19 6 rfl) (dk_g tcX11_clash_19 7 rfl) (dk_g tcX11_clash_19 8 rfl) rfl rfl
theorem dX11_clash_237 : decode cX11_clash 237 = .ok (.iload 5, 2) := dk_1021 (dk_g tcX11_clash_19 9 rfl) (dk_g tcX11_clash_19 10 rfl) rfl
theorem dX11_clash_239 : decode cX11_clash 239 = .ok (.iconst 3, 1) := dk_1006 (dk_g tcX11_clash_19 11 rfl)
theorem tcX11_clash_20 : (cX11_clash.data.toList.drop 240).take 12 = [160, 0, 7, 4, 167, 0, 4, 3, 54, 12, 42, 21] := by decide +kernel
theorem dX11_clash_240 : decode cX11_clash 240 = .ok (.if_icmp .ne 7, 3) := dk_2160 (dk_g tcX11_clash_20 0 rfl) (dk_g tcX11_clash_20 1 rfl) (dk_g tcX11_clash_20 2 rfl) rfl rfl
theorem dX11_clash_243 : decode cX11_clash 243 = .ok (.iconst 1, 1) := dk_1004 (dk_g tcX11_clash_20 3 rfl)
theorem dX11_clash_244 : decode cX11_clash 244 = .ok (.goto 4, 3) := dk_2167 (dk_g tcX11_clash_20 4 rfl) (dk_g tcX11_clash_20 5 rfl) (dk_g tcX11_clash_20 6 rfl) rfl rfl
theorem dX11_clash_247 : decode cX11_clash 247 = .ok (.iconst 0, 1) := dk_1003 (dk_g tcX11_clash_20 7 rfl)
theorem dX11_clash_248 : decode cX11_clash 248 = .ok (.istore 12, 2) := dk_1054 (dk_g tcX11_clash_20 8 rfl) (dk_g tcX11_clash_20 9 rfl) rfl
theorem dX11_clash_250 : decode cX11_clash 250 = .ok (.aload_n 0, 1) := dk_1042 (dk_g tcX11_clash_20 10 rfl)
theorem tcX11_clash_21 : (cX11_clash.data.toList.drop 252).take 12 = [12, 42, 180, 0, 62, 21, 8, 182, 1, 129, 160, 0] := by decide +kernel
theorem dX11_clash_251 : decode cX11_clash 251 = .ok (.iload 12, 2) := dk_1021 (dk_g tcX11_clash_20 11 rfl) (dk_g tcX11_clash_21 0 rfl) rfl
theorem dX11_clash_253 : decode cX11_clash 253 = .ok (.aload_n 0, 1) := dk_1042 (dk_g tcX11_clash_21 1 rfl)
theorem dX11_clash_254 : decode cX11_clash 254 = .ok (.getfield 62, 3) := dk_1180 (dk_g tcX11_clash_21 2 rfl) (dk_g tcX11_clash_21 3 rfl) (dk_g tcX11_clash_21 4 rfl) rfl
theorem dX11_clash_257 : decode cX11_clash 257 = .ok (.iload 8, 2) := dk_1021 (dk_g tcX11_clash_21 5 rfl) (dk_g tcX11_clash_21 6 rfl) rfl
theorem dX11_clash_259 : decode cX11_clash 259 = .ok (.invokevirtual 385, 3) := dk_1182 (dk_g tcX11_clash_21 7 rfl) (dk_g tcX11_clash_21 8 rfl) (dk_g tcX11_clash_21 9 rfl) rfl
theorem tcX11_clash_22 : (cX11_clash.data.toList.drop 264).take 12 = [13, 25, 10, 21, 8, 182, 0, 135, 167, 0, 5, 21] := by decide +kernel
theorem dX11_clash_262 : decode cX11_clash 262 = .ok (.if_icmp .ne 13, 3) := dk_2160 (dk_g tcX11_clash_21 10 rfl) (dk_g tcX11_clash_21 11 rfl) (dk_g tcX11_clash_22 0 rfl) rfl rfl
theorem dX11_clash_265 : decode cX11_clash 265 = .ok (.aload 10, 2) := dk_1025 (dk_g tcX11_clash_22 1 rfl) (dk_g tcX11_clash_22 2 rfl) rfl
theorem dX11_clash_267 : decode cX11_clash 267 = .ok (.iload 8, 2) := dk_1021 (dk_g tcX11_clash_22 3 rfl) (dk_g tcX11_clash_22 4 rfl) rfl
theorem dX11_clash_269 : decode cX11_clash 269 = .ok (.invokevirtual 135, 3) := dk_1182 (dk_g tcX11_clash_22 5 rfl) (dk_g tcX11_clash_22 6 rfl) (dk_g tcX11_clash_22 7 rfl) rfl
theorem dX11_clash_272 : decode cX11_clash 272 = .ok (.goto 5, 3) := dk_2167 (dk_g tcX11_clash_22 8 rfl) (dk_g tcX11_clash_22 9 rfl) (dk_g tcX11_clash_22 10 rfl) rfl rfl
theorem tcX11_clash_23 : (cX11_clash.data.toList.drop 276).take 12 = [11, 182, 0, 115, 172] := by decide +kernel
theorem dX11_clash_275 : decode cX11_clash 275 = .ok (.iload 11, 2) := dk_1021 (dk_g tcX11_clash_22 11 rfl) (dk_g tcX11_clash_23 0 rfl) rfl
theorem dX11_clash_277 : decode cX11_clash 277 = .ok (.invokevirtual 115, 3) := dk_1182 (dk_g tcX11_clash_23 1 rfl) (dk_g tcX11_clash_23 2 rfl) (dk_g tcX11_clash_23 3 rfl) rfl
theorem dX11_clash_280 : decode cX11_clash 280 = .ok (.ireturn, 1) := dk_1172 (dk_g tcX11_clash_23 4 rfl)
theorem tcX11_forge_0 : (cX11_forge.data.toList.drop 0).take 12 = [28, 29, 184, 1, 45, 153, 0, 25, 21, 5, 155, 0] := by decide +kernel
theorem dX11_forge_0 : decode cX11_forge 0 = .ok (.iload_n 2, 1) := dk_1028 (dk_g tcX11_forge_0 0 rfl)
theorem dX11_forge_1 : decode cX11_forge 1 = .ok (.iload_n 3, 1) := dk_1029 (dk_g tcX11_forge_0 1 rfl)
theorem dX11_forge_2 : decode cX11_forge 2 = .ok (.invokestatic 301, 3) := dk_1184 (dk_g tcX11_forge_0 2 rfl) (dk_g tcX11_forge_0 3 rfl) (dk_g tcX11_forge_0 4 rfl) rfl
theorem dX11_forge_5 : decode cX11_forge 5 = .ok (.ifCond .eq 25, 3) := dk_2153 (dk_g tcX11_forge_0 5 rfl) (dk_g tcX11_forge_0 6 rfl) (dk_g tcX11_forge_0 7 rfl) rfl rfl
theorem dX11_forge_8 : decode cX11_forge 8 = .ok (.iload 5, 2) := dk_1021 (dk_g tcX11_forge_0 8 rfl) (dk_g tcX11_forge_0 9 rfl) rfl
theorem tcX11_forge_1 : (cX11_forge.data.toList.drop 12).take 12 = [20, 42, 27, 182, 0, 188, 153, 0, 12, 42, 21, 4] := by decide +kernel
theorem dX11_forge_10 : decode cX11_forge 10 = .ok (.ifCond .lt 20, 3) := dk_2155 (dk_g tcX11_forge_0 10 rfl) (dk_g tcX11_forge_0 11 rfl) (dk_g tcX11_forge_1 0 rfl) rfl rfl
theorem dX11_forge_13 : decode cX11_forge 13 = .ok (.aload_n 0, 1) := dk_1042 (dk_g tcX11_forge_1 1 rfl)
theorem dX11_forge_14 : decode cX11_forge 14 = .ok (.iload_n 1, 1) := dk_1027 (dk_g tcX11_forge_1 2 rfl)
theorem dX11_forge_15 : decode cX11_forge 15 = .ok (.invokevirtual 188, 3) := dk_1182 (dk_g tcX11_forge_1 3 rfl) (dk_g tcX11_forge_1 4 rfl) (dk_g tcX11_forge_1 5 rfl) rfl
theorem dX11_forge_18 : decode cX11_forge 18 = .ok (.ifCond .eq 12, 3) := dk_2153 (dk_g tcX11_forge_1 6 rfl) (dk_g tcX11_forge_1 7 rfl) (dk_g tcX11_forge_1 8 rfl) rfl rfl
theorem dX11_forge_21 : decode cX11_forge 21 = .ok (.aload_n 0, 1) := dk_1042 (dk_g tcX11_forge_1 9 rfl)
theorem dX11_forge_22 : decode cX11_forge 22 = .ok (.iload 4, 2) := dk_1021 (dk_g tcX11_forge_1 10 rfl) (dk_g tcX11_forge_1 11 rfl) rfl
theorem tcX11_forge_2 : (cX11_forge.data.toList.drop 24).take 12 = [182, 0, 188, 154, 0, 9, 42, 4, 182, 0, 98, 172] := by decide +kernel
theorem dX11_forge_24 : decode cX11_forge 24 = .ok (.invokevirtual 188, 3) := dk_1182 (dk_g tcX11_forge_2 0 rfl) (dk_g tcX11_forge_2 1 rfl) (dk_g tcX11_forge_2 2 rfl) rfl
theorem dX11_forge_27 : decode cX11_forge 27 = .ok (.ifCond .ne 9, 3) := dk_2154 (dk_g tcX11_forge_2 3 rfl) (dk_g tcX11_forge_2 4 rfl) (dk_g tcX11_forge_2 5 rfl) rfl rfl
theorem dX11_forge_30 : decode cX11_forge 30 = .ok (.aload_n 0, 1) := dk_1042 (dk_g tcX11_forge_2 6 rfl)
theorem dX11_forge_31 : decode cX11_forge 31 = .ok (.iconst 1, 1) := dk_1004 (dk_g tcX11_forge_2 7 rfl)
theorem dX11_forge_32 : decode cX11_forge 32 = .ok (.invokevirtual 98, 3) := dk_1182 (dk_g tcX11_forge_2 8 rfl) (dk_g tcX11_forge_2 9 rfl) (dk_g tcX11_forge_2 10 rfl) rfl
theorem dX11_forge_35 : decode cX11_forge 35 = .ok (.ireturn, 1) := dk_1172 (dk_g tcX11_forge_2 11 rfl)
theorem tcX11_forge_3 : (cX11_forge.data.toList.drop 36).take 12 = [42, 180, 0, 62, 28, 29, 182, 1, 11, 42, 180, 0] := by decide +kernel
theorem dX11_forge_36 : decode cX11_forge 36 = .ok (.aload_n 0, 1) := dk_1042 (dk_g tcX11_forge_3 0 rfl)
theorem dX11_forge_37 : decode cX11_forge 37 = .ok (.getfield 62, 3) := dk_1180 (dk_g tcX11_forge_3 1 rfl) (dk_g tcX11_forge_3 2 rfl) (dk_g tcX11_forge_3 3 rfl) rfl
theorem dX11_forge_40 : decode cX11_forge 40 = .ok (.iload_n 2, 1) := dk_1028 (dk_g tcX11_forge_3 4 rfl)
theorem dX11_forge_41 : decode cX11_forge 41 = .ok (.iload_n 3, 1) := dk_1029 (dk_g tcX11_forge_3 5 rfl)
theorem dX11_forge_42 : decode cX11_forge 42 = .ok (.invokevirtual 267, 3) := dk_1182 (dk_g tcX11_forge_3 6 rfl) (dk_g tcX11_forge_3 7 rfl) (dk_g tcX11_forge_3 8 rfl) rfl
theorem dX11_forge_45 : decode cX11_forge 45 = .ok (.aload_n 0, 1) := dk_1042 (dk_g tcX11_forge_3 9 rfl)
theorem tcX11_forge_4 : (cX11_forge.data.toList.drop 48).take 12 = [26, 180, 0, 132, 42, 180, 0, 62, 180, 1, 56, 160] := by decide +kernel
theorem dX11_forge_46 : decode cX11_forge 46 = .ok (.getfield 26, 3) := dk_1180 (dk_g tcX11_forge_3 10 rfl) (dk_g tcX11_forge_3 11 rfl) (dk_g tcX11_forge_4 0 rfl) rfl
theorem dX11_forge_49 : decode cX11_forge 49 = .ok (.getfield 132, 3) := dk_1180 (dk_g tcX11_forge_4 1 rfl) (dk_g tcX11_forge_4 2 rfl) (dk_g tcX11_forge_4 3 rfl) rfl
theorem dX11_forge_52 : decode cX11_forge 52 = .ok (.aload_n 0, 1) := dk_1042 (dk_g tcX11_forge_4 4 rfl)
theorem dX11_forge_53 : decode cX11_forge 53 = .ok (.getfield 62, 3) := dk_1180 (dk_g tcX11_forge_4 5 rfl) (dk_g tcX11_forge_4 6 rfl) (dk_g tcX11_forge_4 7 rfl) rfl
theorem dX11_forge_56 : decode cX11_forge 56 = .ok (.getfield 312, 3) := dk_1180 (dk_g tcX11_forge_4 8 rfl) (dk_g tcX11_forge_4 9 rfl) (dk_g tcX11_forge_4 10 rfl) rfl
theorem tcX11_forge_5 : (cX11_forge.data.toList.drop 60).take 12 = [0, 15, 21, 5, 42, 180, 0, 26, 180, 0, 132, 161] := by decide +kernel
theorem dX11_forge_59 : decode cX11_forge 59 = .ok (.if_icmp .ne 15, 3) := dk_2160 (dk_g tcX11_forge_4 11 rfl) (dk_g tcX11_forge_5 0 rfl) (dk_g tcX11_forge_5 1 rfl) rfl rfl
theorem dX11_forge_62 : decode cX11_forge 62 = .ok (.iload 5, 2) := dk_1021 (dk_g tcX11_forge_5 2 rfl) (dk_g tcX11_forge_5 3 rfl) rfl
theorem dX11_forge_64 : decode cX11_forge 64 = .ok (.aload_n 0, 1) := dk_1042 (dk_g tcX11_forge_5 4 rfl)
theorem dX11_forge_65 : decode cX11_forge 65 = .ok (.getfield 26, 3) := dk_1180 (dk_g tcX11_forge_5 5 rfl) (dk_g tcX11_forge_5 6 rfl) (dk_g tcX11_forge_5 7 rfl) rfl
theorem dX11_forge_68 : decode cX11_forge 68 = .ok (.getfield 132, 3) := dk_1180 (dk_g tcX11_forge_5 8 rfl) (dk_g tcX11_forge_5 9 rfl) (dk_g tcX11_forge_5 10 rfl) rfl
theorem tcX11_forge_6 : (cX11_forge.data.toList.drop 72).take 12 = [0, 9, 42, 8, 182, 0, 98, 172, 42, 182, 1, 107] := by decide +kernel
theorem dX11_forge_71 : decode cX11_forge 71 = .ok (.if_icmp .lt 9, 3) := dk_2161 (dk_g tcX11_forge_5 11 rfl) (dk_g tcX11_forge_6 0 rfl) (dk_g tcX11_forge_6 1 rfl) rfl rfl
theorem dX11_forge_74 : decode cX11_forge 74 = .ok (.aload_n 0, 1) := dk_1042 (dk_g tcX11_forge_6 2 rfl)
theorem dX11_forge_75 : decode cX11_forge 75 = .ok (.iconst 5, 1) := dk_1008 (dk_g tcX11_forge_6 3 rfl)
theorem dX11_forge_76 : decode cX11_forge 76 = .ok (.invokevirtual 98, 3) := dk_1182 (dk_g tcX11_forge_6 4 rfl) (dk_g tcX11_forge_6 5 rfl) (dk_g tcX11_forge_6 6 rfl) rfl
theorem dX11_forge_79 : decode cX11_forge 79 = .ok (.ireturn, 1) := dk_1172 (dk_g tcX11_forge_6 7 rfl)
theorem dX11_forge_80 : decode cX11_forge 80 = .ok (.aload_n 0, 1) := dk_1042 (dk_g tcX11_forge_6 8 rfl)
theorem dX11_forge_81 : decode cX11_forge 81 = .ok (.invokevirtual 363, 3) := dk_1182 (dk_g tcX11_forge_6 9 rfl) (dk_g tcX11_forge_6 10 rfl) (dk_g tcX11_forge_6 11 rfl) rfl
theorem tcX11_forge_7 : (cX11_forge.data.toList.drop 84).take 12 = [58, 6, 25, 6, 42, 180, 0, 62, 42, 180, 0, 26] := by decide +kernel
theorem dX11_forge_84 : decode cX11_forge 84 = .ok (.astore 6, 2) := dk_1058 (dk_g tcX11_forge_7 0 rfl) (dk_g tcX11_forge_7 1 rfl) rfl
theorem dX11_forge_86 : decode cX11_forge 86 = .ok (.aload 6, 2) := dk_1025 (dk_g tcX11_forge_7 2 rfl) (dk_g tcX11_forge_7 3 rfl) rfl
theorem dX11_forge_88 : decode cX11_forge 88 = .ok (.aload_n 0, 1) := dk_1042 (dk_g tcX11_forge_7 4 rfl)
theorem dX11_forge_89 : decode cX11_forge 89 = .ok (.getfield 62, 3) := dk_1180 (dk_g tcX11_forge_7 5 rfl) (dk_g tcX11_forge_7 6 rfl) (dk_g tcX11_forge_7 7 rfl) rfl
theorem dX11_forge_92 : decode cX11_forge 92 = .ok (.aload_n 0, 1) := dk_1042 (dk_g tcX11_forge_7 8 rfl)
theorem dX11_forge_93 : decode cX11_forge 93 = .ok (.getfield 26, 3) := dk_1180 (dk_g tcX11_forge_7 9 rfl) (dk_g tcX11_forge_7 10 rfl) (dk_g tcX11_forge_7 11 rfl) rfl
theorem tcX11_forge_8 : (cX11_forge.data.toList.drop 96).take 12 = [42, 180, 0, 62, 42, 180, 0, 16, 180, 0, 122, 42] := by decide +kernel
theorem dX11_forge_96 : decode cX11_forge 96 = .ok (.aload_n 0, 1) := dk_1042 (dk_g tcX11_forge_8 0 rfl)
theorem dX11_forge_97 : decode cX11_forge 97 = .ok (.getfield 62, 3) := dk_1180 (dk_g tcX11_forge_8 1 rfl) (dk_g tcX11_forge_8 2 rfl) (dk_g tcX11_forge_8 3 rfl) rfl
theorem dX11_forge_100 : decode cX11_forge 100 = .ok (.aload_n 0, 1) := dk_1042 (dk_g tcX11_forge_8 4 rfl)
theorem dX11_forge_101 : decode cX11_forge 101 = .ok (.getfield 16, 3) := dk_1180 (dk_g tcX11_forge_8 5 rfl) (dk_g tcX11_forge_8 6 rfl) (dk_g tcX11_forge_8 7 rfl) rfl
theorem dX11_forge_104 : decode cX11_forge 104 = .ok (.getfield 122, 3) := dk_1180 (dk_g tcX11_forge_8 8 rfl) (dk_g tcX11_forge_8 9 rfl) (dk_g tcX11_forge_8 10 rfl) rfl
theorem dX11_forge_107 : decode cX11_forge 107 = .ok (.aload_n 0, 1) := dk_1042 (dk_g tcX11_forge_8 11 rfl)
theorem tcX11_forge_9 : (cX11_forge.data.toList.drop 108).take 12 = [180, 0, 26, 27, 21, 5, 182, 1, 126, 21, 4, 21] := by decide +kernel
theorem dX11_forge_108 : decode cX11_forge 108 = .ok (.getfield 26, 3) := dk_1180 (dk_g tcX11_forge_9 0 rfl) (dk_g tcX11_forge_9 1 rfl) (dk_g tcX11_forge_9 2 rfl) rfl
theorem dX11_forge_111 : decode cX11_forge 111 = .ok (.iload_n 1, 1) := dk_1027 (dk_g tcX11_forge_9 3 rfl)
theorem dX11_forge_112 : decode cX11_forge 112 = .ok (.iload 5, 2) := dk_1021 (dk_g tcX11_forge_9 4 rfl) (dk_g tcX11_forge_9 5 rfl) rfl
theorem dX11_forge_114 : decode cX11_forge 114 = .ok (.invokevirtual 382, 3) := dk_1182 (dk_g tcX11_forge_9 6 rfl) (dk_g tcX11_forge_9 7 rfl) (dk_g tcX11_forge_9 8 rfl) rfl
theorem dX11_forge_117 : decode cX11_forge 117 = .ok (.iload 4, 2) := dk_1021 (dk_g tcX11_forge_9 9 rfl) (dk_g tcX11_forge_9 10 rfl) rfl
theorem tcX11_forge_10 : (cX11_forge.data.toList.drop 120).take 12 = [5, 182, 1, 132, 25, 6, 180, 1, 117, 154, 0, 11] := by decide +kernel
theorem dX11_forge_119 : decode cX11_forge 119 = .ok (.iload 5, 2) := dk_1021 (dk_g tcX11_forge_9 11 rfl) (dk_g tcX11_forge_10 0 rfl) rfl
theorem dX11_forge_121 : decode cX11_forge 121 = .ok (.invokevirtual 388, 3) := dk_1182 (dk_g tcX11_forge_10 1 rfl) (dk_g tcX11_forge_10 2 rfl) (dk_g tcX11_forge_10 3 rfl) rfl
theorem dX11_forge_124 : decode cX11_forge 124 = .ok (.aload 6, 2) := dk_1025 (dk_g tcX11_forge_10 4 rfl) (dk_g tcX11_forge_10 5 rfl) rfl
theorem dX11_forge_126 : decode cX11_forge 126 = .ok (.getfield 373, 3) := dk_1180 (dk_g tcX11_forge_10 6 rfl) (dk_g tcX11_forge_10 7 rfl) (dk_g tcX11_forge_10 8 rfl) rfl
theorem dX11_forge_129 : decode cX11_forge 129 = .ok (.ifCond .ne 11, 3) := dk_2154 (dk_g tcX11_forge_10 9 rfl) (dk_g tcX11_forge_10 10 rfl) (dk_g tcX11_forge_10 11 rfl) rfl rfl
theorem tcX11_forge_11 : (cX11_forge.data.toList.drop 132).take 12 = [42, 8, 182, 0, 98, 167, 0, 12, 42, 25, 6, 180] := by decide +kernel
theorem dX11_forge_132 : decode cX11_forge 132 = .ok (.aload_n 0, 1) := dk_1042 (dk_g tcX11_forge_11 0 rfl)
theorem dX11_forge_133 : decode cX11_forge 133 = .ok (.iconst 5, 1) := dk_1008 (dk_g tcX11_forge_11 1 rfl)
theorem dX11_forge_134 : decode cX11_forge 134 = .ok (.invokevirtual 98, 3) := dk_1182 (dk_g tcX11_forge_11 2 rfl) (dk_g tcX11_forge_11 3 rfl) (dk_g tcX11_forge_11 4 rfl) rfl
theorem dX11_forge_137 : decode cX11_forge 137 = .ok (.goto 12, 3) := dk_2167 (dk_g tcX11_forge_11 5 rfl) (dk_g tcX11_forge_11 6 rfl) (dk_g tcX11_forge_11 7 rfl) rfl rfl
theorem dX11_forge_140 : decode cX11_forge 140 = .ok (.aload_n 0, 1) := dk_1042 (dk_g tcX11_forge_11 8 rfl)
theorem dX11_forge_141 : decode cX11_forge 141 = .ok (.aload 6, 2) := dk_1025 (dk_g tcX11_forge_11 9 rfl) (dk_g tcX11_forge_11 10 rfl) rfl
theorem tcX11_forge_12 : (cX11_forge.data.toList.drop 144).take 12 = [1, 120, 182, 0, 115, 172] := by decide +kernel
theorem dX11_forge_143 : decode cX11_forge 143 = .ok (.getfield 376, 3) := dk_1180 (dk_g tcX11_forge_11 11 rfl) (dk_g tcX11_forge_12 0 rfl) (dk_g tcX11_forge_12 1 rfl) rfl
theorem dX11_forge_146 : decode cX11_forge 146 = .ok (.invokevirtual 115, 3) := dk_1182 (dk_g tcX11_forge_12 2 rfl) (dk_g tcX11_forge_12 3 rfl) (dk_g tcX11_forge_12 4 rfl) rfl
theorem dX11_forge_149 : decode cX11_forge 149 = .ok (.ireturn, 1) := dk_1172 (dk_g tcX11_forge_12 5 rfl)
theorem tcX11_trace_0 : (cX11_trace.data.toList.drop 0).take 12 = [28, 29, 184, 1, 45, 153, 0, 16, 21, 4, 155, 0] := by decide +kernel
theorem dX11_trace_0 : decode cX11_trace 0 = .ok (.iload_n 2, 1) := dk_1028 (dk_g tcX11_trace_0 0 rfl)
theorem dX11_trace_1 : decode cX11_trace 1 = .ok (.iload_n 3, 1) := dk_1029 (dk_g tcX11_trace_0 1 rfl)
theorem dX11_trace_2 : decode cX11_trace 2 = .ok (.invokestatic 301, 3) := dk_1184 (dk_g tcX11_trace_0 2 rfl) (dk_g tcX11_trace_0 3 rfl) (dk_g tcX11_trace_0 4 rfl) rfl
theorem dX11_trace_5 : decode cX11_trace 5 = .ok (.ifCond .eq 16, 3) := dk_2153 (dk_g tcX11_trace_0 5 rfl) (dk_g tcX11_trace_0 6 rfl) (dk_g tcX11_trace_0 7 rfl) rfl rfl
theorem dX11_trace_8 : decode cX11_trace 8 = .ok (.iload 4, 2) := dk_1021 (dk_g tcX11_trace_0 8 rfl) (dk_g tcX11_trace_0 9 rfl) rfl
theorem tcX11_trace_1 : (cX11_trace.data.toList.drop 12).take 12 = [11, 42, 27, 182, 0, 188, 154, 0, 9, 42, 4, 182] := by decide +kernel
theorem dX11_trace_10 : decode cX11_trace 10 = .ok (.ifCond .lt 11, 3) := dk_2155 (dk_g tcX11_trace_0 10 rfl) (dk_g tcX11_trace_0 11 rfl) (dk_g tcX11_trace_1 0 rfl) rfl rfl
theorem dX11_trace_13 : decode cX11_trace 13 = .ok (.aload_n 0, 1) := dk_1042 (dk_g tcX11_trace_1 1 rfl)
theorem dX11_trace_14 : decode cX11_trace 14 = .ok (.iload_n 1, 1) := dk_1027 (dk_g tcX11_trace_1 2 rfl)
theorem dX11_trace_15 : decode cX11_trace 15 = .ok (.invokevirtual 188, 3) := dk_1182 (dk_g tcX11_trace_1 3 rfl) (dk_g tcX11_trace_1 4 rfl) (dk_g tcX11_trace_1 5 rfl) rfl
theorem dX11_trace_18 : decode cX11_trace 18 = .ok (.ifCond .ne 9, 3) := dk_2154 (dk_g tcX11_trace_1 6 rfl) (dk_g tcX11_trace_1 7 rfl) (dk_g tcX11_trace_1 8 rfl) rfl rfl
theorem dX11_trace_21 : decode cX11_trace 21 = .ok (.aload_n 0, 1) := dk_1042 (dk_g tcX11_trace_1 9 rfl)
theorem dX11_trace_22 : decode cX11_trace 22 = .ok (.iconst 1, 1) := dk_1004 (dk_g tcX11_trace_1 10 rfl)
theorem tcX11_trace_2 : (cX11_trace.data.toList.drop 24).take 12 = [0, 98, 172, 42, 180, 0, 62, 28, 29, 182, 1, 11] := by decide +kernel
theorem dX11_trace_23 : decode cX11_trace 23 = .ok (.invokevirtual 98, 3) := dk_1182 (dk_g tcX11_trace_1 11 rfl) (dk_g tcX11_trace_2 0 rfl) (dk_g tcX11_trace_2 1 rfl) rfl
theorem dX11_trace_26 : decode cX11_trace 26 = .ok (.ireturn, 1) := dk_1172 (dk_g tcX11_trace_2 2 rfl)
theorem dX11_trace_27 : decode cX11_trace 27 = .ok (.aload_n 0, 1) := dk_1042 (dk_g tcX11_trace_2 3 rfl)
theorem dX11_trace_28 : decode cX11_trace 28 = .ok (.getfield 62, 3) := dk_1180 (dk_g tcX11_trace_2 4 rfl) (dk_g tcX11_trace_2 5 rfl) (dk_g tcX11_trace_2 6 rfl) rfl
theorem dX11_trace_31 : decode cX11_trace 31 = .ok (.iload_n 2, 1) := dk_1028 (dk_g tcX11_trace_2 7 rfl)
theorem dX11_trace_32 : decode cX11_trace 32 = .ok (.iload_n 3, 1) := dk_1029 (dk_g tcX11_trace_2 8 rfl)
theorem dX11_trace_33 : decode cX11_trace 33 = .ok (.invokevirtual 267, 3) := dk_1182 (dk_g tcX11_trace_2 9 rfl) (dk_g tcX11_trace_2 10 rfl) (dk_g tcX11_trace_2 11 rfl) rfl
theorem tcX11_trace_3 : (cX11_trace.data.toList.drop 36).take 12 = [21, 4, 42, 180, 0, 62, 180, 1, 56, 163, 0, 15] := by decide +kernel
theorem dX11_trace_36 : decode cX11_trace 36 = .ok (.iload 4, 2) := dk_1021 (dk_g tcX11_trace_3 0 rfl) (dk_g tcX11_trace_3 1 rfl) rfl
theorem dX11_trace_38 : decode cX11_trace 38 = .ok (.aload_n 0, 1) := dk_1042 (dk_g tcX11_trace_3 2 rfl)
theorem dX11_trace_39 : decode cX11_trace 39 = .ok (.getfield 62, 3) := dk_1180 (dk_g tcX11_trace_3 3 rfl) (dk_g tcX11_trace_3 4 rfl) (dk_g tcX11_trace_3 5 rfl) rfl
theorem dX11_trace_42 : decode cX11_trace 42 = .ok (.getfield 312, 3) := dk_1180 (dk_g tcX11_trace_3 6 rfl) (dk_g tcX11_trace_3 7 rfl) (dk_g tcX11_trace_3 8 rfl) rfl
theorem dX11_trace_45 : decode cX11_trace 45 = .ok (.if_icmp .gt 15, 3) := dk_2163 (dk_g tcX11_trace_3 9 rfl) (dk_g tcX11_trace_3 10 rfl) (dk_g tcX11_trace_3 11 rfl) rfl rfl
theorem tcX11_trace_4 : (cX11_trace.data.toList.drop 48).take 12 = [21, 4, 42, 180, 0, 26, 180, 0, 132, 164, 0, 9] := by decide +kernel
theorem dX11_trace_48 : decode cX11_trace 48 = .ok (.iload 4, 2) := dk_1021 (dk_g tcX11_trace_4 0 rfl) (dk_g tcX11_trace_4 1 rfl) rfl
theorem dX11_trace_50 : decode cX11_trace 50 = .ok (.aload_n 0, 1) := dk_1042 (dk_g tcX11_trace_4 2 rfl)
theorem dX11_trace_51 : decode cX11_trace 51 = .ok (.getfield 26, 3) := dk_1180 (dk_g tcX11_trace_4 3 rfl) (dk_g tcX11_trace_4 4 rfl) (dk_g tcX11_trace_4 5 rfl) rfl
theorem dX11_trace_54 : decode cX11_trace 54 = .ok (.getfield 132, 3) := dk_1180 (dk_g tcX11_trace_4 6 rfl) (dk_g tcX11_trace_4 7 rfl) (dk_g tcX11_trace_4 8 rfl) rfl
theorem dX11_trace_57 : decode cX11_trace 57 = .ok (.if_icmp .le 9, 3) := dk_2164 (dk_g tcX11_trace_4 9 rfl) (dk_g tcX11_trace_4 10 rfl) (dk_g tcX11_trace_4 11 rfl) rfl rfl
theorem tcX11_trace_5 : (cX11_trace.data.toList.drop 60).take 12 = [42, 8, 182, 0, 98, 172, 42, 42, 180, 0, 62, 42] := by decide +kernel
theorem dX11_trace_60 : decode cX11_trace 60 = .ok (.aload_n 0, 1) := dk_1042 (dk_g tcX11_trace_5 0 rfl)
theorem dX11_trace_61 : decode cX11_trace 61 = .ok (.iconst 5, 1) := dk_1008 (dk_g tcX11_trace_5 1 rfl)
theorem dX11_trace_62 : decode cX11_trace 62 = .ok (.invokevirtual 98, 3) := dk_1182 (dk_g tcX11_trace_5 2 rfl) (dk_g tcX11_trace_5 3 rfl) (dk_g tcX11_trace_5 4 rfl) rfl
theorem dX11_trace_65 : decode cX11_trace 65 = .ok (.ireturn, 1) := dk_1172 (dk_g tcX11_trace_5 5 rfl)
theorem dX11_trace_66 : decode cX11_trace 66 = .ok (.aload_n 0, 1) := dk_1042 (dk_g tcX11_trace_5 6 rfl)
theorem dX11_trace_67 : decode cX11_trace 67 = .ok (.aload_n 0, 1) := dk_1042 (dk_g tcX11_trace_5 7 rfl)
theorem dX11_trace_68 : decode cX11_trace 68 = .ok (.getfield 62, 3) := dk_1180 (dk_g tcX11_trace_5 8 rfl) (dk_g tcX11_trace_5 9 rfl) (dk_g tcX11_trace_5 10 rfl) rfl
theorem dX11_trace_71 : decode cX11_trace 71 = .ok (.aload_n 0, 1) := dk_1042 (dk_g tcX11_trace_5 11 rfl)
theorem tcX11_trace_6 : (cX11_trace.data.toList.drop 72).take 12 = [180, 0, 16, 180, 0, 122, 42, 180, 0, 26, 27, 21] := by decide +kernel
theorem dX11_trace_72 : decode cX11_trace 72 = .ok (.getfield 16, 3) := dk_1180 (dk_g tcX11_trace_6 0 rfl) (dk_g tcX11_trace_6 1 rfl) (dk_g tcX11_trace_6 2 rfl) rfl
theorem dX11_trace_75 : decode cX11_trace 75 = .ok (.getfield 122, 3) := dk_1180 (dk_g tcX11_trace_6 3 rfl) (dk_g tcX11_trace_6 4 rfl) (dk_g tcX11_trace_6 5 rfl) rfl
theorem dX11_trace_78 : decode cX11_trace 78 = .ok (.aload_n 0, 1) := dk_1042 (dk_g tcX11_trace_6 6 rfl)
theorem dX11_trace_79 : decode cX11_trace 79 = .ok (.getfield 26, 3) := dk_1180 (dk_g tcX11_trace_6 7 rfl) (dk_g tcX11_trace_6 8 rfl) (dk_g tcX11_trace_6 9 rfl) rfl
theorem dX11_trace_82 : decode cX11_trace 82 = .ok (.iload_n 1, 1) := dk_1027 (dk_g tcX11_trace_6 10 rfl)
theorem tcX11_trace_7 : (cX11_trace.data.toList.drop 84).take 12 = [4, 182, 1, 126, 182, 0, 115, 172] := by decide +kernel
theorem dX11_trace_83 : decode cX11_trace 83 = .ok (.iload 4, 2) := dk_1021 (dk_g tcX11_trace_6 11 rfl) (dk_g tcX11_trace_7 0 rfl) rfl
theorem dX11_trace_85 : decode cX11_trace 85 = .ok (.invokevirtual 382, 3) := dk_1182 (dk_g tcX11_trace_7 1 rfl) (dk_g tcX11_trace_7 2 rfl) (dk_g tcX11_trace_7 3 rfl) rfl
theorem dX11_trace_88 : decode cX11_trace 88 = .ok (.invokevirtual 115, 3) := dk_1182 (dk_g tcX11_trace_7 4 rfl) (dk_g tcX11_trace_7 5 rfl) (dk_g tcX11_trace_7 6 rfl) rfl
theorem dX11_trace_91 : decode cX11_trace 91 = .ok (.ireturn, 1) := dk_1172 (dk_g tcX11_trace_7 7 rfl)
theorem tcX11_span_0 : (cX11_span.data.toList.drop 0).take 12 = [27, 28, 184, 1, 45, 153, 0, 18, 29, 155, 0, 14] := by decide +kernel
theorem dX11_span_0 : decode cX11_span 0 = .ok (.iload_n 1, 1) := dk_1027 (dk_g tcX11_span_0 0 rfl)
theorem dX11_span_1 : decode cX11_span 1 = .ok (.iload_n 2, 1) := dk_1028 (dk_g tcX11_span_0 1 rfl)
theorem dX11_span_2 : decode cX11_span 2 = .ok (.invokestatic 301, 3) := dk_1184 (dk_g tcX11_span_0 2 rfl) (dk_g tcX11_span_0 3 rfl) (dk_g tcX11_span_0 4 rfl) rfl
theorem dX11_span_5 : decode cX11_span 5 = .ok (.ifCond .eq 18, 3) := dk_2153 (dk_g tcX11_span_0 5 rfl) (dk_g tcX11_span_0 6 rfl) (dk_g tcX11_span_0 7 rfl) rfl rfl
theorem dX11_span_8 : decode cX11_span 8 = .ok (.iload_n 3, 1) := dk_1029 (dk_g tcX11_span_0 8 rfl)
theorem dX11_span_9 : decode cX11_span 9 = .ok (.ifCond .lt 14, 3) := dk_2155 (dk_g tcX11_span_0 9 rfl) (dk_g tcX11_span_0 10 rfl) (dk_g tcX11_span_0 11 rfl) rfl rfl
theorem tcX11_span_1 : (cX11_span.data.toList.drop 12).take 12 = [21, 4, 155, 0, 9, 21, 4, 4, 164, 0, 9, 42] := by decide +kernel
theorem dX11_span_12 : decode cX11_span 12 = .ok (.iload 4, 2) := dk_1021 (dk_g tcX11_span_1 0 rfl) (dk_g tcX11_span_1 1 rfl) rfl
theorem dX11_span_14 : decode cX11_span 14 = .ok (.ifCond .lt 9, 3) := dk_2155 (dk_g tcX11_span_1 2 rfl) (dk_g tcX11_span_1 3 rfl) (dk_g tcX11_span_1 4 rfl) rfl rfl
theorem dX11_span_17 : decode cX11_span 17 = .ok (.iload 4, 2) := dk_1021 (dk_g tcX11_span_1 5 rfl) (dk_g tcX11_span_1 6 rfl) rfl
theorem dX11_span_19 : decode cX11_span 19 = .ok (.iconst 1, 1) := dk_1004 (dk_g tcX11_span_1 7 rfl)
theorem dX11_span_20 : decode cX11_span 20 = .ok (.if_icmp .le 9, 3) := dk_2164 (dk_g tcX11_span_1 8 rfl) (dk_g tcX11_span_1 9 rfl) (dk_g tcX11_span_1 10 rfl) rfl rfl
theorem dX11_span_23 : decode cX11_span 23 = .ok (.aload_n 0, 1) := dk_1042 (dk_g tcX11_span_1 11 rfl)
theorem tcX11_span_2 : (cX11_span.data.toList.drop 24).take 12 = [4, 182, 0, 98, 172, 42, 180, 0, 62, 27, 28, 182] := by decide +kernel
theorem dX11_span_24 : decode cX11_span 24 = .ok (.iconst 1, 1) := dk_1004 (dk_g tcX11_span_2 0 rfl)
theorem dX11_span_25 : decode cX11_span 25 = .ok (.invokevirtual 98, 3) := dk_1182 (dk_g tcX11_span_2 1 rfl) (dk_g tcX11_span_2 2 rfl) (dk_g tcX11_span_2 3 rfl) rfl
theorem dX11_span_28 : decode cX11_span 28 = .ok (.ireturn, 1) := dk_1172 (dk_g tcX11_span_2 4 rfl)
theorem dX11_span_29 : decode cX11_span 29 = .ok (.aload_n 0, 1) := dk_1042 (dk_g tcX11_span_2 5 rfl)
theorem dX11_span_30 : decode cX11_span 30 = .ok (.getfield 62, 3) := dk_1180 (dk_g tcX11_span_2 6 rfl) (dk_g tcX11_span_2 7 rfl) (dk_g tcX11_span_2 8 rfl) rfl
theorem dX11_span_33 : decode cX11_span 33 = .ok (.iload_n 1, 1) := dk_1027 (dk_g tcX11_span_2 9 rfl)
theorem dX11_span_34 : decode cX11_span 34 = .ok (.iload_n 2, 1) := dk_1028 (dk_g tcX11_span_2 10 rfl)
theorem tcX11_span_3 : (cX11_span.data.toList.drop 36).take 12 = [1, 11, 42, 29, 21, 4, 182, 1, 136, 172] := by decide +kernel
theorem dX11_span_35 : decode cX11_span 35 = .ok (.invokevirtual 267, 3) := dk_1182 (dk_g tcX11_span_2 11 rfl) (dk_g tcX11_span_3 0 rfl) (dk_g tcX11_span_3 1 rfl) rfl
theorem dX11_span_38 : decode cX11_span 38 = .ok (.aload_n 0, 1) := dk_1042 (dk_g tcX11_span_3 2 rfl)
theorem dX11_span_39 : decode cX11_span 39 = .ok (.iload_n 3, 1) := dk_1029 (dk_g tcX11_span_3 3 rfl)
theorem dX11_span_40 : decode cX11_span 40 = .ok (.iload 4, 2) := dk_1021 (dk_g tcX11_span_3 4 rfl) (dk_g tcX11_span_3 5 rfl) rfl
theorem dX11_span_42 : decode cX11_span 42 = .ok (.invokevirtual 392, 3) := dk_1182 (dk_g tcX11_span_3 6 rfl) (dk_g tcX11_span_3 7 rfl) (dk_g tcX11_span_3 8 rfl) rfl
theorem dX11_span_45 : decode cX11_span 45 = .ok (.ireturn, 1) := dk_1172 (dk_g tcX11_span_3 9 rfl)
theorem tcX11_rise_0 : (cX11_rise.data.toList.drop 0).take 12 = [27, 155, 0, 23, 27, 28, 163, 0, 18, 29, 155, 0] := by decide +kernel
theorem dX11_rise_0 : decode cX11_rise 0 = .ok (.iload_n 1, 1) := dk_1027 (dk_g tcX11_rise_0 0 rfl)
theorem dX11_rise_1 : decode cX11_rise 1 = .ok (.ifCond .lt 23, 3) := dk_2155 (dk_g tcX11_rise_0 1 rfl) (dk_g tcX11_rise_0 2 rfl) (dk_g tcX11_rise_0 3 rfl) rfl rfl
theorem dX11_rise_4 : decode cX11_rise 4 = .ok (.iload_n 1, 1) := dk_1027 (dk_g tcX11_rise_0 4 rfl)
theorem dX11_rise_5 : decode cX11_rise 5 = .ok (.iload_n 2, 1) := dk_1028 (dk_g tcX11_rise_0 5 rfl)
theorem dX11_rise_6 : decode cX11_rise 6 = .ok (.if_icmp .gt 18, 3) := dk_2163 (dk_g tcX11_rise_0 6 rfl) (dk_g tcX11_rise_0 7 rfl) (dk_g tcX11_rise_0 8 rfl) rfl rfl
theorem dX11_rise_9 : decode cX11_rise 9 = .ok (.iload_n 3, 1) := dk_1029 (dk_g tcX11_rise_0 9 rfl)
theorem tcX11_rise_1 : (cX11_rise.data.toList.drop 12).take 12 = [14, 21, 4, 155, 0, 9, 21, 4, 4, 164, 0, 9] := by decide +kernel
theorem dX11_rise_10 : decode cX11_rise 10 = .ok (.ifCond .lt 14, 3) := dk_2155 (dk_g tcX11_rise_0 10 rfl) (dk_g tcX11_rise_0 11 rfl) (dk_g tcX11_rise_1 0 rfl) rfl rfl
theorem dX11_rise_13 : decode cX11_rise 13 = .ok (.iload 4, 2) := dk_1021 (dk_g tcX11_rise_1 1 rfl) (dk_g tcX11_rise_1 2 rfl) rfl
theorem dX11_rise_15 : decode cX11_rise 15 = .ok (.ifCond .lt 9, 3) := dk_2155 (dk_g tcX11_rise_1 3 rfl) (dk_g tcX11_rise_1 4 rfl) (dk_g tcX11_rise_1 5 rfl) rfl rfl
theorem dX11_rise_18 : decode cX11_rise 18 = .ok (.iload 4, 2) := dk_1021 (dk_g tcX11_rise_1 6 rfl) (dk_g tcX11_rise_1 7 rfl) rfl
theorem dX11_rise_20 : decode cX11_rise 20 = .ok (.iconst 1, 1) := dk_1004 (dk_g tcX11_rise_1 8 rfl)
theorem dX11_rise_21 : decode cX11_rise 21 = .ok (.if_icmp .le 9, 3) := dk_2164 (dk_g tcX11_rise_1 9 rfl) (dk_g tcX11_rise_1 10 rfl) (dk_g tcX11_rise_1 11 rfl) rfl rfl
theorem tcX11_rise_2 : (cX11_rise.data.toList.drop 24).take 12 = [42, 4, 182, 0, 98, 172, 42, 180, 0, 62, 27, 28] := by decide +kernel
theorem dX11_rise_24 : decode cX11_rise 24 = .ok (.aload_n 0, 1) := dk_1042 (dk_g tcX11_rise_2 0 rfl)
theorem dX11_rise_25 : decode cX11_rise 25 = .ok (.iconst 1, 1) := dk_1004 (dk_g tcX11_rise_2 1 rfl)
theorem dX11_rise_26 : decode cX11_rise 26 = .ok (.invokevirtual 98, 3) := dk_1182 (dk_g tcX11_rise_2 2 rfl) (dk_g tcX11_rise_2 3 rfl) (dk_g tcX11_rise_2 4 rfl) rfl
theorem dX11_rise_29 : decode cX11_rise 29 = .ok (.ireturn, 1) := dk_1172 (dk_g tcX11_rise_2 5 rfl)
theorem dX11_rise_30 : decode cX11_rise 30 = .ok (.aload_n 0, 1) := dk_1042 (dk_g tcX11_rise_2 6 rfl)
theorem dX11_rise_31 : decode cX11_rise 31 = .ok (.getfield 62, 3) := dk_1180 (dk_g tcX11_rise_2 7 rfl) (dk_g tcX11_rise_2 8 rfl) (dk_g tcX11_rise_2 9 rfl) rfl
theorem dX11_rise_34 : decode cX11_rise 34 = .ok (.iload_n 1, 1) := dk_1027 (dk_g tcX11_rise_2 10 rfl)
theorem dX11_rise_35 : decode cX11_rise 35 = .ok (.iload_n 2, 1) := dk_1028 (dk_g tcX11_rise_2 11 rfl)
theorem tcX11_rise_3 : (cX11_rise.data.toList.drop 36).take 12 = [182, 1, 18, 42, 29, 21, 4, 182, 1, 136, 172] := by decide +kernel
theorem dX11_rise_36 : decode cX11_rise 36 = .ok (.invokevirtual 274, 3) := dk_1182 (dk_g tcX11_rise_3 0 rfl) (dk_g tcX11_rise_3 1 rfl) (dk_g tcX11_rise_3 2 rfl) rfl
theorem dX11_rise_39 : decode cX11_rise 39 = .ok (.aload_n 0, 1) := dk_1042 (dk_g tcX11_rise_3 3 rfl)
theorem dX11_rise_40 : decode cX11_rise 40 = .ok (.iload_n 3, 1) := dk_1029 (dk_g tcX11_rise_3 4 rfl)
theorem dX11_rise_41 : decode cX11_rise 41 = .ok (.iload 4, 2) := dk_1021 (dk_g tcX11_rise_3 5 rfl) (dk_g tcX11_rise_3 6 rfl) rfl
theorem dX11_rise_43 : decode cX11_rise 43 = .ok (.invokevirtual 392, 3) := dk_1182 (dk_g tcX11_rise_3 7 rfl) (dk_g tcX11_rise_3 8 rfl) (dk_g tcX11_rise_3 9 rfl) rfl
theorem dX11_rise_46 : decode cX11_rise 46 = .ok (.ireturn, 1) := dk_1172 (dk_g tcX11_rise_3 10 rfl)
theorem tcX11_kept_0 : (cX11_kept.data.toList.drop 0).take 12 = [27, 28, 184, 1, 45, 153, 0, 8, 29, 28, 162, 0] := by decide +kernel
theorem dX11_kept_0 : decode cX11_kept 0 = .ok (.iload_n 1, 1) := dk_1027 (dk_g tcX11_kept_0 0 rfl)
theorem dX11_kept_1 : decode cX11_kept 1 = .ok (.iload_n 2, 1) := dk_1028 (dk_g tcX11_kept_0 1 rfl)
theorem dX11_kept_2 : decode cX11_kept 2 = .ok (.invokestatic 301, 3) := dk_1184 (dk_g tcX11_kept_0 2 rfl) (dk_g tcX11_kept_0 3 rfl) (dk_g tcX11_kept_0 4 rfl) rfl
theorem dX11_kept_5 : decode cX11_kept 5 = .ok (.ifCond .eq 8, 3) := dk_2153 (dk_g tcX11_kept_0 5 rfl) (dk_g tcX11_kept_0 6 rfl) (dk_g tcX11_kept_0 7 rfl) rfl rfl
theorem dX11_kept_8 : decode cX11_kept 8 = .ok (.iload_n 3, 1) := dk_1029 (dk_g tcX11_kept_0 8 rfl)
theorem dX11_kept_9 : decode cX11_kept 9 = .ok (.iload_n 2, 1) := dk_1028 (dk_g tcX11_kept_0 9 rfl)
theorem tcX11_kept_1 : (cX11_kept.data.toList.drop 12).take 12 = [9, 42, 4, 182, 0, 98, 172, 42, 180, 0, 62, 27] := by decide +kernel
theorem dX11_kept_10 : decode cX11_kept 10 = .ok (.if_icmp .ge 9, 3) := dk_2162 (dk_g tcX11_kept_0 10 rfl) (dk_g tcX11_kept_0 11 rfl) (dk_g tcX11_kept_1 0 rfl) rfl rfl
theorem dX11_kept_13 : decode cX11_kept 13 = .ok (.aload_n 0, 1) := dk_1042 (dk_g tcX11_kept_1 1 rfl)
theorem dX11_kept_14 : decode cX11_kept 14 = .ok (.iconst 1, 1) := dk_1004 (dk_g tcX11_kept_1 2 rfl)
theorem dX11_kept_15 : decode cX11_kept 15 = .ok (.invokevirtual 98, 3) := dk_1182 (dk_g tcX11_kept_1 3 rfl) (dk_g tcX11_kept_1 4 rfl) (dk_g tcX11_kept_1 5 rfl) rfl
theorem dX11_kept_18 : decode cX11_kept 18 = .ok (.ireturn, 1) := dk_1172 (dk_g tcX11_kept_1 6 rfl)
theorem dX11_kept_19 : decode cX11_kept 19 = .ok (.aload_n 0, 1) := dk_1042 (dk_g tcX11_kept_1 7 rfl)
theorem dX11_kept_20 : decode cX11_kept 20 = .ok (.getfield 62, 3) := dk_1180 (dk_g tcX11_kept_1 8 rfl) (dk_g tcX11_kept_1 9 rfl) (dk_g tcX11_kept_1 10 rfl) rfl
theorem dX11_kept_23 : decode cX11_kept 23 = .ok (.iload_n 1, 1) := dk_1027 (dk_g tcX11_kept_1 11 rfl)
theorem tcX11_kept_2 : (cX11_kept.data.toList.drop 24).take 12 = [28, 182, 1, 11, 42, 180, 0, 66, 27, 29, 182, 1] := by decide +kernel
theorem dX11_kept_24 : decode cX11_kept 24 = .ok (.iload_n 2, 1) := dk_1028 (dk_g tcX11_kept_2 0 rfl)
theorem dX11_kept_25 : decode cX11_kept 25 = .ok (.invokevirtual 267, 3) := dk_1182 (dk_g tcX11_kept_2 1 rfl) (dk_g tcX11_kept_2 2 rfl) (dk_g tcX11_kept_2 3 rfl) rfl
theorem dX11_kept_28 : decode cX11_kept 28 = .ok (.aload_n 0, 1) := dk_1042 (dk_g tcX11_kept_2 4 rfl)
theorem dX11_kept_29 : decode cX11_kept 29 = .ok (.getfield 66, 3) := dk_1180 (dk_g tcX11_kept_2 5 rfl) (dk_g tcX11_kept_2 6 rfl) (dk_g tcX11_kept_2 7 rfl) rfl
theorem dX11_kept_32 : decode cX11_kept 32 = .ok (.iload_n 1, 1) := dk_1027 (dk_g tcX11_kept_2 8 rfl)
theorem dX11_kept_33 : decode cX11_kept 33 = .ok (.iload_n 3, 1) := dk_1029 (dk_g tcX11_kept_2 9 rfl)
theorem tcX11_kept_3 : (cX11_kept.data.toList.drop 36).take 12 = [11, 42, 42, 180, 0, 62, 42, 180, 0, 66, 182, 1] := by decide +kernel
theorem dX11_kept_34 : decode cX11_kept 34 = .ok (.invokevirtual 267, 3) := dk_1182 (dk_g tcX11_kept_2 10 rfl) (dk_g tcX11_kept_2 11 rfl) (dk_g tcX11_kept_3 0 rfl) rfl
theorem dX11_kept_37 : decode cX11_kept 37 = .ok (.aload_n 0, 1) := dk_1042 (dk_g tcX11_kept_3 1 rfl)
theorem dX11_kept_38 : decode cX11_kept 38 = .ok (.aload_n 0, 1) := dk_1042 (dk_g tcX11_kept_3 2 rfl)
theorem dX11_kept_39 : decode cX11_kept 39 = .ok (.getfield 62, 3) := dk_1180 (dk_g tcX11_kept_3 3 rfl) (dk_g tcX11_kept_3 4 rfl) (dk_g tcX11_kept_3 5 rfl) rfl
theorem dX11_kept_42 : decode cX11_kept 42 = .ok (.aload_n 0, 1) := dk_1042 (dk_g tcX11_kept_3 6 rfl)
theorem dX11_kept_43 : decode cX11_kept 43 = .ok (.getfield 66, 3) := dk_1180 (dk_g tcX11_kept_3 7 rfl) (dk_g tcX11_kept_3 8 rfl) (dk_g tcX11_kept_3 9 rfl) rfl
theorem tcX11_kept_4 : (cX11_kept.data.toList.drop 48).take 12 = [139, 182, 0, 115, 172] := by decide +kernel
theorem dX11_kept_46 : decode cX11_kept 46 = .ok (.invokevirtual 395, 3) := dk_1182 (dk_g tcX11_kept_3 10 rfl) (dk_g tcX11_kept_3 11 rfl) (dk_g tcX11_kept_4 0 rfl) rfl
theorem dX11_kept_49 : decode cX11_kept 49 = .ok (.invokevirtual 115, 3) := dk_1182 (dk_g tcX11_kept_4 1 rfl) (dk_g tcX11_kept_4 2 rfl) (dk_g tcX11_kept_4 3 rfl) rfl
theorem dX11_kept_52 : decode cX11_kept 52 = .ok (.ireturn, 1) := dk_1172 (dk_g tcX11_kept_4 4 rfl)
theorem tcX11_sick_0 : (cX11_sick.data.toList.drop 0).take 12 = [27, 156, 0, 9, 42, 4, 182, 0, 98, 172, 42, 180] := by decide +kernel
theorem dX11_sick_0 : decode cX11_sick 0 = .ok (.iload_n 1, 1) := dk_1027 (dk_g tcX11_sick_0 0 rfl)
theorem dX11_sick_1 : decode cX11_sick 1 = .ok (.ifCond .ge 9, 3) := dk_2156 (dk_g tcX11_sick_0 1 rfl) (dk_g tcX11_sick_0 2 rfl) (dk_g tcX11_sick_0 3 rfl) rfl rfl
theorem dX11_sick_4 : decode cX11_sick 4 = .ok (.aload_n 0, 1) := dk_1042 (dk_g tcX11_sick_0 4 rfl)
theorem dX11_sick_5 : decode cX11_sick 5 = .ok (.iconst 1, 1) := dk_1004 (dk_g tcX11_sick_0 5 rfl)
theorem dX11_sick_6 : decode cX11_sick 6 = .ok (.invokevirtual 98, 3) := dk_1182 (dk_g tcX11_sick_0 6 rfl) (dk_g tcX11_sick_0 7 rfl) (dk_g tcX11_sick_0 8 rfl) rfl
theorem dX11_sick_9 : decode cX11_sick 9 = .ok (.ireturn, 1) := dk_1172 (dk_g tcX11_sick_0 9 rfl)
theorem dX11_sick_10 : decode cX11_sick 10 = .ok (.aload_n 0, 1) := dk_1042 (dk_g tcX11_sick_0 10 rfl)
theorem tcX11_sick_1 : (cX11_sick.data.toList.drop 12).take 12 = [0, 16, 27, 182, 0, 198, 77, 44, 199, 0, 11, 42] := by decide +kernel
theorem dX11_sick_11 : decode cX11_sick 11 = .ok (.getfield 16, 3) := dk_1180 (dk_g tcX11_sick_0 11 rfl) (dk_g tcX11_sick_1 0 rfl) (dk_g tcX11_sick_1 1 rfl) rfl
theorem dX11_sick_14 : decode cX11_sick 14 = .ok (.iload_n 1, 1) := dk_1027 (dk_g tcX11_sick_1 2 rfl)
theorem dX11_sick_15 : decode cX11_sick 15 = .ok (.invokevirtual 198, 3) := dk_1182 (dk_g tcX11_sick_1 3 rfl) (dk_g tcX11_sick_1 4 rfl) (dk_g tcX11_sick_1 5 rfl) rfl
theorem dX11_sick_18 : decode cX11_sick 18 = .ok (.astore_n 2, 1) := dk_1077 (dk_g tcX11_sick_1 6 rfl)
theorem dX11_sick_19 : decode cX11_sick 19 = .ok (.aload_n 2, 1) := dk_1044 (dk_g tcX11_sick_1 7 rfl)
theorem dX11_sick_20 : decode cX11_sick 20 = .ok (.ifnonnull 11, 3) := dk_2199 (dk_g tcX11_sick_1 8 rfl) (dk_g tcX11_sick_1 9 rfl) (dk_g tcX11_sick_1 10 rfl) rfl rfl
theorem dX11_sick_23 : decode cX11_sick 23 = .ok (.aload_n 0, 1) := dk_1042 (dk_g tcX11_sick_1 11 rfl)
theorem tcX11_sick_2 : (cX11_sick.data.toList.drop 24).take 12 = [8, 182, 0, 98, 167, 0, 19, 42, 42, 180, 0, 16] := by decide +kernel
theorem dX11_sick_24 : decode cX11_sick 24 = .ok (.iconst 5, 1) := dk_1008 (dk_g tcX11_sick_2 0 rfl)
theorem dX11_sick_25 : decode cX11_sick 25 = .ok (.invokevirtual 98, 3) := dk_1182 (dk_g tcX11_sick_2 1 rfl) (dk_g tcX11_sick_2 2 rfl) (dk_g tcX11_sick_2 3 rfl) rfl
theorem dX11_sick_28 : decode cX11_sick 28 = .ok (.goto 19, 3) := dk_2167 (dk_g tcX11_sick_2 4 rfl) (dk_g tcX11_sick_2 5 rfl) (dk_g tcX11_sick_2 6 rfl) rfl rfl
theorem dX11_sick_31 : decode cX11_sick 31 = .ok (.aload_n 0, 1) := dk_1042 (dk_g tcX11_sick_2 7 rfl)
theorem dX11_sick_32 : decode cX11_sick 32 = .ok (.aload_n 0, 1) := dk_1042 (dk_g tcX11_sick_2 8 rfl)
theorem dX11_sick_33 : decode cX11_sick 33 = .ok (.getfield 16, 3) := dk_1180 (dk_g tcX11_sick_2 9 rfl) (dk_g tcX11_sick_2 10 rfl) (dk_g tcX11_sick_2 11 rfl) rfl
theorem tcX11_sick_3 : (cX11_sick.data.toList.drop 36).take 12 = [44, 42, 180, 0, 69, 182, 1, 143, 182, 0, 115, 172] := by decide +kernel
theorem dX11_sick_36 : decode cX11_sick 36 = .ok (.aload_n 2, 1) := dk_1044 (dk_g tcX11_sick_3 0 rfl)
theorem dX11_sick_37 : decode cX11_sick 37 = .ok (.aload_n 0, 1) := dk_1042 (dk_g tcX11_sick_3 1 rfl)
theorem dX11_sick_38 : decode cX11_sick 38 = .ok (.getfield 69, 3) := dk_1180 (dk_g tcX11_sick_3 2 rfl) (dk_g tcX11_sick_3 3 rfl) (dk_g tcX11_sick_3 4 rfl) rfl
theorem dX11_sick_41 : decode cX11_sick 41 = .ok (.invokevirtual 399, 3) := dk_1182 (dk_g tcX11_sick_3 5 rfl) (dk_g tcX11_sick_3 6 rfl) (dk_g tcX11_sick_3 7 rfl) rfl
theorem dX11_sick_44 : decode cX11_sick 44 = .ok (.invokevirtual 115, 3) := dk_1182 (dk_g tcX11_sick_3 8 rfl) (dk_g tcX11_sick_3 9 rfl) (dk_g tcX11_sick_3 10 rfl) rfl
theorem dX11_sick_47 : decode cX11_sick 47 = .ok (.ireturn, 1) := dk_1172 (dk_g tcX11_sick_3 11 rfl)
theorem tcX11_chain_0 : (cX11_chain.data.toList.drop 0).take 12 = [28, 155, 0, 8, 28, 5, 164, 0, 9, 42, 4, 182] := by decide +kernel
theorem dX11_chain_0 : decode cX11_chain 0 = .ok (.iload_n 2, 1) := dk_1028 (dk_g tcX11_chain_0 0 rfl)
theorem dX11_chain_1 : decode cX11_chain 1 = .ok (.ifCond .lt 8, 3) := dk_2155 (dk_g tcX11_chain_0 1 rfl) (dk_g tcX11_chain_0 2 rfl) (dk_g tcX11_chain_0 3 rfl) rfl rfl
theorem dX11_chain_4 : decode cX11_chain 4 = .ok (.iload_n 2, 1) := dk_1028 (dk_g tcX11_chain_0 4 rfl)
theorem dX11_chain_5 : decode cX11_chain 5 = .ok (.iconst 2, 1) := dk_1005 (dk_g tcX11_chain_0 5 rfl)
theorem dX11_chain_6 : decode cX11_chain 6 = .ok (.if_icmp .le 9, 3) := dk_2164 (dk_g tcX11_chain_0 6 rfl) (dk_g tcX11_chain_0 7 rfl) (dk_g tcX11_chain_0 8 rfl) rfl rfl
theorem dX11_chain_9 : decode cX11_chain 9 = .ok (.aload_n 0, 1) := dk_1042 (dk_g tcX11_chain_0 9 rfl)
theorem dX11_chain_10 : decode cX11_chain 10 = .ok (.iconst 1, 1) := dk_1004 (dk_g tcX11_chain_0 10 rfl)
theorem tcX11_chain_1 : (cX11_chain.data.toList.drop 12).take 12 = [0, 98, 172, 42, 180, 0, 16, 27, 182, 0, 163, 199] := by decide +kernel
theorem dX11_chain_11 : decode cX11_chain 11 = .ok (.invokevirtual 98, 3) := dk_1182 (dk_g tcX11_chain_0 11 rfl) (dk_g tcX11_chain_1 0 rfl) (dk_g tcX11_chain_1 1 rfl) rfl
theorem dX11_chain_14 : decode cX11_chain 14 = .ok (.ireturn, 1) := dk_1172 (dk_g tcX11_chain_1 2 rfl)
theorem dX11_chain_15 : decode cX11_chain 15 = .ok (.aload_n 0, 1) := dk_1042 (dk_g tcX11_chain_1 3 rfl)
theorem dX11_chain_16 : decode cX11_chain 16 = .ok (.getfield 16, 3) := dk_1180 (dk_g tcX11_chain_1 4 rfl) (dk_g tcX11_chain_1 5 rfl) (dk_g tcX11_chain_1 6 rfl) rfl
theorem dX11_chain_19 : decode cX11_chain 19 = .ok (.iload_n 1, 1) := dk_1027 (dk_g tcX11_chain_1 7 rfl)
theorem dX11_chain_20 : decode cX11_chain 20 = .ok (.invokevirtual 163, 3) := dk_1182 (dk_g tcX11_chain_1 8 rfl) (dk_g tcX11_chain_1 9 rfl) (dk_g tcX11_chain_1 10 rfl) rfl
theorem tcX11_chain_2 : (cX11_chain.data.toList.drop 24).take 12 = [0, 9, 42, 5, 182, 0, 98, 172, 3, 62, 3, 54] := by decide +kernel
theorem dX11_chain_23 : decode cX11_chain 23 = .ok (.ifnonnull 9, 3) := dk_2199 (dk_g tcX11_chain_1 11 rfl) (dk_g tcX11_chain_2 0 rfl) (dk_g tcX11_chain_2 1 rfl) rfl rfl
theorem dX11_chain_26 : decode cX11_chain 26 = .ok (.aload_n 0, 1) := dk_1042 (dk_g tcX11_chain_2 2 rfl)
theorem dX11_chain_27 : decode cX11_chain 27 = .ok (.iconst 2, 1) := dk_1005 (dk_g tcX11_chain_2 3 rfl)
theorem dX11_chain_28 : decode cX11_chain 28 = .ok (.invokevirtual 98, 3) := dk_1182 (dk_g tcX11_chain_2 4 rfl) (dk_g tcX11_chain_2 5 rfl) (dk_g tcX11_chain_2 6 rfl) rfl
theorem dX11_chain_31 : decode cX11_chain 31 = .ok (.ireturn, 1) := dk_1172 (dk_g tcX11_chain_2 7 rfl)
theorem dX11_chain_32 : decode cX11_chain 32 = .ok (.iconst 0, 1) := dk_1003 (dk_g tcX11_chain_2 8 rfl)
theorem dX11_chain_33 : decode cX11_chain 33 = .ok (.istore_n 3, 1) := dk_1062 (dk_g tcX11_chain_2 9 rfl)
theorem dX11_chain_34 : decode cX11_chain 34 = .ok (.iconst 0, 1) := dk_1003 (dk_g tcX11_chain_2 10 rfl)
theorem tcX11_chain_3 : (cX11_chain.data.toList.drop 36).take 12 = [4, 3, 54, 5, 2, 54, 6, 3, 54, 7, 21, 7] := by decide +kernel
theorem dX11_chain_35 : decode cX11_chain 35 = .ok (.istore 4, 2) := dk_1054 (dk_g tcX11_chain_2 11 rfl) (dk_g tcX11_chain_3 0 rfl) rfl
theorem dX11_chain_37 : decode cX11_chain 37 = .ok (.iconst 0, 1) := dk_1003 (dk_g tcX11_chain_3 1 rfl)
theorem dX11_chain_38 : decode cX11_chain 38 = .ok (.istore 5, 2) := dk_1054 (dk_g tcX11_chain_3 2 rfl) (dk_g tcX11_chain_3 3 rfl) rfl
theorem dX11_chain_40 : decode cX11_chain 40 = .ok (.iconst (-1), 1) := dk_1002 (dk_g tcX11_chain_3 4 rfl)
theorem dX11_chain_41 : decode cX11_chain 41 = .ok (.istore 6, 2) := dk_1054 (dk_g tcX11_chain_3 5 rfl) (dk_g tcX11_chain_3 6 rfl) rfl
theorem dX11_chain_43 : decode cX11_chain 43 = .ok (.iconst 0, 1) := dk_1003 (dk_g tcX11_chain_3 7 rfl)
theorem dX11_chain_44 : decode cX11_chain 44 = .ok (.istore 7, 2) := dk_1054 (dk_g tcX11_chain_3 8 rfl) (dk_g tcX11_chain_3 9 rfl) rfl
theorem dX11_chain_46 : decode cX11_chain 46 = .ok (.iload 7, 2) := dk_1021 (dk_g tcX11_chain_3 10 rfl) (dk_g tcX11_chain_3 11 rfl) rfl
theorem tcX11_chain_4 : (cX11_chain.data.toList.drop 48).take 12 = [16, 16, 163, 0, 74, 42, 180, 0, 16, 27, 21, 6] := by decide +kernel
theorem dX11_chain_48 : decode cX11_chain 48 = .ok (.bipush 16, 2) := dk_1016 (dk_g tcX11_chain_4 0 rfl) (dk_g tcX11_chain_4 1 rfl) (by decide +kernel)
theorem dX11_chain_50 : decode cX11_chain 50 = .ok (.if_icmp .gt 74, 3) := dk_2163 (dk_g tcX11_chain_4 2 rfl) (dk_g tcX11_chain_4 3 rfl) (dk_g tcX11_chain_4 4 rfl) rfl rfl
theorem dX11_chain_53 : decode cX11_chain 53 = .ok (.aload_n 0, 1) := dk_1042 (dk_g tcX11_chain_4 5 rfl)
theorem dX11_chain_54 : decode cX11_chain 54 = .ok (.getfield 16, 3) := dk_1180 (dk_g tcX11_chain_4 6 rfl) (dk_g tcX11_chain_4 7 rfl) (dk_g tcX11_chain_4 8 rfl) rfl
theorem dX11_chain_57 : decode cX11_chain 57 = .ok (.iload_n 1, 1) := dk_1027 (dk_g tcX11_chain_4 9 rfl)
theorem dX11_chain_58 : decode cX11_chain 58 = .ok (.iload 6, 2) := dk_1021 (dk_g tcX11_chain_4 10 rfl) (dk_g tcX11_chain_4 11 rfl) rfl
theorem tcX11_chain_5 : (cX11_chain.data.toList.drop 60).take 12 = [182, 1, 147, 54, 8, 21, 8, 2, 160, 0, 6, 167] := by decide +kernel
theorem dX11_chain_60 : decode cX11_chain 60 = .ok (.invokevirtual 403, 3) := dk_1182 (dk_g tcX11_chain_5 0 rfl) (dk_g tcX11_chain_5 1 rfl) (dk_g tcX11_chain_5 2 rfl) rfl
theorem dX11_chain_63 : decode cX11_chain 63 = .ok (.istore 8, 2) := dk_1054 (dk_g tcX11_chain_5 3 rfl) (dk_g tcX11_chain_5 4 rfl) rfl
theorem dX11_chain_65 : decode cX11_chain 65 = .ok (.iload 8, 2) := dk_1021 (dk_g tcX11_chain_5 5 rfl) (dk_g tcX11_chain_5 6 rfl) rfl
theorem dX11_chain_67 : decode cX11_chain 67 = .ok (.iconst (-1), 1) := dk_1002 (dk_g tcX11_chain_5 7 rfl)
theorem dX11_chain_68 : decode cX11_chain 68 = .ok (.if_icmp .ne 6, 3) := dk_2160 (dk_g tcX11_chain_5 8 rfl) (dk_g tcX11_chain_5 9 rfl) (dk_g tcX11_chain_5 10 rfl) rfl rfl
theorem tcX11_chain_6 : (cX11_chain.data.toList.drop 72).take 12 = [0, 53, 132, 3, 1, 21, 6, 2, 159, 0, 34, 42] := by decide +kernel
theorem dX11_chain_71 : decode cX11_chain 71 = .ok (.goto 53, 3) := dk_2167 (dk_g tcX11_chain_5 11 rfl) (dk_g tcX11_chain_6 0 rfl) (dk_g tcX11_chain_6 1 rfl) rfl rfl
theorem dX11_chain_74 : decode cX11_chain 74 = .ok (.iinc 3 1, 3) := dk_1132 (dk_g tcX11_chain_6 2 rfl) (dk_g tcX11_chain_6 3 rfl) (dk_g tcX11_chain_6 4 rfl) rfl (by decide +kernel)
theorem dX11_chain_77 : decode cX11_chain 77 = .ok (.iload 6, 2) := dk_1021 (dk_g tcX11_chain_6 5 rfl) (dk_g tcX11_chain_6 6 rfl) rfl
theorem dX11_chain_79 : decode cX11_chain 79 = .ok (.iconst (-1), 1) := dk_1002 (dk_g tcX11_chain_6 7 rfl)
theorem dX11_chain_80 : decode cX11_chain 80 = .ok (.if_icmp .eq 34, 3) := dk_2159 (dk_g tcX11_chain_6 8 rfl) (dk_g tcX11_chain_6 9 rfl) (dk_g tcX11_chain_6 10 rfl) rfl rfl
theorem dX11_chain_83 : decode cX11_chain 83 = .ok (.aload_n 0, 1) := dk_1042 (dk_g tcX11_chain_6 11 rfl)
theorem tcX11_chain_7 : (cX11_chain.data.toList.drop 84).take 12 = [180, 0, 62, 21, 6, 21, 8, 182, 1, 18, 21, 4] := by decide +kernel
theorem dX11_chain_84 : decode cX11_chain 84 = .ok (.getfield 62, 3) := dk_1180 (dk_g tcX11_chain_7 0 rfl) (dk_g tcX11_chain_7 1 rfl) (dk_g tcX11_chain_7 2 rfl) rfl
theorem dX11_chain_87 : decode cX11_chain 87 = .ok (.iload 6, 2) := dk_1021 (dk_g tcX11_chain_7 3 rfl) (dk_g tcX11_chain_7 4 rfl) rfl
theorem dX11_chain_89 : decode cX11_chain 89 = .ok (.iload 8, 2) := dk_1021 (dk_g tcX11_chain_7 5 rfl) (dk_g tcX11_chain_7 6 rfl) rfl
theorem dX11_chain_91 : decode cX11_chain 91 = .ok (.invokevirtual 274, 3) := dk_1182 (dk_g tcX11_chain_7 7 rfl) (dk_g tcX11_chain_7 8 rfl) (dk_g tcX11_chain_7 9 rfl) rfl
theorem dX11_chain_94 : decode cX11_chain 94 = .ok (.iload 4, 2) := dk_1021 (dk_g tcX11_chain_7 10 rfl) (dk_g tcX11_chain_7 11 rfl) rfl
theorem tcX11_chain_8 : (cX11_chain.data.toList.drop 96).take 12 = [42, 180, 0, 62, 180, 1, 56, 96, 54, 4, 42, 21] := by decide +kernel
theorem dX11_chain_96 : decode cX11_chain 96 = .ok (.aload_n 0, 1) := dk_1042 (dk_g tcX11_chain_8 0 rfl)
theorem dX11_chain_97 : decode cX11_chain 97 = .ok (.getfield 62, 3) := dk_1180 (dk_g tcX11_chain_8 1 rfl) (dk_g tcX11_chain_8 2 rfl) (dk_g tcX11_chain_8 3 rfl) rfl
theorem dX11_chain_100 : decode cX11_chain 100 = .ok (.getfield 312, 3) := dk_1180 (dk_g tcX11_chain_8 4 rfl) (dk_g tcX11_chain_8 5 rfl) (dk_g tcX11_chain_8 6 rfl) rfl
theorem dX11_chain_103 : decode cX11_chain 103 = .ok (.iadd, 1) := dk_1096 (dk_g tcX11_chain_8 7 rfl)
theorem dX11_chain_104 : decode cX11_chain 104 = .ok (.istore 4, 2) := dk_1054 (dk_g tcX11_chain_8 8 rfl) (dk_g tcX11_chain_8 9 rfl) rfl
theorem dX11_chain_106 : decode cX11_chain 106 = .ok (.aload_n 0, 1) := dk_1042 (dk_g tcX11_chain_8 10 rfl)
theorem tcX11_chain_9 : (cX11_chain.data.toList.drop 108).take 12 = [5, 182, 1, 150, 54, 5, 21, 8, 54, 6, 132, 7] := by decide +kernel
theorem dX11_chain_107 : decode cX11_chain 107 = .ok (.iload 5, 2) := dk_1021 (dk_g tcX11_chain_8 11 rfl) (dk_g tcX11_chain_9 0 rfl) rfl
theorem dX11_chain_109 : decode cX11_chain 109 = .ok (.invokevirtual 406, 3) := dk_1182 (dk_g tcX11_chain_9 1 rfl) (dk_g tcX11_chain_9 2 rfl) (dk_g tcX11_chain_9 3 rfl) rfl
theorem dX11_chain_112 : decode cX11_chain 112 = .ok (.istore 5, 2) := dk_1054 (dk_g tcX11_chain_9 4 rfl) (dk_g tcX11_chain_9 5 rfl) rfl
theorem dX11_chain_114 : decode cX11_chain 114 = .ok (.iload 8, 2) := dk_1021 (dk_g tcX11_chain_9 6 rfl) (dk_g tcX11_chain_9 7 rfl) rfl
theorem dX11_chain_116 : decode cX11_chain 116 = .ok (.istore 6, 2) := dk_1054 (dk_g tcX11_chain_9 8 rfl) (dk_g tcX11_chain_9 9 rfl) rfl
theorem tcX11_chain_10 : (cX11_chain.data.toList.drop 120).take 12 = [1, 167, 255, 181, 28, 154, 0, 9, 42, 29, 182, 0] := by decide +kernel
theorem dX11_chain_118 : decode cX11_chain 118 = .ok (.iinc 7 1, 3) := dk_1132 (dk_g tcX11_chain_9 10 rfl) (dk_g tcX11_chain_9 11 rfl) (dk_g tcX11_chain_10 0 rfl) rfl (by decide +kernel)
theorem dX11_chain_121 : decode cX11_chain 121 = .ok (.goto (-75), 3) := dk_1167 (dk_g tcX11_chain_10 1 rfl) (dk_g tcX11_chain_10 2 rfl) (dk_g tcX11_chain_10 3 rfl) (by decide +kernel)
theorem dX11_chain_124 : decode cX11_chain 124 = .ok (.iload_n 2, 1) := dk_1028 (dk_g tcX11_chain_10 4 rfl)
theorem dX11_chain_125 : decode cX11_chain 125 = .ok (.ifCond .ne 9, 3) := dk_2154 (dk_g tcX11_chain_10 5 rfl) (dk_g tcX11_chain_10 6 rfl) (dk_g tcX11_chain_10 7 rfl) rfl rfl
theorem dX11_chain_128 : decode cX11_chain 128 = .ok (.aload_n 0, 1) := dk_1042 (dk_g tcX11_chain_10 8 rfl)
theorem dX11_chain_129 : decode cX11_chain 129 = .ok (.iload_n 3, 1) := dk_1029 (dk_g tcX11_chain_10 9 rfl)
theorem tcX11_chain_11 : (cX11_chain.data.toList.drop 132).take 12 = [115, 172, 42, 28, 4, 160, 0, 8, 21, 4, 167, 0] := by decide +kernel
theorem dX11_chain_130 : decode cX11_chain 130 = .ok (.invokevirtual 115, 3) := dk_1182 (dk_g tcX11_chain_10 10 rfl) (dk_g tcX11_chain_10 11 rfl) (dk_g tcX11_chain_11 0 rfl) rfl
theorem dX11_chain_133 : decode cX11_chain 133 = .ok (.ireturn, 1) := dk_1172 (dk_g tcX11_chain_11 1 rfl)
theorem dX11_chain_134 : decode cX11_chain 134 = .ok (.aload_n 0, 1) := dk_1042 (dk_g tcX11_chain_11 2 rfl)
theorem dX11_chain_135 : decode cX11_chain 135 = .ok (.iload_n 2, 1) := dk_1028 (dk_g tcX11_chain_11 3 rfl)
theorem dX11_chain_136 : decode cX11_chain 136 = .ok (.iconst 1, 1) := dk_1004 (dk_g tcX11_chain_11 4 rfl)
theorem dX11_chain_137 : decode cX11_chain 137 = .ok (.if_icmp .ne 8, 3) := dk_2160 (dk_g tcX11_chain_11 5 rfl) (dk_g tcX11_chain_11 6 rfl) (dk_g tcX11_chain_11 7 rfl) rfl rfl
theorem dX11_chain_140 : decode cX11_chain 140 = .ok (.iload 4, 2) := dk_1021 (dk_g tcX11_chain_11 8 rfl) (dk_g tcX11_chain_11 9 rfl) rfl
theorem tcX11_chain_12 : (cX11_chain.data.toList.drop 144).take 12 = [5, 21, 5, 182, 0, 115, 172] := by decide +kernel
theorem dX11_chain_142 : decode cX11_chain 142 = .ok (.goto 5, 3) := dk_2167 (dk_g tcX11_chain_11 10 rfl) (dk_g tcX11_chain_11 11 rfl) (dk_g tcX11_chain_12 0 rfl) rfl rfl
theorem dX11_chain_145 : decode cX11_chain 145 = .ok (.iload 5, 2) := dk_1021 (dk_g tcX11_chain_12 1 rfl) (dk_g tcX11_chain_12 2 rfl) rfl
theorem dX11_chain_147 : decode cX11_chain 147 = .ok (.invokevirtual 115, 3) := dk_1182 (dk_g tcX11_chain_12 3 rfl) (dk_g tcX11_chain_12 4 rfl) (dk_g tcX11_chain_12 5 rfl) rfl
theorem dX11_chain_150 : decode cX11_chain 150 = .ok (.ireturn, 1) := dk_1172 (dk_g tcX11_chain_12 6 rfl)
theorem tcX11_split_0 : (cX11_split.data.toList.drop 0).take 12 = [27, 155, 0, 8, 27, 4, 164, 0, 9, 42, 4, 182] := by decide +kernel
theorem dX11_split_0 : decode cX11_split 0 = .ok (.iload_n 1, 1) := dk_1027 (dk_g tcX11_split_0 0 rfl)
theorem dX11_split_1 : decode cX11_split 1 = .ok (.ifCond .lt 8, 3) := dk_2155 (dk_g tcX11_split_0 1 rfl) (dk_g tcX11_split_0 2 rfl) (dk_g tcX11_split_0 3 rfl) rfl rfl
theorem dX11_split_4 : decode cX11_split 4 = .ok (.iload_n 1, 1) := dk_1027 (dk_g tcX11_split_0 4 rfl)
theorem dX11_split_5 : decode cX11_split 5 = .ok (.iconst 1, 1) := dk_1004 (dk_g tcX11_split_0 5 rfl)
theorem dX11_split_6 : decode cX11_split 6 = .ok (.if_icmp .le 9, 3) := dk_2164 (dk_g tcX11_split_0 6 rfl) (dk_g tcX11_split_0 7 rfl) (dk_g tcX11_split_0 8 rfl) rfl rfl
theorem dX11_split_9 : decode cX11_split 9 = .ok (.aload_n 0, 1) := dk_1042 (dk_g tcX11_split_0 9 rfl)
theorem dX11_split_10 : decode cX11_split 10 = .ok (.iconst 1, 1) := dk_1004 (dk_g tcX11_split_0 10 rfl)
theorem tcX11_split_1 : (cX11_split.data.toList.drop 12).take 12 = [0, 98, 172, 3, 61, 2, 62, 3, 54, 4, 21, 4] := by decide +kernel
theorem dX11_split_11 : decode cX11_split 11 = .ok (.invokevirtual 98, 3) := dk_1182 (dk_g tcX11_split_0 11 rfl) (dk_g tcX11_split_1 0 rfl) (dk_g tcX11_split_1 1 rfl) rfl
theorem dX11_split_14 : decode cX11_split 14 = .ok (.ireturn, 1) := dk_1172 (dk_g tcX11_split_1 2 rfl)
theorem dX11_split_15 : decode cX11_split 15 = .ok (.iconst 0, 1) := dk_1003 (dk_g tcX11_split_1 3 rfl)
theorem dX11_split_16 : decode cX11_split 16 = .ok (.istore_n 2, 1) := dk_1061 (dk_g tcX11_split_1 4 rfl)
theorem dX11_split_17 : decode cX11_split 17 = .ok (.iconst (-1), 1) := dk_1002 (dk_g tcX11_split_1 5 rfl)
theorem dX11_split_18 : decode cX11_split 18 = .ok (.istore_n 3, 1) := dk_1062 (dk_g tcX11_split_1 6 rfl)
theorem dX11_split_19 : decode cX11_split 19 = .ok (.iconst 0, 1) := dk_1003 (dk_g tcX11_split_1 7 rfl)
theorem dX11_split_20 : decode cX11_split 20 = .ok (.istore 4, 2) := dk_1054 (dk_g tcX11_split_1 8 rfl) (dk_g tcX11_split_1 9 rfl) rfl
theorem dX11_split_22 : decode cX11_split 22 = .ok (.iload 4, 2) := dk_1021 (dk_g tcX11_split_1 10 rfl) (dk_g tcX11_split_1 11 rfl) rfl
theorem tcX11_split_2 : (cX11_split.data.toList.drop 24).take 12 = [7, 162, 0, 75, 21, 4, 4, 96, 54, 5, 21, 5] := by decide +kernel
theorem dX11_split_24 : decode cX11_split 24 = .ok (.iconst 4, 1) := dk_1007 (dk_g tcX11_split_2 0 rfl)
theorem dX11_split_25 : decode cX11_split 25 = .ok (.if_icmp .ge 75, 3) := dk_2162 (dk_g tcX11_split_2 1 rfl) (dk_g tcX11_split_2 2 rfl) (dk_g tcX11_split_2 3 rfl) rfl rfl
theorem dX11_split_28 : decode cX11_split 28 = .ok (.iload 4, 2) := dk_1021 (dk_g tcX11_split_2 4 rfl) (dk_g tcX11_split_2 5 rfl) rfl
theorem dX11_split_30 : decode cX11_split 30 = .ok (.iconst 1, 1) := dk_1004 (dk_g tcX11_split_2 6 rfl)
theorem dX11_split_31 : decode cX11_split 31 = .ok (.iadd, 1) := dk_1096 (dk_g tcX11_split_2 7 rfl)
theorem dX11_split_32 : decode cX11_split 32 = .ok (.istore 5, 2) := dk_1054 (dk_g tcX11_split_2 8 rfl) (dk_g tcX11_split_2 9 rfl) rfl
theorem dX11_split_34 : decode cX11_split 34 = .ok (.iload 5, 2) := dk_1021 (dk_g tcX11_split_2 10 rfl) (dk_g tcX11_split_2 11 rfl) rfl
theorem tcX11_split_3 : (cX11_split.data.toList.drop 36).take 12 = [7, 162, 0, 57, 42, 180, 0, 16, 42, 180, 0, 16] := by decide +kernel
theorem dX11_split_36 : decode cX11_split 36 = .ok (.iconst 4, 1) := dk_1007 (dk_g tcX11_split_3 0 rfl)
theorem dX11_split_37 : decode cX11_split 37 = .ok (.if_icmp .ge 57, 3) := dk_2162 (dk_g tcX11_split_3 1 rfl) (dk_g tcX11_split_3 2 rfl) (dk_g tcX11_split_3 3 rfl) rfl rfl
theorem dX11_split_40 : decode cX11_split 40 = .ok (.aload_n 0, 1) := dk_1042 (dk_g tcX11_split_3 4 rfl)
theorem dX11_split_41 : decode cX11_split 41 = .ok (.getfield 16, 3) := dk_1180 (dk_g tcX11_split_3 5 rfl) (dk_g tcX11_split_3 6 rfl) (dk_g tcX11_split_3 7 rfl) rfl
theorem dX11_split_44 : decode cX11_split 44 = .ok (.aload_n 0, 1) := dk_1042 (dk_g tcX11_split_3 8 rfl)
theorem dX11_split_45 : decode cX11_split 45 = .ok (.getfield 16, 3) := dk_1180 (dk_g tcX11_split_3 9 rfl) (dk_g tcX11_split_3 10 rfl) (dk_g tcX11_split_3 11 rfl) rfl
theorem tcX11_split_4 : (cX11_split.data.toList.drop 48).take 12 = [21, 4, 182, 0, 220, 42, 180, 0, 16, 21, 5, 182] := by decide +kernel
theorem dX11_split_48 : decode cX11_split 48 = .ok (.iload 4, 2) := dk_1021 (dk_g tcX11_split_4 0 rfl) (dk_g tcX11_split_4 1 rfl) rfl
theorem dX11_split_50 : decode cX11_split 50 = .ok (.invokevirtual 220, 3) := dk_1182 (dk_g tcX11_split_4 2 rfl) (dk_g tcX11_split_4 3 rfl) (dk_g tcX11_split_4 4 rfl) rfl
theorem dX11_split_53 : decode cX11_split 53 = .ok (.aload_n 0, 1) := dk_1042 (dk_g tcX11_split_4 5 rfl)
theorem dX11_split_54 : decode cX11_split 54 = .ok (.getfield 16, 3) := dk_1180 (dk_g tcX11_split_4 6 rfl) (dk_g tcX11_split_4 7 rfl) (dk_g tcX11_split_4 8 rfl) rfl
theorem dX11_split_57 : decode cX11_split 57 = .ok (.iload 5, 2) := dk_1021 (dk_g tcX11_split_4 9 rfl) (dk_g tcX11_split_4 10 rfl) rfl
theorem tcX11_split_5 : (cX11_split.data.toList.drop 60).take 12 = [0, 220, 182, 1, 63, 154, 0, 23, 28, 154, 0, 14] := by decide +kernel
theorem dX11_split_59 : decode cX11_split 59 = .ok (.invokevirtual 220, 3) := dk_1182 (dk_g tcX11_split_4 11 rfl) (dk_g tcX11_split_5 0 rfl) (dk_g tcX11_split_5 1 rfl) rfl
theorem dX11_split_62 : decode cX11_split 62 = .ok (.invokevirtual 319, 3) := dk_1182 (dk_g tcX11_split_5 2 rfl) (dk_g tcX11_split_5 3 rfl) (dk_g tcX11_split_5 4 rfl) rfl
theorem dX11_split_65 : decode cX11_split 65 = .ok (.ifCond .ne 23, 3) := dk_2154 (dk_g tcX11_split_5 5 rfl) (dk_g tcX11_split_5 6 rfl) (dk_g tcX11_split_5 7 rfl) rfl rfl
theorem dX11_split_68 : decode cX11_split 68 = .ok (.iload_n 2, 1) := dk_1028 (dk_g tcX11_split_5 8 rfl)
theorem dX11_split_69 : decode cX11_split 69 = .ok (.ifCond .ne 14, 3) := dk_2154 (dk_g tcX11_split_5 9 rfl) (dk_g tcX11_split_5 10 rfl) (dk_g tcX11_split_5 11 rfl) rfl rfl
theorem tcX11_split_6 : (cX11_split.data.toList.drop 72).take 12 = [16, 10, 21, 4, 104, 21, 5, 96, 167, 0, 4, 29] := by decide +kernel
theorem dX11_split_72 : decode cX11_split 72 = .ok (.bipush 10, 2) := dk_1016 (dk_g tcX11_split_6 0 rfl) (dk_g tcX11_split_6 1 rfl) (by decide +kernel)
theorem dX11_split_74 : decode cX11_split 74 = .ok (.iload 4, 2) := dk_1021 (dk_g tcX11_split_6 2 rfl) (dk_g tcX11_split_6 3 rfl) rfl
theorem dX11_split_76 : decode cX11_split 76 = .ok (.imul, 1) := dk_1104 (dk_g tcX11_split_6 4 rfl)
theorem dX11_split_77 : decode cX11_split 77 = .ok (.iload 5, 2) := dk_1021 (dk_g tcX11_split_6 5 rfl) (dk_g tcX11_split_6 6 rfl) rfl
theorem dX11_split_79 : decode cX11_split 79 = .ok (.iadd, 1) := dk_1096 (dk_g tcX11_split_6 7 rfl)
theorem dX11_split_80 : decode cX11_split 80 = .ok (.goto 4, 3) := dk_2167 (dk_g tcX11_split_6 8 rfl) (dk_g tcX11_split_6 9 rfl) (dk_g tcX11_split_6 10 rfl) rfl rfl
theorem dX11_split_83 : decode cX11_split 83 = .ok (.iload_n 3, 1) := dk_1029 (dk_g tcX11_split_6 11 rfl)
theorem tcX11_split_7 : (cX11_split.data.toList.drop 84).take 12 = [62, 132, 2, 1, 132, 5, 1, 167, 255, 199, 132, 4] := by decide +kernel
theorem dX11_split_84 : decode cX11_split 84 = .ok (.istore_n 3, 1) := dk_1062 (dk_g tcX11_split_7 0 rfl)
theorem dX11_split_85 : decode cX11_split 85 = .ok (.iinc 2 1, 3) := dk_1132 (dk_g tcX11_split_7 1 rfl) (dk_g tcX11_split_7 2 rfl) (dk_g tcX11_split_7 3 rfl) rfl (by decide +kernel)
theorem dX11_split_88 : decode cX11_split 88 = .ok (.iinc 5 1, 3) := dk_1132 (dk_g tcX11_split_7 4 rfl) (dk_g tcX11_split_7 5 rfl) (dk_g tcX11_split_7 6 rfl) rfl (by decide +kernel)
theorem dX11_split_91 : decode cX11_split 91 = .ok (.goto (-57), 3) := dk_1167 (dk_g tcX11_split_7 7 rfl) (dk_g tcX11_split_7 8 rfl) (dk_g tcX11_split_7 9 rfl) (by decide +kernel)
theorem tcX11_split_8 : (cX11_split.data.toList.drop 96).take 12 = [1, 167, 255, 181, 27, 154, 0, 9, 42, 28, 182, 0] := by decide +kernel
theorem dX11_split_94 : decode cX11_split 94 = .ok (.iinc 4 1, 3) := dk_1132 (dk_g tcX11_split_7 10 rfl) (dk_g tcX11_split_7 11 rfl) (dk_g tcX11_split_8 0 rfl) rfl (by decide +kernel)
theorem dX11_split_97 : decode cX11_split 97 = .ok (.goto (-75), 3) := dk_1167 (dk_g tcX11_split_8 1 rfl) (dk_g tcX11_split_8 2 rfl) (dk_g tcX11_split_8 3 rfl) (by decide +kernel)
theorem dX11_split_100 : decode cX11_split 100 = .ok (.iload_n 1, 1) := dk_1027 (dk_g tcX11_split_8 4 rfl)
theorem dX11_split_101 : decode cX11_split 101 = .ok (.ifCond .ne 9, 3) := dk_2154 (dk_g tcX11_split_8 5 rfl) (dk_g tcX11_split_8 6 rfl) (dk_g tcX11_split_8 7 rfl) rfl rfl
theorem dX11_split_104 : decode cX11_split 104 = .ok (.aload_n 0, 1) := dk_1042 (dk_g tcX11_split_8 8 rfl)
theorem dX11_split_105 : decode cX11_split 105 = .ok (.iload_n 2, 1) := dk_1028 (dk_g tcX11_split_8 9 rfl)
theorem tcX11_split_9 : (cX11_split.data.toList.drop 108).take 12 = [115, 172, 28, 154, 0, 11, 42, 8, 182, 0, 98, 167] := by decide +kernel
theorem dX11_split_106 : decode cX11_split 106 = .ok (.invokevirtual 115, 3) := dk_1182 (dk_g tcX11_split_8 10 rfl) (dk_g tcX11_split_8 11 rfl) (dk_g tcX11_split_9 0 rfl) rfl
theorem dX11_split_109 : decode cX11_split 109 = .ok (.ireturn, 1) := dk_1172 (dk_g tcX11_split_9 1 rfl)
theorem dX11_split_110 : decode cX11_split 110 = .ok (.iload_n 2, 1) := dk_1028 (dk_g tcX11_split_9 2 rfl)
theorem dX11_split_111 : decode cX11_split 111 = .ok (.ifCond .ne 11, 3) := dk_2154 (dk_g tcX11_split_9 3 rfl) (dk_g tcX11_split_9 4 rfl) (dk_g tcX11_split_9 5 rfl) rfl rfl
theorem dX11_split_114 : decode cX11_split 114 = .ok (.aload_n 0, 1) := dk_1042 (dk_g tcX11_split_9 6 rfl)
theorem dX11_split_115 : decode cX11_split 115 = .ok (.iconst 5, 1) := dk_1008 (dk_g tcX11_split_9 7 rfl)
theorem dX11_split_116 : decode cX11_split 116 = .ok (.invokevirtual 98, 3) := dk_1182 (dk_g tcX11_split_9 8 rfl) (dk_g tcX11_split_9 9 rfl) (dk_g tcX11_split_9 10 rfl) rfl
theorem tcX11_split_10 : (cX11_split.data.toList.drop 120).take 12 = [0, 8, 42, 29, 182, 0, 115, 172] := by decide +kernel
theorem dX11_split_119 : decode cX11_split 119 = .ok (.goto 8, 3) := dk_2167 (dk_g tcX11_split_9 11 rfl) (dk_g tcX11_split_10 0 rfl) (dk_g tcX11_split_10 1 rfl) rfl rfl
theorem dX11_split_122 : decode cX11_split 122 = .ok (.aload_n 0, 1) := dk_1042 (dk_g tcX11_split_10 2 rfl)
theorem dX11_split_123 : decode cX11_split 123 = .ok (.iload_n 3, 1) := dk_1029 (dk_g tcX11_split_10 3 rfl)
theorem dX11_split_124 : decode cX11_split 124 = .ok (.invokevirtual 115, 3) := dk_1182 (dk_g tcX11_split_10 4 rfl) (dk_g tcX11_split_10 5 rfl) (dk_g tcX11_split_10 6 rfl) rfl
theorem dX11_split_127 : decode cX11_split 127 = .ok (.ireturn, 1) := dk_1172 (dk_g tcX11_split_10 7 rfl)
theorem tcX11_tell_0 : (cX11_tell.data.toList.drop 0).take 12 = [42, 180, 0, 16, 27, 182, 0, 163, 58, 4, 25, 4] := by decide +kernel
theorem dX11_tell_0 : decode cX11_tell 0 = .ok (.aload_n 0, 1) := dk_1042 (dk_g tcX11_tell_0 0 rfl)
theorem dX11_tell_1 : decode cX11_tell 1 = .ok (.getfield 16, 3) := dk_1180 (dk_g tcX11_tell_0 1 rfl) (dk_g tcX11_tell_0 2 rfl) (dk_g tcX11_tell_0 3 rfl) rfl
theorem dX11_tell_4 : decode cX11_tell 4 = .ok (.iload_n 1, 1) := dk_1027 (dk_g tcX11_tell_0 4 rfl)
theorem dX11_tell_5 : decode cX11_tell 5 = .ok (.invokevirtual 163, 3) := dk_1182 (dk_g tcX11_tell_0 5 rfl) (dk_g tcX11_tell_0 6 rfl) (dk_g tcX11_tell_0 7 rfl) rfl
theorem dX11_tell_8 : decode cX11_tell 8 = .ok (.astore 4, 2) := dk_1058 (dk_g tcX11_tell_0 8 rfl) (dk_g tcX11_tell_0 9 rfl) rfl
theorem dX11_tell_10 : decode cX11_tell 10 = .ok (.aload 4, 2) := dk_1025 (dk_g tcX11_tell_0 10 rfl) (dk_g tcX11_tell_0 11 rfl) rfl
theorem tcX11_tell_1 : (cX11_tell.data.toList.drop 12).take 12 = [28, 29, 184, 1, 8, 54, 5, 21, 5, 154, 0, 8] := by decide +kernel
theorem dX11_tell_12 : decode cX11_tell 12 = .ok (.iload_n 2, 1) := dk_1028 (dk_g tcX11_tell_1 0 rfl)
theorem dX11_tell_13 : decode cX11_tell 13 = .ok (.iload_n 3, 1) := dk_1029 (dk_g tcX11_tell_1 1 rfl)
theorem dX11_tell_14 : decode cX11_tell 14 = .ok (.invokestatic 264, 3) := dk_1184 (dk_g tcX11_tell_1 2 rfl) (dk_g tcX11_tell_1 3 rfl) (dk_g tcX11_tell_1 4 rfl) rfl
theorem dX11_tell_17 : decode cX11_tell 17 = .ok (.istore 5, 2) := dk_1054 (dk_g tcX11_tell_1 5 rfl) (dk_g tcX11_tell_1 6 rfl) rfl
theorem dX11_tell_19 : decode cX11_tell 19 = .ok (.iload 5, 2) := dk_1021 (dk_g tcX11_tell_1 7 rfl) (dk_g tcX11_tell_1 8 rfl) rfl
theorem dX11_tell_21 : decode cX11_tell 21 = .ok (.ifCond .ne 8, 3) := dk_2154 (dk_g tcX11_tell_1 9 rfl) (dk_g tcX11_tell_1 10 rfl) (dk_g tcX11_tell_1 11 rfl) rfl rfl
theorem tcX11_tell_2 : (cX11_tell.data.toList.drop 24).take 12 = [25, 4, 199, 0, 10, 42, 21, 5, 182, 0, 98, 172] := by decide +kernel
theorem dX11_tell_24 : decode cX11_tell 24 = .ok (.aload 4, 2) := dk_1025 (dk_g tcX11_tell_2 0 rfl) (dk_g tcX11_tell_2 1 rfl) rfl
theorem dX11_tell_26 : decode cX11_tell 26 = .ok (.ifnonnull 10, 3) := dk_2199 (dk_g tcX11_tell_2 2 rfl) (dk_g tcX11_tell_2 3 rfl) (dk_g tcX11_tell_2 4 rfl) rfl rfl
theorem dX11_tell_29 : decode cX11_tell 29 = .ok (.aload_n 0, 1) := dk_1042 (dk_g tcX11_tell_2 5 rfl)
theorem dX11_tell_30 : decode cX11_tell 30 = .ok (.iload 5, 2) := dk_1021 (dk_g tcX11_tell_2 6 rfl) (dk_g tcX11_tell_2 7 rfl) rfl
theorem dX11_tell_32 : decode cX11_tell 32 = .ok (.invokevirtual 98, 3) := dk_1182 (dk_g tcX11_tell_2 8 rfl) (dk_g tcX11_tell_2 9 rfl) (dk_g tcX11_tell_2 10 rfl) rfl
theorem dX11_tell_35 : decode cX11_tell 35 = .ok (.ireturn, 1) := dk_1172 (dk_g tcX11_tell_2 11 rfl)
theorem tcX11_tell_3 : (cX11_tell.data.toList.drop 36).take 12 = [42, 180, 0, 62, 28, 29, 182, 1, 11, 42, 180, 0] := by decide +kernel
theorem dX11_tell_36 : decode cX11_tell 36 = .ok (.aload_n 0, 1) := dk_1042 (dk_g tcX11_tell_3 0 rfl)
theorem dX11_tell_37 : decode cX11_tell 37 = .ok (.getfield 62, 3) := dk_1180 (dk_g tcX11_tell_3 1 rfl) (dk_g tcX11_tell_3 2 rfl) (dk_g tcX11_tell_3 3 rfl) rfl
theorem dX11_tell_40 : decode cX11_tell 40 = .ok (.iload_n 2, 1) := dk_1028 (dk_g tcX11_tell_3 4 rfl)
theorem dX11_tell_41 : decode cX11_tell 41 = .ok (.iload_n 3, 1) := dk_1029 (dk_g tcX11_tell_3 5 rfl)
theorem dX11_tell_42 : decode cX11_tell 42 = .ok (.invokevirtual 267, 3) := dk_1182 (dk_g tcX11_tell_3 6 rfl) (dk_g tcX11_tell_3 7 rfl) (dk_g tcX11_tell_3 8 rfl) rfl
theorem dX11_tell_45 : decode cX11_tell 45 = .ok (.aload_n 0, 1) := dk_1042 (dk_g tcX11_tell_3 9 rfl)
theorem tcX11_tell_4 : (cX11_tell.data.toList.drop 48).take 12 = [16, 42, 180, 0, 62, 25, 4, 42, 180, 0, 69, 182] := by decide +kernel
theorem dX11_tell_46 : decode cX11_tell 46 = .ok (.getfield 16, 3) := dk_1180 (dk_g tcX11_tell_3 10 rfl) (dk_g tcX11_tell_3 11 rfl) (dk_g tcX11_tell_4 0 rfl) rfl
theorem dX11_tell_49 : decode cX11_tell 49 = .ok (.aload_n 0, 1) := dk_1042 (dk_g tcX11_tell_4 1 rfl)
theorem dX11_tell_50 : decode cX11_tell 50 = .ok (.getfield 62, 3) := dk_1180 (dk_g tcX11_tell_4 2 rfl) (dk_g tcX11_tell_4 3 rfl) (dk_g tcX11_tell_4 4 rfl) rfl
theorem dX11_tell_53 : decode cX11_tell 53 = .ok (.aload 4, 2) := dk_1025 (dk_g tcX11_tell_4 5 rfl) (dk_g tcX11_tell_4 6 rfl) rfl
theorem dX11_tell_55 : decode cX11_tell 55 = .ok (.aload_n 0, 1) := dk_1042 (dk_g tcX11_tell_4 7 rfl)
theorem dX11_tell_56 : decode cX11_tell 56 = .ok (.getfield 69, 3) := dk_1180 (dk_g tcX11_tell_4 8 rfl) (dk_g tcX11_tell_4 9 rfl) (dk_g tcX11_tell_4 10 rfl) rfl
theorem tcX11_tell_5 : (cX11_tell.data.toList.drop 60).take 12 = [1, 14, 42, 3, 181, 0, 56, 42, 19, 1, 153, 182] := by decide +kernel
theorem dX11_tell_59 : decode cX11_tell 59 = .ok (.invokevirtual 270, 3) := dk_1182 (dk_g tcX11_tell_4 11 rfl) (dk_g tcX11_tell_5 0 rfl) (dk_g tcX11_tell_5 1 rfl) rfl
theorem dX11_tell_62 : decode cX11_tell 62 = .ok (.aload_n 0, 1) := dk_1042 (dk_g tcX11_tell_5 2 rfl)
theorem dX11_tell_63 : decode cX11_tell 63 = .ok (.iconst 0, 1) := dk_1003 (dk_g tcX11_tell_5 3 rfl)
theorem dX11_tell_64 : decode cX11_tell 64 = .ok (.putfield 56, 3) := dk_1181 (dk_g tcX11_tell_5 4 rfl) (dk_g tcX11_tell_5 5 rfl) (dk_g tcX11_tell_5 6 rfl) rfl
theorem dX11_tell_67 : decode cX11_tell 67 = .ok (.aload_n 0, 1) := dk_1042 (dk_g tcX11_tell_5 7 rfl)
theorem dX11_tell_68 : decode cX11_tell 68 = .ok (.ldc_w 409, 3) := dk_1019 (dk_g tcX11_tell_5 8 rfl) (dk_g tcX11_tell_5 9 rfl) (dk_g tcX11_tell_5 10 rfl) rfl
theorem tcX11_tell_6 : (cX11_tell.data.toList.drop 72).take 12 = [1, 155, 42, 28, 182, 1, 159, 42, 19, 1, 162, 182] := by decide +kernel
theorem dX11_tell_71 : decode cX11_tell 71 = .ok (.invokevirtual 411, 3) := dk_1182 (dk_g tcX11_tell_5 11 rfl) (dk_g tcX11_tell_6 0 rfl) (dk_g tcX11_tell_6 1 rfl) rfl
theorem dX11_tell_74 : decode cX11_tell 74 = .ok (.aload_n 0, 1) := dk_1042 (dk_g tcX11_tell_6 2 rfl)
theorem dX11_tell_75 : decode cX11_tell 75 = .ok (.iload_n 2, 1) := dk_1028 (dk_g tcX11_tell_6 3 rfl)
theorem dX11_tell_76 : decode cX11_tell 76 = .ok (.invokevirtual 415, 3) := dk_1182 (dk_g tcX11_tell_6 4 rfl) (dk_g tcX11_tell_6 5 rfl) (dk_g tcX11_tell_6 6 rfl) rfl
theorem dX11_tell_79 : decode cX11_tell 79 = .ok (.aload_n 0, 1) := dk_1042 (dk_g tcX11_tell_6 7 rfl)
theorem dX11_tell_80 : decode cX11_tell 80 = .ok (.ldc_w 418, 3) := dk_1019 (dk_g tcX11_tell_6 8 rfl) (dk_g tcX11_tell_6 9 rfl) (dk_g tcX11_tell_6 10 rfl) rfl
theorem tcX11_tell_7 : (cX11_tell.data.toList.drop 84).take 12 = [1, 155, 42, 29, 182, 1, 159, 42, 19, 1, 164, 182] := by decide +kernel
theorem dX11_tell_83 : decode cX11_tell 83 = .ok (.invokevirtual 411, 3) := dk_1182 (dk_g tcX11_tell_6 11 rfl) (dk_g tcX11_tell_7 0 rfl) (dk_g tcX11_tell_7 1 rfl) rfl
theorem dX11_tell_86 : decode cX11_tell 86 = .ok (.aload_n 0, 1) := dk_1042 (dk_g tcX11_tell_7 2 rfl)
theorem dX11_tell_87 : decode cX11_tell 87 = .ok (.iload_n 3, 1) := dk_1029 (dk_g tcX11_tell_7 3 rfl)
theorem dX11_tell_88 : decode cX11_tell 88 = .ok (.invokevirtual 415, 3) := dk_1182 (dk_g tcX11_tell_7 4 rfl) (dk_g tcX11_tell_7 5 rfl) (dk_g tcX11_tell_7 6 rfl) rfl
theorem dX11_tell_91 : decode cX11_tell 91 = .ok (.aload_n 0, 1) := dk_1042 (dk_g tcX11_tell_7 7 rfl)
theorem dX11_tell_92 : decode cX11_tell 92 = .ok (.ldc_w 420, 3) := dk_1019 (dk_g tcX11_tell_7 8 rfl) (dk_g tcX11_tell_7 9 rfl) (dk_g tcX11_tell_7 10 rfl) rfl
theorem tcX11_tell_8 : (cX11_tell.data.toList.drop 96).take 12 = [1, 155, 42, 25, 4, 28, 182, 0, 174, 182, 1, 159] := by decide +kernel
theorem dX11_tell_95 : decode cX11_tell 95 = .ok (.invokevirtual 411, 3) := dk_1182 (dk_g tcX11_tell_7 11 rfl) (dk_g tcX11_tell_8 0 rfl) (dk_g tcX11_tell_8 1 rfl) rfl
theorem dX11_tell_98 : decode cX11_tell 98 = .ok (.aload_n 0, 1) := dk_1042 (dk_g tcX11_tell_8 2 rfl)
theorem dX11_tell_99 : decode cX11_tell 99 = .ok (.aload 4, 2) := dk_1025 (dk_g tcX11_tell_8 3 rfl) (dk_g tcX11_tell_8 4 rfl) rfl
theorem dX11_tell_101 : decode cX11_tell 101 = .ok (.iload_n 2, 1) := dk_1028 (dk_g tcX11_tell_8 5 rfl)
theorem dX11_tell_102 : decode cX11_tell 102 = .ok (.invokevirtual 174, 3) := dk_1182 (dk_g tcX11_tell_8 6 rfl) (dk_g tcX11_tell_8 7 rfl) (dk_g tcX11_tell_8 8 rfl) rfl
theorem dX11_tell_105 : decode cX11_tell 105 = .ok (.invokevirtual 415, 3) := dk_1182 (dk_g tcX11_tell_8 9 rfl) (dk_g tcX11_tell_8 10 rfl) (dk_g tcX11_tell_8 11 rfl) rfl
theorem tcX11_tell_9 : (cX11_tell.data.toList.drop 108).take 12 = [42, 19, 1, 166, 182, 1, 155, 42, 42, 180, 0, 16] := by decide +kernel
theorem dX11_tell_108 : decode cX11_tell 108 = .ok (.aload_n 0, 1) := dk_1042 (dk_g tcX11_tell_9 0 rfl)
theorem dX11_tell_109 : decode cX11_tell 109 = .ok (.ldc_w 422, 3) := dk_1019 (dk_g tcX11_tell_9 1 rfl) (dk_g tcX11_tell_9 2 rfl) (dk_g tcX11_tell_9 3 rfl) rfl
theorem dX11_tell_112 : decode cX11_tell 112 = .ok (.invokevirtual 411, 3) := dk_1182 (dk_g tcX11_tell_9 4 rfl) (dk_g tcX11_tell_9 5 rfl) (dk_g tcX11_tell_9 6 rfl) rfl
theorem dX11_tell_115 : decode cX11_tell 115 = .ok (.aload_n 0, 1) := dk_1042 (dk_g tcX11_tell_9 7 rfl)
theorem dX11_tell_116 : decode cX11_tell 116 = .ok (.aload_n 0, 1) := dk_1042 (dk_g tcX11_tell_9 8 rfl)
theorem dX11_tell_117 : decode cX11_tell 117 = .ok (.getfield 16, 3) := dk_1180 (dk_g tcX11_tell_9 9 rfl) (dk_g tcX11_tell_9 10 rfl) (dk_g tcX11_tell_9 11 rfl) rfl
theorem tcX11_tell_10 : (cX11_tell.data.toList.drop 120).take 12 = [25, 4, 29, 182, 0, 184, 182, 1, 159, 42, 182, 1] := by decide +kernel
theorem dX11_tell_120 : decode cX11_tell 120 = .ok (.aload 4, 2) := dk_1025 (dk_g tcX11_tell_10 0 rfl) (dk_g tcX11_tell_10 1 rfl) rfl
theorem dX11_tell_122 : decode cX11_tell 122 = .ok (.iload_n 3, 1) := dk_1029 (dk_g tcX11_tell_10 2 rfl)
theorem dX11_tell_123 : decode cX11_tell 123 = .ok (.invokevirtual 184, 3) := dk_1182 (dk_g tcX11_tell_10 3 rfl) (dk_g tcX11_tell_10 4 rfl) (dk_g tcX11_tell_10 5 rfl) rfl
theorem dX11_tell_126 : decode cX11_tell 126 = .ok (.invokevirtual 415, 3) := dk_1182 (dk_g tcX11_tell_10 6 rfl) (dk_g tcX11_tell_10 7 rfl) (dk_g tcX11_tell_10 8 rfl) rfl
theorem dX11_tell_129 : decode cX11_tell 129 = .ok (.aload_n 0, 1) := dk_1042 (dk_g tcX11_tell_10 9 rfl)
theorem tcX11_tell_11 : (cX11_tell.data.toList.drop 132).take 12 = [168, 42, 42, 180, 0, 56, 182, 0, 115, 172] := by decide +kernel
theorem dX11_tell_130 : decode cX11_tell 130 = .ok (.invokevirtual 424, 3) := dk_1182 (dk_g tcX11_tell_10 10 rfl) (dk_g tcX11_tell_10 11 rfl) (dk_g tcX11_tell_11 0 rfl) rfl
theorem dX11_tell_133 : decode cX11_tell 133 = .ok (.aload_n 0, 1) := dk_1042 (dk_g tcX11_tell_11 1 rfl)
theorem dX11_tell_134 : decode cX11_tell 134 = .ok (.aload_n 0, 1) := dk_1042 (dk_g tcX11_tell_11 2 rfl)
theorem dX11_tell_135 : decode cX11_tell 135 = .ok (.getfield 56, 3) := dk_1180 (dk_g tcX11_tell_11 3 rfl) (dk_g tcX11_tell_11 4 rfl) (dk_g tcX11_tell_11 5 rfl) rfl
theorem dX11_tell_138 : decode cX11_tell 138 = .ok (.invokevirtual 115, 3) := dk_1182 (dk_g tcX11_tell_11 6 rfl) (dk_g tcX11_tell_11 7 rfl) (dk_g tcX11_tell_11 8 rfl) rfl
theorem dX11_tell_141 : decode cX11_tell 141 = .ok (.ireturn, 1) := dk_1172 (dk_g tcX11_tell_11 9 rfl)
theorem tcX11_tellGrowth_0 : (cX11_tellGrowth.data.toList.drop 0).take 12 = [42, 180, 0, 16, 27, 182, 0, 163, 58, 4, 25, 4] := by decide +kernel
theorem dX11_tellGrowth_0 : decode cX11_tellGrowth 0 = .ok (.aload_n 0, 1) := dk_1042 (dk_g tcX11_tellGrowth_0 0 rfl)
theorem dX11_tellGrowth_1 : decode cX11_tellGrowth 1 = .ok (.getfield 16, 3) := dk_1180 (dk_g tcX11_tellGrowth_0 1 rfl) (dk_g tcX11_tellGrowth_0 2 rfl) (dk_g tcX11_tellGrowth_0 3 rfl) rfl
theorem dX11_tellGrowth_4 : decode cX11_tellGrowth 4 = .ok (.iload_n 1, 1) := dk_1027 (dk_g tcX11_tellGrowth_0 4 rfl)
theorem dX11_tellGrowth_5 : decode cX11_tellGrowth 5 = .ok (.invokevirtual 163, 3) := dk_1182 (dk_g tcX11_tellGrowth_0 5 rfl) (dk_g tcX11_tellGrowth_0 6 rfl) (dk_g tcX11_tellGrowth_0 7 rfl) rfl
theorem dX11_tellGrowth_8 : decode cX11_tellGrowth 8 = .ok (.astore 4, 2) := dk_1058 (dk_g tcX11_tellGrowth_0 8 rfl) (dk_g tcX11_tellGrowth_0 9 rfl) rfl
theorem dX11_tellGrowth_10 : decode cX11_tellGrowth 10 = .ok (.aload 4, 2) := dk_1025 (dk_g tcX11_tellGrowth_0 10 rfl) (dk_g tcX11_tellGrowth_0 11 rfl) rfl
theorem tcX11_tellGrowth_1 : (cX11_tellGrowth.data.toList.drop 12).take 12 = [28, 29, 184, 0, 180, 54, 5, 21, 5, 153, 0, 10] := by decide +kernel
theorem dX11_tellGrowth_12 : decode cX11_tellGrowth 12 = .ok (.iload_n 2, 1) := dk_1028 (dk_g tcX11_tellGrowth_1 0 rfl)
theorem dX11_tellGrowth_13 : decode cX11_tellGrowth 13 = .ok (.iload_n 3, 1) := dk_1029 (dk_g tcX11_tellGrowth_1 1 rfl)
theorem dX11_tellGrowth_14 : decode cX11_tellGrowth 14 = .ok (.invokestatic 180, 3) := dk_1184 (dk_g tcX11_tellGrowth_1 2 rfl) (dk_g tcX11_tellGrowth_1 3 rfl) (dk_g tcX11_tellGrowth_1 4 rfl) rfl
theorem dX11_tellGrowth_17 : decode cX11_tellGrowth 17 = .ok (.istore 5, 2) := dk_1054 (dk_g tcX11_tellGrowth_1 5 rfl) (dk_g tcX11_tellGrowth_1 6 rfl) rfl
theorem dX11_tellGrowth_19 : decode cX11_tellGrowth 19 = .ok (.iload 5, 2) := dk_1021 (dk_g tcX11_tellGrowth_1 7 rfl) (dk_g tcX11_tellGrowth_1 8 rfl) rfl
theorem dX11_tellGrowth_21 : decode cX11_tellGrowth 21 = .ok (.ifCond .eq 10, 3) := dk_2153 (dk_g tcX11_tellGrowth_1 9 rfl) (dk_g tcX11_tellGrowth_1 10 rfl) (dk_g tcX11_tellGrowth_1 11 rfl) rfl rfl
theorem tcX11_tellGrowth_2 : (cX11_tellGrowth.data.toList.drop 24).take 12 = [42, 21, 5, 182, 0, 98, 172, 42, 180, 0, 62, 28] := by decide +kernel
theorem dX11_tellGrowth_24 : decode cX11_tellGrowth 24 = .ok (.aload_n 0, 1) := dk_1042 (dk_g tcX11_tellGrowth_2 0 rfl)
theorem dX11_tellGrowth_25 : decode cX11_tellGrowth 25 = .ok (.iload 5, 2) := dk_1021 (dk_g tcX11_tellGrowth_2 1 rfl) (dk_g tcX11_tellGrowth_2 2 rfl) rfl
theorem dX11_tellGrowth_27 : decode cX11_tellGrowth 27 = .ok (.invokevirtual 98, 3) := dk_1182 (dk_g tcX11_tellGrowth_2 3 rfl) (dk_g tcX11_tellGrowth_2 4 rfl) (dk_g tcX11_tellGrowth_2 5 rfl) rfl
theorem dX11_tellGrowth_30 : decode cX11_tellGrowth 30 = .ok (.ireturn, 1) := dk_1172 (dk_g tcX11_tellGrowth_2 6 rfl)
theorem dX11_tellGrowth_31 : decode cX11_tellGrowth 31 = .ok (.aload_n 0, 1) := dk_1042 (dk_g tcX11_tellGrowth_2 7 rfl)
theorem dX11_tellGrowth_32 : decode cX11_tellGrowth 32 = .ok (.getfield 62, 3) := dk_1180 (dk_g tcX11_tellGrowth_2 8 rfl) (dk_g tcX11_tellGrowth_2 9 rfl) (dk_g tcX11_tellGrowth_2 10 rfl) rfl
theorem dX11_tellGrowth_35 : decode cX11_tellGrowth 35 = .ok (.iload_n 2, 1) := dk_1028 (dk_g tcX11_tellGrowth_2 11 rfl)
theorem tcX11_tellGrowth_3 : (cX11_tellGrowth.data.toList.drop 36).take 12 = [29, 182, 1, 18, 42, 180, 0, 16, 42, 180, 0, 62] := by decide +kernel
theorem dX11_tellGrowth_36 : decode cX11_tellGrowth 36 = .ok (.iload_n 3, 1) := dk_1029 (dk_g tcX11_tellGrowth_3 0 rfl)
theorem dX11_tellGrowth_37 : decode cX11_tellGrowth 37 = .ok (.invokevirtual 274, 3) := dk_1182 (dk_g tcX11_tellGrowth_3 1 rfl) (dk_g tcX11_tellGrowth_3 2 rfl) (dk_g tcX11_tellGrowth_3 3 rfl) rfl
theorem dX11_tellGrowth_40 : decode cX11_tellGrowth 40 = .ok (.aload_n 0, 1) := dk_1042 (dk_g tcX11_tellGrowth_3 4 rfl)
theorem dX11_tellGrowth_41 : decode cX11_tellGrowth 41 = .ok (.getfield 16, 3) := dk_1180 (dk_g tcX11_tellGrowth_3 5 rfl) (dk_g tcX11_tellGrowth_3 6 rfl) (dk_g tcX11_tellGrowth_3 7 rfl) rfl
theorem dX11_tellGrowth_44 : decode cX11_tellGrowth 44 = .ok (.aload_n 0, 1) := dk_1042 (dk_g tcX11_tellGrowth_3 8 rfl)
theorem dX11_tellGrowth_45 : decode cX11_tellGrowth 45 = .ok (.getfield 62, 3) := dk_1180 (dk_g tcX11_tellGrowth_3 9 rfl) (dk_g tcX11_tellGrowth_3 10 rfl) (dk_g tcX11_tellGrowth_3 11 rfl) rfl
theorem tcX11_tellGrowth_4 : (cX11_tellGrowth.data.toList.drop 48).take 12 = [25, 4, 42, 180, 0, 69, 182, 1, 14, 42, 3, 181] := by decide +kernel
theorem dX11_tellGrowth_48 : decode cX11_tellGrowth 48 = .ok (.aload 4, 2) := dk_1025 (dk_g tcX11_tellGrowth_4 0 rfl) (dk_g tcX11_tellGrowth_4 1 rfl) rfl
theorem dX11_tellGrowth_50 : decode cX11_tellGrowth 50 = .ok (.aload_n 0, 1) := dk_1042 (dk_g tcX11_tellGrowth_4 2 rfl)
theorem dX11_tellGrowth_51 : decode cX11_tellGrowth 51 = .ok (.getfield 69, 3) := dk_1180 (dk_g tcX11_tellGrowth_4 3 rfl) (dk_g tcX11_tellGrowth_4 4 rfl) (dk_g tcX11_tellGrowth_4 5 rfl) rfl
theorem dX11_tellGrowth_54 : decode cX11_tellGrowth 54 = .ok (.invokevirtual 270, 3) := dk_1182 (dk_g tcX11_tellGrowth_4 6 rfl) (dk_g tcX11_tellGrowth_4 7 rfl) (dk_g tcX11_tellGrowth_4 8 rfl) rfl
theorem dX11_tellGrowth_57 : decode cX11_tellGrowth 57 = .ok (.aload_n 0, 1) := dk_1042 (dk_g tcX11_tellGrowth_4 9 rfl)
theorem dX11_tellGrowth_58 : decode cX11_tellGrowth 58 = .ok (.iconst 0, 1) := dk_1003 (dk_g tcX11_tellGrowth_4 10 rfl)
theorem tcX11_tellGrowth_5 : (cX11_tellGrowth.data.toList.drop 60).take 12 = [0, 56, 42, 19, 1, 171, 182, 1, 155, 42, 28, 182] := by decide +kernel
theorem dX11_tellGrowth_59 : decode cX11_tellGrowth 59 = .ok (.putfield 56, 3) := dk_1181 (dk_g tcX11_tellGrowth_4 11 rfl) (dk_g tcX11_tellGrowth_5 0 rfl) (dk_g tcX11_tellGrowth_5 1 rfl) rfl
theorem dX11_tellGrowth_62 : decode cX11_tellGrowth 62 = .ok (.aload_n 0, 1) := dk_1042 (dk_g tcX11_tellGrowth_5 2 rfl)
theorem dX11_tellGrowth_63 : decode cX11_tellGrowth 63 = .ok (.ldc_w 427, 3) := dk_1019 (dk_g tcX11_tellGrowth_5 3 rfl) (dk_g tcX11_tellGrowth_5 4 rfl) (dk_g tcX11_tellGrowth_5 5 rfl) rfl
theorem dX11_tellGrowth_66 : decode cX11_tellGrowth 66 = .ok (.invokevirtual 411, 3) := dk_1182 (dk_g tcX11_tellGrowth_5 6 rfl) (dk_g tcX11_tellGrowth_5 7 rfl) (dk_g tcX11_tellGrowth_5 8 rfl) rfl
theorem dX11_tellGrowth_69 : decode cX11_tellGrowth 69 = .ok (.aload_n 0, 1) := dk_1042 (dk_g tcX11_tellGrowth_5 9 rfl)
theorem dX11_tellGrowth_70 : decode cX11_tellGrowth 70 = .ok (.iload_n 2, 1) := dk_1028 (dk_g tcX11_tellGrowth_5 10 rfl)
theorem tcX11_tellGrowth_6 : (cX11_tellGrowth.data.toList.drop 72).take 12 = [1, 159, 42, 19, 1, 164, 182, 1, 155, 42, 42, 180] := by decide +kernel
theorem dX11_tellGrowth_71 : decode cX11_tellGrowth 71 = .ok (.invokevirtual 415, 3) := dk_1182 (dk_g tcX11_tellGrowth_5 11 rfl) (dk_g tcX11_tellGrowth_6 0 rfl) (dk_g tcX11_tellGrowth_6 1 rfl) rfl
theorem dX11_tellGrowth_74 : decode cX11_tellGrowth 74 = .ok (.aload_n 0, 1) := dk_1042 (dk_g tcX11_tellGrowth_6 2 rfl)
theorem dX11_tellGrowth_75 : decode cX11_tellGrowth 75 = .ok (.ldc_w 420, 3) := dk_1019 (dk_g tcX11_tellGrowth_6 3 rfl) (dk_g tcX11_tellGrowth_6 4 rfl) (dk_g tcX11_tellGrowth_6 5 rfl) rfl
theorem dX11_tellGrowth_78 : decode cX11_tellGrowth 78 = .ok (.invokevirtual 411, 3) := dk_1182 (dk_g tcX11_tellGrowth_6 6 rfl) (dk_g tcX11_tellGrowth_6 7 rfl) (dk_g tcX11_tellGrowth_6 8 rfl) rfl
theorem dX11_tellGrowth_81 : decode cX11_tellGrowth 81 = .ok (.aload_n 0, 1) := dk_1042 (dk_g tcX11_tellGrowth_6 9 rfl)
theorem dX11_tellGrowth_82 : decode cX11_tellGrowth 82 = .ok (.aload_n 0, 1) := dk_1042 (dk_g tcX11_tellGrowth_6 10 rfl)
theorem tcX11_tellGrowth_7 : (cX11_tellGrowth.data.toList.drop 84).take 12 = [0, 16, 25, 4, 28, 182, 0, 184, 182, 1, 159, 42] := by decide +kernel
theorem dX11_tellGrowth_83 : decode cX11_tellGrowth 83 = .ok (.getfield 16, 3) := dk_1180 (dk_g tcX11_tellGrowth_6 11 rfl) (dk_g tcX11_tellGrowth_7 0 rfl) (dk_g tcX11_tellGrowth_7 1 rfl) rfl
theorem dX11_tellGrowth_86 : decode cX11_tellGrowth 86 = .ok (.aload 4, 2) := dk_1025 (dk_g tcX11_tellGrowth_7 2 rfl) (dk_g tcX11_tellGrowth_7 3 rfl) rfl
theorem dX11_tellGrowth_88 : decode cX11_tellGrowth 88 = .ok (.iload_n 2, 1) := dk_1028 (dk_g tcX11_tellGrowth_7 4 rfl)
theorem dX11_tellGrowth_89 : decode cX11_tellGrowth 89 = .ok (.invokevirtual 184, 3) := dk_1182 (dk_g tcX11_tellGrowth_7 5 rfl) (dk_g tcX11_tellGrowth_7 6 rfl) (dk_g tcX11_tellGrowth_7 7 rfl) rfl
theorem dX11_tellGrowth_92 : decode cX11_tellGrowth 92 = .ok (.invokevirtual 415, 3) := dk_1182 (dk_g tcX11_tellGrowth_7 8 rfl) (dk_g tcX11_tellGrowth_7 9 rfl) (dk_g tcX11_tellGrowth_7 10 rfl) rfl
theorem dX11_tellGrowth_95 : decode cX11_tellGrowth 95 = .ok (.aload_n 0, 1) := dk_1042 (dk_g tcX11_tellGrowth_7 11 rfl)
theorem tcX11_tellGrowth_8 : (cX11_tellGrowth.data.toList.drop 96).take 12 = [19, 1, 173, 182, 1, 155, 42, 29, 182, 1, 159, 42] := by decide +kernel
theorem dX11_tellGrowth_96 : decode cX11_tellGrowth 96 = .ok (.ldc_w 429, 3) := dk_1019 (dk_g tcX11_tellGrowth_8 0 rfl) (dk_g tcX11_tellGrowth_8 1 rfl) (dk_g tcX11_tellGrowth_8 2 rfl) rfl
theorem dX11_tellGrowth_99 : decode cX11_tellGrowth 99 = .ok (.invokevirtual 411, 3) := dk_1182 (dk_g tcX11_tellGrowth_8 3 rfl) (dk_g tcX11_tellGrowth_8 4 rfl) (dk_g tcX11_tellGrowth_8 5 rfl) rfl
theorem dX11_tellGrowth_102 : decode cX11_tellGrowth 102 = .ok (.aload_n 0, 1) := dk_1042 (dk_g tcX11_tellGrowth_8 6 rfl)
theorem dX11_tellGrowth_103 : decode cX11_tellGrowth 103 = .ok (.iload_n 3, 1) := dk_1029 (dk_g tcX11_tellGrowth_8 7 rfl)
theorem dX11_tellGrowth_104 : decode cX11_tellGrowth 104 = .ok (.invokevirtual 415, 3) := dk_1182 (dk_g tcX11_tellGrowth_8 8 rfl) (dk_g tcX11_tellGrowth_8 9 rfl) (dk_g tcX11_tellGrowth_8 10 rfl) rfl
theorem dX11_tellGrowth_107 : decode cX11_tellGrowth 107 = .ok (.aload_n 0, 1) := dk_1042 (dk_g tcX11_tellGrowth_8 11 rfl)
theorem tcX11_tellGrowth_9 : (cX11_tellGrowth.data.toList.drop 108).take 12 = [19, 1, 166, 182, 1, 155, 42, 42, 180, 0, 16, 25] := by decide +kernel
theorem dX11_tellGrowth_108 : decode cX11_tellGrowth 108 = .ok (.ldc_w 422, 3) := dk_1019 (dk_g tcX11_tellGrowth_9 0 rfl) (dk_g tcX11_tellGrowth_9 1 rfl) (dk_g tcX11_tellGrowth_9 2 rfl) rfl
theorem dX11_tellGrowth_111 : decode cX11_tellGrowth 111 = .ok (.invokevirtual 411, 3) := dk_1182 (dk_g tcX11_tellGrowth_9 3 rfl) (dk_g tcX11_tellGrowth_9 4 rfl) (dk_g tcX11_tellGrowth_9 5 rfl) rfl
theorem dX11_tellGrowth_114 : decode cX11_tellGrowth 114 = .ok (.aload_n 0, 1) := dk_1042 (dk_g tcX11_tellGrowth_9 6 rfl)
theorem dX11_tellGrowth_115 : decode cX11_tellGrowth 115 = .ok (.aload_n 0, 1) := dk_1042 (dk_g tcX11_tellGrowth_9 7 rfl)
theorem dX11_tellGrowth_116 : decode cX11_tellGrowth 116 = .ok (.getfield 16, 3) := dk_1180 (dk_g tcX11_tellGrowth_9 8 rfl) (dk_g tcX11_tellGrowth_9 9 rfl) (dk_g tcX11_tellGrowth_9 10 rfl) rfl
theorem tcX11_tellGrowth_10 : (cX11_tellGrowth.data.toList.drop 120).take 12 = [4, 29, 182, 0, 184, 182, 1, 159, 42, 182, 1, 168] := by decide +kernel
theorem dX11_tellGrowth_119 : decode cX11_tellGrowth 119 = .ok (.aload 4, 2) := dk_1025 (dk_g tcX11_tellGrowth_9 11 rfl) (dk_g tcX11_tellGrowth_10 0 rfl) rfl
theorem dX11_tellGrowth_121 : decode cX11_tellGrowth 121 = .ok (.iload_n 3, 1) := dk_1029 (dk_g tcX11_tellGrowth_10 1 rfl)
theorem dX11_tellGrowth_122 : decode cX11_tellGrowth 122 = .ok (.invokevirtual 184, 3) := dk_1182 (dk_g tcX11_tellGrowth_10 2 rfl) (dk_g tcX11_tellGrowth_10 3 rfl) (dk_g tcX11_tellGrowth_10 4 rfl) rfl
theorem dX11_tellGrowth_125 : decode cX11_tellGrowth 125 = .ok (.invokevirtual 415, 3) := dk_1182 (dk_g tcX11_tellGrowth_10 5 rfl) (dk_g tcX11_tellGrowth_10 6 rfl) (dk_g tcX11_tellGrowth_10 7 rfl) rfl
theorem dX11_tellGrowth_128 : decode cX11_tellGrowth 128 = .ok (.aload_n 0, 1) := dk_1042 (dk_g tcX11_tellGrowth_10 8 rfl)
theorem dX11_tellGrowth_129 : decode cX11_tellGrowth 129 = .ok (.invokevirtual 424, 3) := dk_1182 (dk_g tcX11_tellGrowth_10 9 rfl) (dk_g tcX11_tellGrowth_10 10 rfl) (dk_g tcX11_tellGrowth_10 11 rfl) rfl
theorem tcX11_tellGrowth_11 : (cX11_tellGrowth.data.toList.drop 132).take 12 = [42, 42, 180, 0, 56, 182, 0, 115, 172] := by decide +kernel
theorem dX11_tellGrowth_132 : decode cX11_tellGrowth 132 = .ok (.aload_n 0, 1) := dk_1042 (dk_g tcX11_tellGrowth_11 0 rfl)
theorem dX11_tellGrowth_133 : decode cX11_tellGrowth 133 = .ok (.aload_n 0, 1) := dk_1042 (dk_g tcX11_tellGrowth_11 1 rfl)
theorem dX11_tellGrowth_134 : decode cX11_tellGrowth 134 = .ok (.getfield 56, 3) := dk_1180 (dk_g tcX11_tellGrowth_11 2 rfl) (dk_g tcX11_tellGrowth_11 3 rfl) (dk_g tcX11_tellGrowth_11 4 rfl) rfl
theorem dX11_tellGrowth_137 : decode cX11_tellGrowth 137 = .ok (.invokevirtual 115, 3) := dk_1182 (dk_g tcX11_tellGrowth_11 5 rfl) (dk_g tcX11_tellGrowth_11 6 rfl) (dk_g tcX11_tellGrowth_11 7 rfl) rfl
theorem dX11_tellGrowth_140 : decode cX11_tellGrowth 140 = .ok (.ireturn, 1) := dk_1172 (dk_g tcX11_tellGrowth_11 8 rfl)
theorem tcX11_out_0 : (cX11_out.data.toList.drop 0).take 12 = [27, 156, 0, 9, 42, 4, 182, 0, 98, 172, 27, 42] := by decide +kernel
theorem dX11_out_0 : decode cX11_out 0 = .ok (.iload_n 1, 1) := dk_1027 (dk_g tcX11_out_0 0 rfl)
theorem dX11_out_1 : decode cX11_out 1 = .ok (.ifCond .ge 9, 3) := dk_2156 (dk_g tcX11_out_0 1 rfl) (dk_g tcX11_out_0 2 rfl) (dk_g tcX11_out_0 3 rfl) rfl rfl
theorem dX11_out_4 : decode cX11_out 4 = .ok (.aload_n 0, 1) := dk_1042 (dk_g tcX11_out_0 4 rfl)
theorem dX11_out_5 : decode cX11_out 5 = .ok (.iconst 1, 1) := dk_1004 (dk_g tcX11_out_0 5 rfl)
theorem dX11_out_6 : decode cX11_out 6 = .ok (.invokevirtual 98, 3) := dk_1182 (dk_g tcX11_out_0 6 rfl) (dk_g tcX11_out_0 7 rfl) (dk_g tcX11_out_0 8 rfl) rfl
theorem dX11_out_9 : decode cX11_out 9 = .ok (.ireturn, 1) := dk_1172 (dk_g tcX11_out_0 9 rfl)
theorem dX11_out_10 : decode cX11_out 10 = .ok (.iload_n 1, 1) := dk_1027 (dk_g tcX11_out_0 10 rfl)
theorem dX11_out_11 : decode cX11_out 11 = .ok (.aload_n 0, 1) := dk_1042 (dk_g tcX11_out_0 11 rfl)
theorem tcX11_out_1 : (cX11_out.data.toList.drop 12).take 12 = [180, 0, 56, 162, 0, 25, 27, 42, 180, 0, 53, 190] := by decide +kernel
theorem dX11_out_12 : decode cX11_out 12 = .ok (.getfield 56, 3) := dk_1180 (dk_g tcX11_out_1 0 rfl) (dk_g tcX11_out_1 1 rfl) (dk_g tcX11_out_1 2 rfl) rfl
theorem dX11_out_15 : decode cX11_out 15 = .ok (.if_icmp .ge 25, 3) := dk_2162 (dk_g tcX11_out_1 3 rfl) (dk_g tcX11_out_1 4 rfl) (dk_g tcX11_out_1 5 rfl) rfl rfl
theorem dX11_out_18 : decode cX11_out 18 = .ok (.iload_n 1, 1) := dk_1027 (dk_g tcX11_out_1 6 rfl)
theorem dX11_out_19 : decode cX11_out 19 = .ok (.aload_n 0, 1) := dk_1042 (dk_g tcX11_out_1 7 rfl)
theorem dX11_out_20 : decode cX11_out 20 = .ok (.getfield 53, 3) := dk_1180 (dk_g tcX11_out_1 8 rfl) (dk_g tcX11_out_1 9 rfl) (dk_g tcX11_out_1 10 rfl) rfl
theorem dX11_out_23 : decode cX11_out 23 = .ok (.arraylength, 1) := dk_1190 (dk_g tcX11_out_1 11 rfl)
theorem tcX11_out_2 : (cX11_out.data.toList.drop 24).take 12 = [162, 0, 16, 42, 42, 180, 0, 53, 27, 51, 182, 0] := by decide +kernel
theorem dX11_out_24 : decode cX11_out 24 = .ok (.if_icmp .ge 16, 3) := dk_2162 (dk_g tcX11_out_2 0 rfl) (dk_g tcX11_out_2 1 rfl) (dk_g tcX11_out_2 2 rfl) rfl rfl
theorem dX11_out_27 : decode cX11_out 27 = .ok (.aload_n 0, 1) := dk_1042 (dk_g tcX11_out_2 3 rfl)
theorem dX11_out_28 : decode cX11_out 28 = .ok (.aload_n 0, 1) := dk_1042 (dk_g tcX11_out_2 4 rfl)
theorem dX11_out_29 : decode cX11_out 29 = .ok (.getfield 53, 3) := dk_1180 (dk_g tcX11_out_2 5 rfl) (dk_g tcX11_out_2 6 rfl) (dk_g tcX11_out_2 7 rfl) rfl
theorem dX11_out_32 : decode cX11_out 32 = .ok (.iload_n 1, 1) := dk_1027 (dk_g tcX11_out_2 8 rfl)
theorem dX11_out_33 : decode cX11_out 33 = .ok (.baload, 1) := dk_1051 (dk_g tcX11_out_2 9 rfl)
theorem tcX11_out_3 : (cX11_out.data.toList.drop 36).take 12 = [115, 167, 0, 8, 42, 8, 182, 0, 98, 172] := by decide +kernel
theorem dX11_out_34 : decode cX11_out 34 = .ok (.invokevirtual 115, 3) := dk_1182 (dk_g tcX11_out_2 10 rfl) (dk_g tcX11_out_2 11 rfl) (dk_g tcX11_out_3 0 rfl) rfl
theorem dX11_out_37 : decode cX11_out 37 = .ok (.goto 8, 3) := dk_2167 (dk_g tcX11_out_3 1 rfl) (dk_g tcX11_out_3 2 rfl) (dk_g tcX11_out_3 3 rfl) rfl rfl
theorem dX11_out_40 : decode cX11_out 40 = .ok (.aload_n 0, 1) := dk_1042 (dk_g tcX11_out_3 4 rfl)
theorem dX11_out_41 : decode cX11_out 41 = .ok (.iconst 5, 1) := dk_1008 (dk_g tcX11_out_3 5 rfl)
theorem dX11_out_42 : decode cX11_out 42 = .ok (.invokevirtual 98, 3) := dk_1182 (dk_g tcX11_out_3 6 rfl) (dk_g tcX11_out_3 7 rfl) (dk_g tcX11_out_3 8 rfl) rfl
theorem dX11_out_45 : decode cX11_out 45 = .ok (.ireturn, 1) := dk_1172 (dk_g tcX11_out_3 9 rfl)
theorem tcX11_trusted_0 : (cX11_trusted.data.toList.drop 0).take 12 = [27, 155, 0, 11, 42, 28, 182, 0, 188, 154, 0, 9] := by decide +kernel
theorem dX11_trusted_0 : decode cX11_trusted 0 = .ok (.iload_n 1, 1) := dk_1027 (dk_g tcX11_trusted_0 0 rfl)
theorem dX11_trusted_1 : decode cX11_trusted 1 = .ok (.ifCond .lt 11, 3) := dk_2155 (dk_g tcX11_trusted_0 1 rfl) (dk_g tcX11_trusted_0 2 rfl) (dk_g tcX11_trusted_0 3 rfl) rfl rfl
theorem dX11_trusted_4 : decode cX11_trusted 4 = .ok (.aload_n 0, 1) := dk_1042 (dk_g tcX11_trusted_0 4 rfl)
theorem dX11_trusted_5 : decode cX11_trusted 5 = .ok (.iload_n 2, 1) := dk_1028 (dk_g tcX11_trusted_0 5 rfl)
theorem dX11_trusted_6 : decode cX11_trusted 6 = .ok (.invokevirtual 188, 3) := dk_1182 (dk_g tcX11_trusted_0 6 rfl) (dk_g tcX11_trusted_0 7 rfl) (dk_g tcX11_trusted_0 8 rfl) rfl
theorem dX11_trusted_9 : decode cX11_trusted 9 = .ok (.ifCond .ne 9, 3) := dk_2154 (dk_g tcX11_trusted_0 9 rfl) (dk_g tcX11_trusted_0 10 rfl) (dk_g tcX11_trusted_0 11 rfl) rfl rfl
theorem tcX11_trusted_1 : (cX11_trusted.data.toList.drop 12).take 12 = [42, 4, 182, 0, 98, 172, 3, 62, 3, 54, 4, 21] := by decide +kernel
theorem dX11_trusted_12 : decode cX11_trusted 12 = .ok (.aload_n 0, 1) := dk_1042 (dk_g tcX11_trusted_1 0 rfl)
theorem dX11_trusted_13 : decode cX11_trusted 13 = .ok (.iconst 1, 1) := dk_1004 (dk_g tcX11_trusted_1 1 rfl)
theorem dX11_trusted_14 : decode cX11_trusted 14 = .ok (.invokevirtual 98, 3) := dk_1182 (dk_g tcX11_trusted_1 2 rfl) (dk_g tcX11_trusted_1 3 rfl) (dk_g tcX11_trusted_1 4 rfl) rfl
theorem dX11_trusted_17 : decode cX11_trusted 17 = .ok (.ireturn, 1) := dk_1172 (dk_g tcX11_trusted_1 5 rfl)
theorem dX11_trusted_18 : decode cX11_trusted 18 = .ok (.iconst 0, 1) := dk_1003 (dk_g tcX11_trusted_1 6 rfl)
theorem dX11_trusted_19 : decode cX11_trusted 19 = .ok (.istore_n 3, 1) := dk_1062 (dk_g tcX11_trusted_1 7 rfl)
theorem dX11_trusted_20 : decode cX11_trusted 20 = .ok (.iconst 0, 1) := dk_1003 (dk_g tcX11_trusted_1 8 rfl)
theorem dX11_trusted_21 : decode cX11_trusted 21 = .ok (.istore 4, 2) := dk_1054 (dk_g tcX11_trusted_1 9 rfl) (dk_g tcX11_trusted_1 10 rfl) rfl
theorem tcX11_trusted_2 : (cX11_trusted.data.toList.drop 24).take 12 = [4, 7, 162, 0, 46, 42, 180, 0, 16, 21, 4, 182] := by decide +kernel
theorem dX11_trusted_23 : decode cX11_trusted 23 = .ok (.iload 4, 2) := dk_1021 (dk_g tcX11_trusted_1 11 rfl) (dk_g tcX11_trusted_2 0 rfl) rfl
theorem dX11_trusted_25 : decode cX11_trusted 25 = .ok (.iconst 4, 1) := dk_1007 (dk_g tcX11_trusted_2 1 rfl)
theorem dX11_trusted_26 : decode cX11_trusted 26 = .ok (.if_icmp .ge 46, 3) := dk_2162 (dk_g tcX11_trusted_2 2 rfl) (dk_g tcX11_trusted_2 3 rfl) (dk_g tcX11_trusted_2 4 rfl) rfl rfl
theorem dX11_trusted_29 : decode cX11_trusted 29 = .ok (.aload_n 0, 1) := dk_1042 (dk_g tcX11_trusted_2 5 rfl)
theorem dX11_trusted_30 : decode cX11_trusted 30 = .ok (.getfield 16, 3) := dk_1180 (dk_g tcX11_trusted_2 6 rfl) (dk_g tcX11_trusted_2 7 rfl) (dk_g tcX11_trusted_2 8 rfl) rfl
theorem dX11_trusted_33 : decode cX11_trusted 33 = .ok (.iload 4, 2) := dk_1021 (dk_g tcX11_trusted_2 9 rfl) (dk_g tcX11_trusted_2 10 rfl) rfl
theorem tcX11_trusted_3 : (cX11_trusted.data.toList.drop 36).take 12 = [0, 220, 58, 5, 25, 5, 198, 0, 24, 25, 5, 180] := by decide +kernel
theorem dX11_trusted_35 : decode cX11_trusted 35 = .ok (.invokevirtual 220, 3) := dk_1182 (dk_g tcX11_trusted_2 11 rfl) (dk_g tcX11_trusted_3 0 rfl) (dk_g tcX11_trusted_3 1 rfl) rfl
theorem dX11_trusted_38 : decode cX11_trusted 38 = .ok (.astore 5, 2) := dk_1058 (dk_g tcX11_trusted_3 2 rfl) (dk_g tcX11_trusted_3 3 rfl) rfl
theorem dX11_trusted_40 : decode cX11_trusted 40 = .ok (.aload 5, 2) := dk_1025 (dk_g tcX11_trusted_3 4 rfl) (dk_g tcX11_trusted_3 5 rfl) rfl
theorem dX11_trusted_42 : decode cX11_trusted 42 = .ok (.ifnull 24, 3) := dk_2198 (dk_g tcX11_trusted_3 6 rfl) (dk_g tcX11_trusted_3 7 rfl) (dk_g tcX11_trusted_3 8 rfl) rfl rfl
theorem dX11_trusted_45 : decode cX11_trusted 45 = .ok (.aload 5, 2) := dk_1025 (dk_g tcX11_trusted_3 9 rfl) (dk_g tcX11_trusted_3 10 rfl) rfl
theorem tcX11_trusted_4 : (cX11_trusted.data.toList.drop 48).take 12 = [0, 224, 27, 160, 0, 15, 25, 5, 180, 0, 227, 28] := by decide +kernel
theorem dX11_trusted_47 : decode cX11_trusted 47 = .ok (.getfield 224, 3) := dk_1180 (dk_g tcX11_trusted_3 11 rfl) (dk_g tcX11_trusted_4 0 rfl) (dk_g tcX11_trusted_4 1 rfl) rfl
theorem dX11_trusted_50 : decode cX11_trusted 50 = .ok (.iload_n 1, 1) := dk_1027 (dk_g tcX11_trusted_4 2 rfl)
theorem dX11_trusted_51 : decode cX11_trusted 51 = .ok (.if_icmp .ne 15, 3) := dk_2160 (dk_g tcX11_trusted_4 3 rfl) (dk_g tcX11_trusted_4 4 rfl) (dk_g tcX11_trusted_4 5 rfl) rfl rfl
theorem dX11_trusted_54 : decode cX11_trusted 54 = .ok (.aload 5, 2) := dk_1025 (dk_g tcX11_trusted_4 6 rfl) (dk_g tcX11_trusted_4 7 rfl) rfl
theorem dX11_trusted_56 : decode cX11_trusted 56 = .ok (.getfield 227, 3) := dk_1180 (dk_g tcX11_trusted_4 8 rfl) (dk_g tcX11_trusted_4 9 rfl) (dk_g tcX11_trusted_4 10 rfl) rfl
theorem dX11_trusted_59 : decode cX11_trusted 59 = .ok (.iload_n 2, 1) := dk_1028 (dk_g tcX11_trusted_4 11 rfl)
theorem tcX11_trusted_5 : (cX11_trusted.data.toList.drop 60).take 12 = [160, 0, 6, 132, 3, 1, 132, 4, 1, 167, 255, 210] := by decide +kernel
theorem dX11_trusted_60 : decode cX11_trusted 60 = .ok (.if_icmp .ne 6, 3) := dk_2160 (dk_g tcX11_trusted_5 0 rfl) (dk_g tcX11_trusted_5 1 rfl) (dk_g tcX11_trusted_5 2 rfl) rfl rfl
theorem dX11_trusted_63 : decode cX11_trusted 63 = .ok (.iinc 3 1, 3) := dk_1132 (dk_g tcX11_trusted_5 3 rfl) (dk_g tcX11_trusted_5 4 rfl) (dk_g tcX11_trusted_5 5 rfl) rfl (by decide +kernel)
theorem dX11_trusted_66 : decode cX11_trusted 66 = .ok (.iinc 4 1, 3) := dk_1132 (dk_g tcX11_trusted_5 6 rfl) (dk_g tcX11_trusted_5 7 rfl) (dk_g tcX11_trusted_5 8 rfl) rfl (by decide +kernel)
theorem dX11_trusted_69 : decode cX11_trusted 69 = .ok (.goto (-46), 3) := dk_1167 (dk_g tcX11_trusted_5 9 rfl) (dk_g tcX11_trusted_5 10 rfl) (dk_g tcX11_trusted_5 11 rfl) (by decide +kernel)
theorem tcX11_trusted_6 : (cX11_trusted.data.toList.drop 72).take 12 = [42, 29, 182, 0, 115, 172] := by decide +kernel
theorem dX11_trusted_72 : decode cX11_trusted 72 = .ok (.aload_n 0, 1) := dk_1042 (dk_g tcX11_trusted_6 0 rfl)
theorem dX11_trusted_73 : decode cX11_trusted 73 = .ok (.iload_n 3, 1) := dk_1029 (dk_g tcX11_trusted_6 1 rfl)
theorem dX11_trusted_74 : decode cX11_trusted 74 = .ok (.invokevirtual 115, 3) := dk_1182 (dk_g tcX11_trusted_6 2 rfl) (dk_g tcX11_trusted_6 3 rfl) (dk_g tcX11_trusted_6 4 rfl) rfl
theorem dX11_trusted_77 : decode cX11_trusted 77 = .ok (.ireturn, 1) := dk_1172 (dk_g tcX11_trusted_6 5 rfl)
theorem tcX11_saves_0 : (cX11_saves.data.toList.drop 0).take 12 = [27, 184, 1, 21, 153, 0, 11, 27, 28, 184, 1, 24] := by decide +kernel
theorem dX11_saves_0 : decode cX11_saves 0 = .ok (.iload_n 1, 1) := dk_1027 (dk_g tcX11_saves_0 0 rfl)
theorem dX11_saves_1 : decode cX11_saves 1 = .ok (.invokestatic 277, 3) := dk_1184 (dk_g tcX11_saves_0 1 rfl) (dk_g tcX11_saves_0 2 rfl) (dk_g tcX11_saves_0 3 rfl) rfl
theorem dX11_saves_4 : decode cX11_saves 4 = .ok (.ifCond .eq 11, 3) := dk_2153 (dk_g tcX11_saves_0 4 rfl) (dk_g tcX11_saves_0 5 rfl) (dk_g tcX11_saves_0 6 rfl) rfl rfl
theorem dX11_saves_7 : decode cX11_saves 7 = .ok (.iload_n 1, 1) := dk_1027 (dk_g tcX11_saves_0 7 rfl)
theorem dX11_saves_8 : decode cX11_saves 8 = .ok (.iload_n 2, 1) := dk_1028 (dk_g tcX11_saves_0 8 rfl)
theorem dX11_saves_9 : decode cX11_saves 9 = .ok (.invokestatic 280, 3) := dk_1184 (dk_g tcX11_saves_0 9 rfl) (dk_g tcX11_saves_0 10 rfl) (dk_g tcX11_saves_0 11 rfl) rfl
theorem tcX11_saves_1 : (cX11_saves.data.toList.drop 12).take 12 = [154, 0, 9, 42, 4, 182, 0, 98, 172, 3, 62, 3] := by decide +kernel
theorem dX11_saves_12 : decode cX11_saves 12 = .ok (.ifCond .ne 9, 3) := dk_2154 (dk_g tcX11_saves_1 0 rfl) (dk_g tcX11_saves_1 1 rfl) (dk_g tcX11_saves_1 2 rfl) rfl rfl
theorem dX11_saves_15 : decode cX11_saves 15 = .ok (.aload_n 0, 1) := dk_1042 (dk_g tcX11_saves_1 3 rfl)
theorem dX11_saves_16 : decode cX11_saves 16 = .ok (.iconst 1, 1) := dk_1004 (dk_g tcX11_saves_1 4 rfl)
theorem dX11_saves_17 : decode cX11_saves 17 = .ok (.invokevirtual 98, 3) := dk_1182 (dk_g tcX11_saves_1 5 rfl) (dk_g tcX11_saves_1 6 rfl) (dk_g tcX11_saves_1 7 rfl) rfl
theorem dX11_saves_20 : decode cX11_saves 20 = .ok (.ireturn, 1) := dk_1172 (dk_g tcX11_saves_1 8 rfl)
theorem dX11_saves_21 : decode cX11_saves 21 = .ok (.iconst 0, 1) := dk_1003 (dk_g tcX11_saves_1 9 rfl)
theorem dX11_saves_22 : decode cX11_saves 22 = .ok (.istore_n 3, 1) := dk_1062 (dk_g tcX11_saves_1 10 rfl)
theorem dX11_saves_23 : decode cX11_saves 23 = .ok (.iconst 0, 1) := dk_1003 (dk_g tcX11_saves_1 11 rfl)
theorem tcX11_saves_2 : (cX11_saves.data.toList.drop 24).take 12 = [54, 4, 21, 4, 16, 30, 162, 0, 39, 27, 21, 4] := by decide +kernel
theorem dX11_saves_24 : decode cX11_saves 24 = .ok (.istore 4, 2) := dk_1054 (dk_g tcX11_saves_2 0 rfl) (dk_g tcX11_saves_2 1 rfl) rfl
theorem dX11_saves_26 : decode cX11_saves 26 = .ok (.iload 4, 2) := dk_1021 (dk_g tcX11_saves_2 2 rfl) (dk_g tcX11_saves_2 3 rfl) rfl
theorem dX11_saves_28 : decode cX11_saves 28 = .ok (.bipush 30, 2) := dk_1016 (dk_g tcX11_saves_2 4 rfl) (dk_g tcX11_saves_2 5 rfl) (by decide +kernel)
theorem dX11_saves_30 : decode cX11_saves 30 = .ok (.if_icmp .ge 39, 3) := dk_2162 (dk_g tcX11_saves_2 6 rfl) (dk_g tcX11_saves_2 7 rfl) (dk_g tcX11_saves_2 8 rfl) rfl rfl
theorem dX11_saves_33 : decode cX11_saves 33 = .ok (.iload_n 1, 1) := dk_1027 (dk_g tcX11_saves_2 9 rfl)
theorem dX11_saves_34 : decode cX11_saves 34 = .ok (.iload 4, 2) := dk_1021 (dk_g tcX11_saves_2 10 rfl) (dk_g tcX11_saves_2 11 rfl) rfl
theorem tcX11_saves_3 : (cX11_saves.data.toList.drop 36).take 12 = [4, 184, 1, 175, 153, 0, 23, 42, 180, 0, 62, 21] := by decide +kernel
theorem dX11_saves_36 : decode cX11_saves 36 = .ok (.iconst 1, 1) := dk_1004 (dk_g tcX11_saves_3 0 rfl)
theorem dX11_saves_37 : decode cX11_saves 37 = .ok (.invokestatic 431, 3) := dk_1184 (dk_g tcX11_saves_3 1 rfl) (dk_g tcX11_saves_3 2 rfl) (dk_g tcX11_saves_3 3 rfl) rfl
theorem dX11_saves_40 : decode cX11_saves 40 = .ok (.ifCond .eq 23, 3) := dk_2153 (dk_g tcX11_saves_3 4 rfl) (dk_g tcX11_saves_3 5 rfl) (dk_g tcX11_saves_3 6 rfl) rfl rfl
theorem dX11_saves_43 : decode cX11_saves 43 = .ok (.aload_n 0, 1) := dk_1042 (dk_g tcX11_saves_3 7 rfl)
theorem dX11_saves_44 : decode cX11_saves 44 = .ok (.getfield 62, 3) := dk_1180 (dk_g tcX11_saves_3 8 rfl) (dk_g tcX11_saves_3 9 rfl) (dk_g tcX11_saves_3 10 rfl) rfl
theorem tcX11_saves_4 : (cX11_saves.data.toList.drop 48).take 12 = [4, 28, 182, 1, 11, 29, 42, 180, 0, 62, 180, 1] := by decide +kernel
theorem dX11_saves_47 : decode cX11_saves 47 = .ok (.iload 4, 2) := dk_1021 (dk_g tcX11_saves_3 11 rfl) (dk_g tcX11_saves_4 0 rfl) rfl
theorem dX11_saves_49 : decode cX11_saves 49 = .ok (.iload_n 2, 1) := dk_1028 (dk_g tcX11_saves_4 1 rfl)
theorem dX11_saves_50 : decode cX11_saves 50 = .ok (.invokevirtual 267, 3) := dk_1182 (dk_g tcX11_saves_4 2 rfl) (dk_g tcX11_saves_4 3 rfl) (dk_g tcX11_saves_4 4 rfl) rfl
theorem dX11_saves_53 : decode cX11_saves 53 = .ok (.iload_n 3, 1) := dk_1029 (dk_g tcX11_saves_4 5 rfl)
theorem dX11_saves_54 : decode cX11_saves 54 = .ok (.aload_n 0, 1) := dk_1042 (dk_g tcX11_saves_4 6 rfl)
theorem dX11_saves_55 : decode cX11_saves 55 = .ok (.getfield 62, 3) := dk_1180 (dk_g tcX11_saves_4 7 rfl) (dk_g tcX11_saves_4 8 rfl) (dk_g tcX11_saves_4 9 rfl) rfl
theorem tcX11_saves_5 : (cX11_saves.data.toList.drop 60).take 12 = [56, 96, 62, 132, 4, 1, 167, 255, 216, 42, 180, 0] := by decide +kernel
theorem dX11_saves_58 : decode cX11_saves 58 = .ok (.getfield 312, 3) := dk_1180 (dk_g tcX11_saves_4 10 rfl) (dk_g tcX11_saves_4 11 rfl) (dk_g tcX11_saves_5 0 rfl) rfl
theorem dX11_saves_61 : decode cX11_saves 61 = .ok (.iadd, 1) := dk_1096 (dk_g tcX11_saves_5 1 rfl)
theorem dX11_saves_62 : decode cX11_saves 62 = .ok (.istore_n 3, 1) := dk_1062 (dk_g tcX11_saves_5 2 rfl)
theorem dX11_saves_63 : decode cX11_saves 63 = .ok (.iinc 4 1, 3) := dk_1132 (dk_g tcX11_saves_5 3 rfl) (dk_g tcX11_saves_5 4 rfl) (dk_g tcX11_saves_5 5 rfl) rfl (by decide +kernel)
theorem dX11_saves_66 : decode cX11_saves 66 = .ok (.goto (-40), 3) := dk_1167 (dk_g tcX11_saves_5 6 rfl) (dk_g tcX11_saves_5 7 rfl) (dk_g tcX11_saves_5 8 rfl) (by decide +kernel)
theorem dX11_saves_69 : decode cX11_saves 69 = .ok (.aload_n 0, 1) := dk_1042 (dk_g tcX11_saves_5 9 rfl)
theorem tcX11_saves_6 : (cX11_saves.data.toList.drop 72).take 12 = [62, 27, 28, 182, 1, 28, 42, 29, 42, 180, 0, 62] := by decide +kernel
theorem dX11_saves_70 : decode cX11_saves 70 = .ok (.getfield 62, 3) := dk_1180 (dk_g tcX11_saves_5 10 rfl) (dk_g tcX11_saves_5 11 rfl) (dk_g tcX11_saves_6 0 rfl) rfl
theorem dX11_saves_73 : decode cX11_saves 73 = .ok (.iload_n 1, 1) := dk_1027 (dk_g tcX11_saves_6 1 rfl)
theorem dX11_saves_74 : decode cX11_saves 74 = .ok (.iload_n 2, 1) := dk_1028 (dk_g tcX11_saves_6 2 rfl)
theorem dX11_saves_75 : decode cX11_saves 75 = .ok (.invokevirtual 284, 3) := dk_1182 (dk_g tcX11_saves_6 3 rfl) (dk_g tcX11_saves_6 4 rfl) (dk_g tcX11_saves_6 5 rfl) rfl
theorem dX11_saves_78 : decode cX11_saves 78 = .ok (.aload_n 0, 1) := dk_1042 (dk_g tcX11_saves_6 6 rfl)
theorem dX11_saves_79 : decode cX11_saves 79 = .ok (.iload_n 3, 1) := dk_1029 (dk_g tcX11_saves_6 7 rfl)
theorem dX11_saves_80 : decode cX11_saves 80 = .ok (.aload_n 0, 1) := dk_1042 (dk_g tcX11_saves_6 8 rfl)
theorem dX11_saves_81 : decode cX11_saves 81 = .ok (.getfield 62, 3) := dk_1180 (dk_g tcX11_saves_6 9 rfl) (dk_g tcX11_saves_6 10 rfl) (dk_g tcX11_saves_6 11 rfl) rfl
theorem tcX11_saves_7 : (cX11_saves.data.toList.drop 84).take 12 = [180, 1, 56, 100, 182, 0, 115, 172] := by decide +kernel
theorem dX11_saves_84 : decode cX11_saves 84 = .ok (.getfield 312, 3) := dk_1180 (dk_g tcX11_saves_7 0 rfl) (dk_g tcX11_saves_7 1 rfl) (dk_g tcX11_saves_7 2 rfl) rfl
theorem dX11_saves_87 : decode cX11_saves 87 = .ok (.isub, 1) := dk_1100 (dk_g tcX11_saves_7 3 rfl)
theorem dX11_saves_88 : decode cX11_saves 88 = .ok (.invokevirtual 115, 3) := dk_1182 (dk_g tcX11_saves_7 4 rfl) (dk_g tcX11_saves_7 5 rfl) (dk_g tcX11_saves_7 6 rfl) rfl
theorem dX11_saves_91 : decode cX11_saves 91 = .ok (.ireturn, 1) := dk_1172 (dk_g tcX11_saves_7 7 rfl)
theorem tcX11_who_0 : (cX11_who.data.toList.drop 0).take 12 = [27, 155, 0, 11, 42, 28, 182, 0, 188, 154, 0, 9] := by decide +kernel
theorem dX11_who_0 : decode cX11_who 0 = .ok (.iload_n 1, 1) := dk_1027 (dk_g tcX11_who_0 0 rfl)
theorem dX11_who_1 : decode cX11_who 1 = .ok (.ifCond .lt 11, 3) := dk_2155 (dk_g tcX11_who_0 1 rfl) (dk_g tcX11_who_0 2 rfl) (dk_g tcX11_who_0 3 rfl) rfl rfl
theorem dX11_who_4 : decode cX11_who 4 = .ok (.aload_n 0, 1) := dk_1042 (dk_g tcX11_who_0 4 rfl)
theorem dX11_who_5 : decode cX11_who 5 = .ok (.iload_n 2, 1) := dk_1028 (dk_g tcX11_who_0 5 rfl)
theorem dX11_who_6 : decode cX11_who 6 = .ok (.invokevirtual 188, 3) := dk_1182 (dk_g tcX11_who_0 6 rfl) (dk_g tcX11_who_0 7 rfl) (dk_g tcX11_who_0 8 rfl) rfl
theorem dX11_who_9 : decode cX11_who 9 = .ok (.ifCond .ne 9, 3) := dk_2154 (dk_g tcX11_who_0 9 rfl) (dk_g tcX11_who_0 10 rfl) (dk_g tcX11_who_0 11 rfl) rfl rfl
theorem tcX11_who_1 : (cX11_who.data.toList.drop 12).take 12 = [42, 4, 182, 0, 98, 172, 3, 62, 3, 54, 4, 21] := by decide +kernel
theorem dX11_who_12 : decode cX11_who 12 = .ok (.aload_n 0, 1) := dk_1042 (dk_g tcX11_who_1 0 rfl)
theorem dX11_who_13 : decode cX11_who 13 = .ok (.iconst 1, 1) := dk_1004 (dk_g tcX11_who_1 1 rfl)
theorem dX11_who_14 : decode cX11_who 14 = .ok (.invokevirtual 98, 3) := dk_1182 (dk_g tcX11_who_1 2 rfl) (dk_g tcX11_who_1 3 rfl) (dk_g tcX11_who_1 4 rfl) rfl
theorem dX11_who_17 : decode cX11_who 17 = .ok (.ireturn, 1) := dk_1172 (dk_g tcX11_who_1 5 rfl)
theorem dX11_who_18 : decode cX11_who 18 = .ok (.iconst 0, 1) := dk_1003 (dk_g tcX11_who_1 6 rfl)
theorem dX11_who_19 : decode cX11_who 19 = .ok (.istore_n 3, 1) := dk_1062 (dk_g tcX11_who_1 7 rfl)
theorem dX11_who_20 : decode cX11_who 20 = .ok (.iconst 0, 1) := dk_1003 (dk_g tcX11_who_1 8 rfl)
theorem dX11_who_21 : decode cX11_who 21 = .ok (.istore 4, 2) := dk_1054 (dk_g tcX11_who_1 9 rfl) (dk_g tcX11_who_1 10 rfl) rfl
theorem tcX11_who_2 : (cX11_who.data.toList.drop 24).take 12 = [4, 42, 180, 0, 16, 180, 0, 112, 162, 0, 37, 42] := by decide +kernel
theorem dX11_who_23 : decode cX11_who 23 = .ok (.iload 4, 2) := dk_1021 (dk_g tcX11_who_1 11 rfl) (dk_g tcX11_who_2 0 rfl) rfl
theorem dX11_who_25 : decode cX11_who 25 = .ok (.aload_n 0, 1) := dk_1042 (dk_g tcX11_who_2 1 rfl)
theorem dX11_who_26 : decode cX11_who 26 = .ok (.getfield 16, 3) := dk_1180 (dk_g tcX11_who_2 2 rfl) (dk_g tcX11_who_2 3 rfl) (dk_g tcX11_who_2 4 rfl) rfl
theorem dX11_who_29 : decode cX11_who 29 = .ok (.getfield 112, 3) := dk_1180 (dk_g tcX11_who_2 5 rfl) (dk_g tcX11_who_2 6 rfl) (dk_g tcX11_who_2 7 rfl) rfl
theorem dX11_who_32 : decode cX11_who 32 = .ok (.if_icmp .ge 37, 3) := dk_2162 (dk_g tcX11_who_2 8 rfl) (dk_g tcX11_who_2 9 rfl) (dk_g tcX11_who_2 10 rfl) rfl rfl
theorem dX11_who_35 : decode cX11_who 35 = .ok (.aload_n 0, 1) := dk_1042 (dk_g tcX11_who_2 11 rfl)
theorem tcX11_who_3 : (cX11_who.data.toList.drop 36).take 12 = [180, 0, 16, 42, 180, 0, 16, 21, 4, 182, 0, 163] := by decide +kernel
theorem dX11_who_36 : decode cX11_who 36 = .ok (.getfield 16, 3) := dk_1180 (dk_g tcX11_who_3 0 rfl) (dk_g tcX11_who_3 1 rfl) (dk_g tcX11_who_3 2 rfl) rfl
theorem dX11_who_39 : decode cX11_who 39 = .ok (.aload_n 0, 1) := dk_1042 (dk_g tcX11_who_3 3 rfl)
theorem dX11_who_40 : decode cX11_who 40 = .ok (.getfield 16, 3) := dk_1180 (dk_g tcX11_who_3 4 rfl) (dk_g tcX11_who_3 5 rfl) (dk_g tcX11_who_3 6 rfl) rfl
theorem dX11_who_43 : decode cX11_who 43 = .ok (.iload 4, 2) := dk_1021 (dk_g tcX11_who_3 7 rfl) (dk_g tcX11_who_3 8 rfl) rfl
theorem dX11_who_45 : decode cX11_who 45 = .ok (.invokevirtual 163, 3) := dk_1182 (dk_g tcX11_who_3 9 rfl) (dk_g tcX11_who_3 10 rfl) (dk_g tcX11_who_3 11 rfl) rfl
theorem tcX11_who_4 : (cX11_who.data.toList.drop 48).take 12 = [27, 28, 182, 1, 179, 153, 0, 10, 29, 4, 21, 4] := by decide +kernel
theorem dX11_who_48 : decode cX11_who 48 = .ok (.iload_n 1, 1) := dk_1027 (dk_g tcX11_who_4 0 rfl)
theorem dX11_who_49 : decode cX11_who 49 = .ok (.iload_n 2, 1) := dk_1028 (dk_g tcX11_who_4 1 rfl)
theorem dX11_who_50 : decode cX11_who 50 = .ok (.invokevirtual 435, 3) := dk_1182 (dk_g tcX11_who_4 2 rfl) (dk_g tcX11_who_4 3 rfl) (dk_g tcX11_who_4 4 rfl) rfl
theorem dX11_who_53 : decode cX11_who 53 = .ok (.ifCond .eq 10, 3) := dk_2153 (dk_g tcX11_who_4 5 rfl) (dk_g tcX11_who_4 6 rfl) (dk_g tcX11_who_4 7 rfl) rfl rfl
theorem dX11_who_56 : decode cX11_who 56 = .ok (.iload_n 3, 1) := dk_1029 (dk_g tcX11_who_4 8 rfl)
theorem dX11_who_57 : decode cX11_who 57 = .ok (.iconst 1, 1) := dk_1004 (dk_g tcX11_who_4 9 rfl)
theorem dX11_who_58 : decode cX11_who 58 = .ok (.iload 4, 2) := dk_1021 (dk_g tcX11_who_4 10 rfl) (dk_g tcX11_who_4 11 rfl) rfl
theorem tcX11_who_5 : (cX11_who.data.toList.drop 60).take 12 = [120, 128, 62, 132, 4, 1, 167, 255, 213, 42, 29, 182] := by decide +kernel
theorem dX11_who_60 : decode cX11_who 60 = .ok (.ishl, 1) := dk_1120 (dk_g tcX11_who_5 0 rfl)
theorem dX11_who_61 : decode cX11_who 61 = .ok (.ior, 1) := dk_1128 (dk_g tcX11_who_5 1 rfl)
theorem dX11_who_62 : decode cX11_who 62 = .ok (.istore_n 3, 1) := dk_1062 (dk_g tcX11_who_5 2 rfl)
theorem dX11_who_63 : decode cX11_who 63 = .ok (.iinc 4 1, 3) := dk_1132 (dk_g tcX11_who_5 3 rfl) (dk_g tcX11_who_5 4 rfl) (dk_g tcX11_who_5 5 rfl) rfl (by decide +kernel)
theorem dX11_who_66 : decode cX11_who 66 = .ok (.goto (-43), 3) := dk_1167 (dk_g tcX11_who_5 6 rfl) (dk_g tcX11_who_5 7 rfl) (dk_g tcX11_who_5 8 rfl) (by decide +kernel)
theorem dX11_who_69 : decode cX11_who 69 = .ok (.aload_n 0, 1) := dk_1042 (dk_g tcX11_who_5 9 rfl)
theorem dX11_who_70 : decode cX11_who 70 = .ok (.iload_n 3, 1) := dk_1029 (dk_g tcX11_who_5 10 rfl)
theorem tcX11_who_6 : (cX11_who.data.toList.drop 72).take 12 = [0, 115, 172] := by decide +kernel
theorem dX11_who_71 : decode cX11_who 71 = .ok (.invokevirtual 115, 3) := dk_1182 (dk_g tcX11_who_5 11 rfl) (dk_g tcX11_who_6 0 rfl) (dk_g tcX11_who_6 1 rfl) rfl
theorem dX11_who_74 : decode cX11_who 74 = .ok (.ireturn, 1) := dk_1172 (dk_g tcX11_who_6 2 rfl)
theorem tcX11_answer_0 : (cX11_answer.data.toList.drop 0).take 12 = [42, 3, 181, 0, 9, 27, 172] := by decide +kernel
theorem dX11_answer_0 : decode cX11_answer 0 = .ok (.aload_n 0, 1) := dk_1042 (dk_g tcX11_answer_0 0 rfl)
theorem dX11_answer_1 : decode cX11_answer 1 = .ok (.iconst 0, 1) := dk_1003 (dk_g tcX11_answer_0 1 rfl)
theorem dX11_answer_2 : decode cX11_answer 2 = .ok (.putfield 9, 3) := dk_1181 (dk_g tcX11_answer_0 2 rfl) (dk_g tcX11_answer_0 3 rfl) (dk_g tcX11_answer_0 4 rfl) rfl
theorem dX11_answer_5 : decode cX11_answer 5 = .ok (.iload_n 1, 1) := dk_1027 (dk_g tcX11_answer_0 5 rfl)
theorem dX11_answer_6 : decode cX11_answer 6 = .ok (.ireturn, 1) := dk_1172 (dk_g tcX11_answer_0 6 rfl)
theorem tcX11_refuse_0 : (cX11_refuse.data.toList.drop 0).take 12 = [42, 27, 181, 0, 9, 2, 172] := by decide +kernel
theorem dX11_refuse_0 : decode cX11_refuse 0 = .ok (.aload_n 0, 1) := dk_1042 (dk_g tcX11_refuse_0 0 rfl)
theorem dX11_refuse_1 : decode cX11_refuse 1 = .ok (.iload_n 1, 1) := dk_1027 (dk_g tcX11_refuse_0 1 rfl)
theorem dX11_refuse_2 : decode cX11_refuse 2 = .ok (.putfield 9, 3) := dk_1181 (dk_g tcX11_refuse_0 2 rfl) (dk_g tcX11_refuse_0 3 rfl) (dk_g tcX11_refuse_0 4 rfl) rfl
theorem dX11_refuse_5 : decode cX11_refuse 5 = .ok (.iconst (-1), 1) := dk_1002 (dk_g tcX11_refuse_0 5 rfl)
theorem dX11_refuse_6 : decode cX11_refuse 6 = .ok (.ireturn, 1) := dk_1172 (dk_g tcX11_refuse_0 6 rfl)
theorem tcX11_putOnTape_0 : (cX11_putOnTape.data.toList.drop 0).take 12 = [16, 24, 61, 28, 155, 0, 51, 42, 180, 0, 34, 155] := by decide +kernel
theorem dX11_putOnTape_0 : decode cX11_putOnTape 0 = .ok (.bipush 24, 2) := dk_1016 (dk_g tcX11_putOnTape_0 0 rfl) (dk_g tcX11_putOnTape_0 1 rfl) (by decide +kernel)
theorem dX11_putOnTape_2 : decode cX11_putOnTape 2 = .ok (.istore_n 2, 1) := dk_1061 (dk_g tcX11_putOnTape_0 2 rfl)
theorem dX11_putOnTape_3 : decode cX11_putOnTape 3 = .ok (.iload_n 2, 1) := dk_1028 (dk_g tcX11_putOnTape_0 3 rfl)
theorem dX11_putOnTape_4 : decode cX11_putOnTape 4 = .ok (.ifCond .lt 51, 3) := dk_2155 (dk_g tcX11_putOnTape_0 4 rfl) (dk_g tcX11_putOnTape_0 5 rfl) (dk_g tcX11_putOnTape_0 6 rfl) rfl rfl
theorem dX11_putOnTape_7 : decode cX11_putOnTape 7 = .ok (.aload_n 0, 1) := dk_1042 (dk_g tcX11_putOnTape_0 7 rfl)
theorem dX11_putOnTape_8 : decode cX11_putOnTape 8 = .ok (.getfield 34, 3) := dk_1180 (dk_g tcX11_putOnTape_0 8 rfl) (dk_g tcX11_putOnTape_0 9 rfl) (dk_g tcX11_putOnTape_0 10 rfl) rfl
theorem tcX11_putOnTape_1 : (cX11_putOnTape.data.toList.drop 12).take 12 = [0, 38, 42, 180, 0, 34, 42, 180, 0, 30, 190, 162] := by decide +kernel
theorem dX11_putOnTape_11 : decode cX11_putOnTape 11 = .ok (.ifCond .lt 38, 3) := dk_2155 (dk_g tcX11_putOnTape_0 11 rfl) (dk_g tcX11_putOnTape_1 0 rfl) (dk_g tcX11_putOnTape_1 1 rfl) rfl rfl
theorem dX11_putOnTape_14 : decode cX11_putOnTape 14 = .ok (.aload_n 0, 1) := dk_1042 (dk_g tcX11_putOnTape_1 2 rfl)
theorem dX11_putOnTape_15 : decode cX11_putOnTape 15 = .ok (.getfield 34, 3) := dk_1180 (dk_g tcX11_putOnTape_1 3 rfl) (dk_g tcX11_putOnTape_1 4 rfl) (dk_g tcX11_putOnTape_1 5 rfl) rfl
theorem dX11_putOnTape_18 : decode cX11_putOnTape 18 = .ok (.aload_n 0, 1) := dk_1042 (dk_g tcX11_putOnTape_1 6 rfl)
theorem dX11_putOnTape_19 : decode cX11_putOnTape 19 = .ok (.getfield 30, 3) := dk_1180 (dk_g tcX11_putOnTape_1 7 rfl) (dk_g tcX11_putOnTape_1 8 rfl) (dk_g tcX11_putOnTape_1 9 rfl) rfl
theorem dX11_putOnTape_22 : decode cX11_putOnTape 22 = .ok (.arraylength, 1) := dk_1190 (dk_g tcX11_putOnTape_1 10 rfl)
theorem tcX11_putOnTape_2 : (cX11_putOnTape.data.toList.drop 24).take 12 = [0, 26, 42, 180, 0, 30, 42, 180, 0, 34, 27, 28] := by decide +kernel
theorem dX11_putOnTape_23 : decode cX11_putOnTape 23 = .ok (.if_icmp .ge 26, 3) := dk_2162 (dk_g tcX11_putOnTape_1 11 rfl) (dk_g tcX11_putOnTape_2 0 rfl) (dk_g tcX11_putOnTape_2 1 rfl) rfl rfl
theorem dX11_putOnTape_26 : decode cX11_putOnTape 26 = .ok (.aload_n 0, 1) := dk_1042 (dk_g tcX11_putOnTape_2 2 rfl)
theorem dX11_putOnTape_27 : decode cX11_putOnTape 27 = .ok (.getfield 30, 3) := dk_1180 (dk_g tcX11_putOnTape_2 3 rfl) (dk_g tcX11_putOnTape_2 4 rfl) (dk_g tcX11_putOnTape_2 5 rfl) rfl
theorem dX11_putOnTape_30 : decode cX11_putOnTape 30 = .ok (.aload_n 0, 1) := dk_1042 (dk_g tcX11_putOnTape_2 6 rfl)
theorem dX11_putOnTape_31 : decode cX11_putOnTape 31 = .ok (.getfield 34, 3) := dk_1180 (dk_g tcX11_putOnTape_2 7 rfl) (dk_g tcX11_putOnTape_2 8 rfl) (dk_g tcX11_putOnTape_2 9 rfl) rfl
theorem dX11_putOnTape_34 : decode cX11_putOnTape 34 = .ok (.iload_n 1, 1) := dk_1027 (dk_g tcX11_putOnTape_2 10 rfl)
theorem dX11_putOnTape_35 : decode cX11_putOnTape 35 = .ok (.iload_n 2, 1) := dk_1028 (dk_g tcX11_putOnTape_2 11 rfl)
theorem tcX11_putOnTape_3 : (cX11_putOnTape.data.toList.drop 36).take 12 = [124, 145, 84, 42, 89, 180, 0, 34, 4, 96, 181, 0] := by decide +kernel
theorem dX11_putOnTape_36 : decode cX11_putOnTape 36 = .ok (.iushr, 1) := dk_1124 (dk_g tcX11_putOnTape_3 0 rfl)
theorem dX11_putOnTape_37 : decode cX11_putOnTape 37 = .ok (.i2b, 1) := dk_1145 (dk_g tcX11_putOnTape_3 1 rfl)
theorem dX11_putOnTape_38 : decode cX11_putOnTape 38 = .ok (.bastore, 1) := dk_1084 (dk_g tcX11_putOnTape_3 2 rfl)
theorem dX11_putOnTape_39 : decode cX11_putOnTape 39 = .ok (.aload_n 0, 1) := dk_1042 (dk_g tcX11_putOnTape_3 3 rfl)
theorem dX11_putOnTape_40 : decode cX11_putOnTape 40 = .ok (.dup, 1) := dk_1089 (dk_g tcX11_putOnTape_3 4 rfl)
theorem dX11_putOnTape_41 : decode cX11_putOnTape 41 = .ok (.getfield 34, 3) := dk_1180 (dk_g tcX11_putOnTape_3 5 rfl) (dk_g tcX11_putOnTape_3 6 rfl) (dk_g tcX11_putOnTape_3 7 rfl) rfl
theorem dX11_putOnTape_44 : decode cX11_putOnTape 44 = .ok (.iconst 1, 1) := dk_1004 (dk_g tcX11_putOnTape_3 8 rfl)
theorem dX11_putOnTape_45 : decode cX11_putOnTape 45 = .ok (.iadd, 1) := dk_1096 (dk_g tcX11_putOnTape_3 9 rfl)
theorem tcX11_putOnTape_4 : (cX11_putOnTape.data.toList.drop 48).take 12 = [34, 132, 2, 248, 167, 255, 207, 177] := by decide +kernel
theorem dX11_putOnTape_46 : decode cX11_putOnTape 46 = .ok (.putfield 34, 3) := dk_1181 (dk_g tcX11_putOnTape_3 10 rfl) (dk_g tcX11_putOnTape_3 11 rfl) (dk_g tcX11_putOnTape_4 0 rfl) rfl
theorem dX11_putOnTape_49 : decode cX11_putOnTape 49 = .ok (.iinc 2 (-8), 3) := dk_1132 (dk_g tcX11_putOnTape_4 1 rfl) (dk_g tcX11_putOnTape_4 2 rfl) (dk_g tcX11_putOnTape_4 3 rfl) rfl (by decide +kernel)
theorem dX11_putOnTape_52 : decode cX11_putOnTape 52 = .ok (.goto (-49), 3) := dk_1167 (dk_g tcX11_putOnTape_4 4 rfl) (dk_g tcX11_putOnTape_4 5 rfl) (dk_g tcX11_putOnTape_4 6 rfl) (by decide +kernel)
theorem dX11_putOnTape_55 : decode cX11_putOnTape 55 = .ok (.return_, 1) := dk_1177 (dk_g tcX11_putOnTape_4 7 rfl)
theorem tcX11_loadLines_0 : (cX11_loadLines.data.toList.drop 0).take 12 = [42, 180, 0, 82, 42, 180, 0, 30, 27, 182, 0, 118] := by decide +kernel
theorem dX11_loadLines_0 : decode cX11_loadLines 0 = .ok (.aload_n 0, 1) := dk_1042 (dk_g tcX11_loadLines_0 0 rfl)
theorem dX11_loadLines_1 : decode cX11_loadLines 1 = .ok (.getfield 82, 3) := dk_1180 (dk_g tcX11_loadLines_0 1 rfl) (dk_g tcX11_loadLines_0 2 rfl) (dk_g tcX11_loadLines_0 3 rfl) rfl
theorem dX11_loadLines_4 : decode cX11_loadLines 4 = .ok (.aload_n 0, 1) := dk_1042 (dk_g tcX11_loadLines_0 4 rfl)
theorem dX11_loadLines_5 : decode cX11_loadLines 5 = .ok (.getfield 30, 3) := dk_1180 (dk_g tcX11_loadLines_0 5 rfl) (dk_g tcX11_loadLines_0 6 rfl) (dk_g tcX11_loadLines_0 7 rfl) rfl
theorem dX11_loadLines_8 : decode cX11_loadLines 8 = .ok (.iload_n 1, 1) := dk_1027 (dk_g tcX11_loadLines_0 8 rfl)
theorem dX11_loadLines_9 : decode cX11_loadLines 9 = .ok (.invokevirtual 118, 3) := dk_1182 (dk_g tcX11_loadLines_0 9 rfl) (dk_g tcX11_loadLines_0 10 rfl) (dk_g tcX11_loadLines_0 11 rfl) rfl
theorem tcX11_loadLines_1 : (cX11_loadLines.data.toList.drop 12).take 12 = [42, 180, 0, 82, 42, 180, 0, 20, 182, 1, 183, 154] := by decide +kernel
theorem dX11_loadLines_12 : decode cX11_loadLines 12 = .ok (.aload_n 0, 1) := dk_1042 (dk_g tcX11_loadLines_1 0 rfl)
theorem dX11_loadLines_13 : decode cX11_loadLines 13 = .ok (.getfield 82, 3) := dk_1180 (dk_g tcX11_loadLines_1 1 rfl) (dk_g tcX11_loadLines_1 2 rfl) (dk_g tcX11_loadLines_1 3 rfl) rfl
theorem dX11_loadLines_16 : decode cX11_loadLines 16 = .ok (.aload_n 0, 1) := dk_1042 (dk_g tcX11_loadLines_1 4 rfl)
theorem dX11_loadLines_17 : decode cX11_loadLines 17 = .ok (.getfield 20, 3) := dk_1180 (dk_g tcX11_loadLines_1 5 rfl) (dk_g tcX11_loadLines_1 6 rfl) (dk_g tcX11_loadLines_1 7 rfl) rfl
theorem dX11_loadLines_20 : decode cX11_loadLines 20 = .ok (.invokevirtual 439, 3) := dk_1182 (dk_g tcX11_loadLines_1 8 rfl) (dk_g tcX11_loadLines_1 9 rfl) (dk_g tcX11_loadLines_1 10 rfl) rfl
theorem tcX11_loadLines_2 : (cX11_loadLines.data.toList.drop 24).take 12 = [0, 5, 3, 172, 3, 61, 3, 62, 29, 17, 3, 132] := by decide +kernel
theorem dX11_loadLines_23 : decode cX11_loadLines 23 = .ok (.ifCond .ne 5, 3) := dk_2154 (dk_g tcX11_loadLines_1 11 rfl) (dk_g tcX11_loadLines_2 0 rfl) (dk_g tcX11_loadLines_2 1 rfl) rfl rfl
theorem dX11_loadLines_26 : decode cX11_loadLines 26 = .ok (.iconst 0, 1) := dk_1003 (dk_g tcX11_loadLines_2 2 rfl)
theorem dX11_loadLines_27 : decode cX11_loadLines 27 = .ok (.ireturn, 1) := dk_1172 (dk_g tcX11_loadLines_2 3 rfl)
theorem dX11_loadLines_28 : decode cX11_loadLines 28 = .ok (.iconst 0, 1) := dk_1003 (dk_g tcX11_loadLines_2 4 rfl)
theorem dX11_loadLines_29 : decode cX11_loadLines 29 = .ok (.istore_n 2, 1) := dk_1061 (dk_g tcX11_loadLines_2 5 rfl)
theorem dX11_loadLines_30 : decode cX11_loadLines 30 = .ok (.iconst 0, 1) := dk_1003 (dk_g tcX11_loadLines_2 6 rfl)
theorem dX11_loadLines_31 : decode cX11_loadLines 31 = .ok (.istore_n 3, 1) := dk_1062 (dk_g tcX11_loadLines_2 7 rfl)
theorem dX11_loadLines_32 : decode cX11_loadLines 32 = .ok (.iload_n 3, 1) := dk_1029 (dk_g tcX11_loadLines_2 8 rfl)
theorem dX11_loadLines_33 : decode cX11_loadLines 33 = .ok (.sipush 900, 3) := dk_2017 (dk_g tcX11_loadLines_2 9 rfl) (dk_g tcX11_loadLines_2 10 rfl) (dk_g tcX11_loadLines_2 11 rfl) rfl rfl
theorem tcX11_loadLines_3 : (cX11_loadLines.data.toList.drop 36).take 12 = [162, 0, 183, 42, 180, 0, 82, 182, 1, 187, 154, 0] := by decide +kernel
theorem dX11_loadLines_36 : decode cX11_loadLines 36 = .ok (.if_icmp .ge 183, 3) := dk_2162 (dk_g tcX11_loadLines_3 0 rfl) (dk_g tcX11_loadLines_3 1 rfl) (dk_g tcX11_loadLines_3 2 rfl) rfl rfl
theorem dX11_loadLines_39 : decode cX11_loadLines 39 = .ok (.aload_n 0, 1) := dk_1042 (dk_g tcX11_loadLines_3 3 rfl)
theorem dX11_loadLines_40 : decode cX11_loadLines 40 = .ok (.getfield 82, 3) := dk_1180 (dk_g tcX11_loadLines_3 4 rfl) (dk_g tcX11_loadLines_3 5 rfl) (dk_g tcX11_loadLines_3 6 rfl) rfl
theorem dX11_loadLines_43 : decode cX11_loadLines 43 = .ok (.invokevirtual 443, 3) := dk_1182 (dk_g tcX11_loadLines_3 7 rfl) (dk_g tcX11_loadLines_3 8 rfl) (dk_g tcX11_loadLines_3 9 rfl) rfl
theorem tcX11_loadLines_4 : (cX11_loadLines.data.toList.drop 48).take 12 = [173, 42, 180, 0, 20, 28, 182, 0, 163, 58, 4, 25] := by decide +kernel
theorem dX11_loadLines_46 : decode cX11_loadLines 46 = .ok (.ifCond .ne 173, 3) := dk_2154 (dk_g tcX11_loadLines_3 10 rfl) (dk_g tcX11_loadLines_3 11 rfl) (dk_g tcX11_loadLines_4 0 rfl) rfl rfl
theorem dX11_loadLines_49 : decode cX11_loadLines 49 = .ok (.aload_n 0, 1) := dk_1042 (dk_g tcX11_loadLines_4 1 rfl)
theorem dX11_loadLines_50 : decode cX11_loadLines 50 = .ok (.getfield 20, 3) := dk_1180 (dk_g tcX11_loadLines_4 2 rfl) (dk_g tcX11_loadLines_4 3 rfl) (dk_g tcX11_loadLines_4 4 rfl) rfl
theorem dX11_loadLines_53 : decode cX11_loadLines 53 = .ok (.iload_n 2, 1) := dk_1028 (dk_g tcX11_loadLines_4 5 rfl)
theorem dX11_loadLines_54 : decode cX11_loadLines 54 = .ok (.invokevirtual 163, 3) := dk_1182 (dk_g tcX11_loadLines_4 6 rfl) (dk_g tcX11_loadLines_4 7 rfl) (dk_g tcX11_loadLines_4 8 rfl) rfl
theorem dX11_loadLines_57 : decode cX11_loadLines 57 = .ok (.astore 4, 2) := dk_1058 (dk_g tcX11_loadLines_4 9 rfl) (dk_g tcX11_loadLines_4 10 rfl) rfl
theorem tcX11_loadLines_5 : (cX11_loadLines.data.toList.drop 60).take 12 = [4, 198, 0, 19, 42, 180, 0, 82, 42, 180, 0, 20] := by decide +kernel
theorem dX11_loadLines_59 : decode cX11_loadLines 59 = .ok (.aload 4, 2) := dk_1025 (dk_g tcX11_loadLines_4 11 rfl) (dk_g tcX11_loadLines_5 0 rfl) rfl
theorem dX11_loadLines_61 : decode cX11_loadLines 61 = .ok (.ifnull 19, 3) := dk_2198 (dk_g tcX11_loadLines_5 1 rfl) (dk_g tcX11_loadLines_5 2 rfl) (dk_g tcX11_loadLines_5 3 rfl) rfl rfl
theorem dX11_loadLines_64 : decode cX11_loadLines 64 = .ok (.aload_n 0, 1) := dk_1042 (dk_g tcX11_loadLines_5 4 rfl)
theorem dX11_loadLines_65 : decode cX11_loadLines 65 = .ok (.getfield 82, 3) := dk_1180 (dk_g tcX11_loadLines_5 5 rfl) (dk_g tcX11_loadLines_5 6 rfl) (dk_g tcX11_loadLines_5 7 rfl) rfl
theorem dX11_loadLines_68 : decode cX11_loadLines 68 = .ok (.aload_n 0, 1) := dk_1042 (dk_g tcX11_loadLines_5 8 rfl)
theorem dX11_loadLines_69 : decode cX11_loadLines 69 = .ok (.getfield 20, 3) := dk_1180 (dk_g tcX11_loadLines_5 9 rfl) (dk_g tcX11_loadLines_5 10 rfl) (dk_g tcX11_loadLines_5 11 rfl) rfl
theorem tcX11_loadLines_6 : (cX11_loadLines.data.toList.drop 72).take 12 = [25, 4, 182, 1, 191, 154, 0, 5, 3, 172, 42, 180] := by decide +kernel
theorem dX11_loadLines_72 : decode cX11_loadLines 72 = .ok (.aload 4, 2) := dk_1025 (dk_g tcX11_loadLines_6 0 rfl) (dk_g tcX11_loadLines_6 1 rfl) rfl
theorem dX11_loadLines_74 : decode cX11_loadLines 74 = .ok (.invokevirtual 447, 3) := dk_1182 (dk_g tcX11_loadLines_6 2 rfl) (dk_g tcX11_loadLines_6 3 rfl) (dk_g tcX11_loadLines_6 4 rfl) rfl
theorem dX11_loadLines_77 : decode cX11_loadLines 77 = .ok (.ifCond .ne 5, 3) := dk_2154 (dk_g tcX11_loadLines_6 5 rfl) (dk_g tcX11_loadLines_6 6 rfl) (dk_g tcX11_loadLines_6 7 rfl) rfl rfl
theorem dX11_loadLines_80 : decode cX11_loadLines 80 = .ok (.iconst 0, 1) := dk_1003 (dk_g tcX11_loadLines_6 8 rfl)
theorem dX11_loadLines_81 : decode cX11_loadLines 81 = .ok (.ireturn, 1) := dk_1172 (dk_g tcX11_loadLines_6 9 rfl)
theorem dX11_loadLines_82 : decode cX11_loadLines 82 = .ok (.aload_n 0, 1) := dk_1042 (dk_g tcX11_loadLines_6 10 rfl)
theorem tcX11_loadLines_7 : (cX11_loadLines.data.toList.drop 84).take 12 = [0, 82, 180, 1, 195, 170, 0, 0, 0, 0, 0, 93] := by decide +kernel
theorem dX11_loadLines_83 : decode cX11_loadLines 83 = .ok (.getfield 82, 3) := dk_1180 (dk_g tcX11_loadLines_6 11 rfl) (dk_g tcX11_loadLines_7 0 rfl) (dk_g tcX11_loadLines_7 1 rfl) rfl
theorem dX11_loadLines_86 : decode cX11_loadLines 86 = .ok (.getfield 451, 3) := dk_1180 (dk_g tcX11_loadLines_7 2 rfl) (dk_g tcX11_loadLines_7 3 rfl) (dk_g tcX11_loadLines_7 4 rfl) rfl
theorem dX11_loadLines_89 : decode cX11_loadLines 89 = .ok (.tableswitch 93 0 3 #[31, 50, 61, 81], 31) := by decide +kernel
theorem tcX11_loadLines_10 : (cX11_loadLines.data.toList.drop 120).take 12 = [42, 180, 0, 20, 25, 4, 42, 180, 0, 82, 180, 1] := by decide +kernel
theorem dX11_loadLines_120 : decode cX11_loadLines 120 = .ok (.aload_n 0, 1) := dk_1042 (dk_g tcX11_loadLines_10 0 rfl)
theorem dX11_loadLines_121 : decode cX11_loadLines 121 = .ok (.getfield 20, 3) := dk_1180 (dk_g tcX11_loadLines_10 1 rfl) (dk_g tcX11_loadLines_10 2 rfl) (dk_g tcX11_loadLines_10 3 rfl) rfl
theorem dX11_loadLines_124 : decode cX11_loadLines 124 = .ok (.aload 4, 2) := dk_1025 (dk_g tcX11_loadLines_10 4 rfl) (dk_g tcX11_loadLines_10 5 rfl) rfl
theorem dX11_loadLines_126 : decode cX11_loadLines 126 = .ok (.aload_n 0, 1) := dk_1042 (dk_g tcX11_loadLines_10 6 rfl)
theorem dX11_loadLines_127 : decode cX11_loadLines 127 = .ok (.getfield 82, 3) := dk_1180 (dk_g tcX11_loadLines_10 7 rfl) (dk_g tcX11_loadLines_10 8 rfl) (dk_g tcX11_loadLines_10 9 rfl) rfl
theorem tcX11_loadLines_11 : (cX11_loadLines.data.toList.drop 132).take 12 = [198, 182, 0, 237, 167, 0, 77, 42, 180, 0, 82, 180] := by decide +kernel
theorem dX11_loadLines_130 : decode cX11_loadLines 130 = .ok (.getfield 454, 3) := dk_1180 (dk_g tcX11_loadLines_10 10 rfl) (dk_g tcX11_loadLines_10 11 rfl) (dk_g tcX11_loadLines_11 0 rfl) rfl
theorem dX11_loadLines_133 : decode cX11_loadLines 133 = .ok (.invokevirtual 237, 3) := dk_1182 (dk_g tcX11_loadLines_11 1 rfl) (dk_g tcX11_loadLines_11 2 rfl) (dk_g tcX11_loadLines_11 3 rfl) rfl
theorem dX11_loadLines_136 : decode cX11_loadLines 136 = .ok (.goto 77, 3) := dk_2167 (dk_g tcX11_loadLines_11 4 rfl) (dk_g tcX11_loadLines_11 5 rfl) (dk_g tcX11_loadLines_11 6 rfl) rfl rfl
theorem dX11_loadLines_139 : decode cX11_loadLines 139 = .ok (.aload_n 0, 1) := dk_1042 (dk_g tcX11_loadLines_11 7 rfl)
theorem dX11_loadLines_140 : decode cX11_loadLines 140 = .ok (.getfield 82, 3) := dk_1180 (dk_g tcX11_loadLines_11 8 rfl) (dk_g tcX11_loadLines_11 9 rfl) (dk_g tcX11_loadLines_11 10 rfl) rfl
theorem tcX11_loadLines_12 : (cX11_loadLines.data.toList.drop 144).take 12 = [1, 201, 61, 167, 0, 66, 42, 180, 0, 20, 25, 4] := by decide +kernel
theorem dX11_loadLines_143 : decode cX11_loadLines 143 = .ok (.getfield 457, 3) := dk_1180 (dk_g tcX11_loadLines_11 11 rfl) (dk_g tcX11_loadLines_12 0 rfl) (dk_g tcX11_loadLines_12 1 rfl) rfl
theorem dX11_loadLines_146 : decode cX11_loadLines 146 = .ok (.istore_n 2, 1) := dk_1061 (dk_g tcX11_loadLines_12 2 rfl)
theorem dX11_loadLines_147 : decode cX11_loadLines 147 = .ok (.goto 66, 3) := dk_2167 (dk_g tcX11_loadLines_12 3 rfl) (dk_g tcX11_loadLines_12 4 rfl) (dk_g tcX11_loadLines_12 5 rfl) rfl rfl
theorem dX11_loadLines_150 : decode cX11_loadLines 150 = .ok (.aload_n 0, 1) := dk_1042 (dk_g tcX11_loadLines_12 6 rfl)
theorem dX11_loadLines_151 : decode cX11_loadLines 151 = .ok (.getfield 20, 3) := dk_1180 (dk_g tcX11_loadLines_12 7 rfl) (dk_g tcX11_loadLines_12 8 rfl) (dk_g tcX11_loadLines_12 9 rfl) rfl
theorem dX11_loadLines_154 : decode cX11_loadLines 154 = .ok (.aload 4, 2) := dk_1025 (dk_g tcX11_loadLines_12 10 rfl) (dk_g tcX11_loadLines_12 11 rfl) rfl
theorem tcX11_loadLines_13 : (cX11_loadLines.data.toList.drop 156).take 12 = [42, 180, 0, 82, 180, 1, 201, 182, 0, 241, 61, 167] := by decide +kernel
theorem dX11_loadLines_156 : decode cX11_loadLines 156 = .ok (.aload_n 0, 1) := dk_1042 (dk_g tcX11_loadLines_13 0 rfl)
theorem dX11_loadLines_157 : decode cX11_loadLines 157 = .ok (.getfield 82, 3) := dk_1180 (dk_g tcX11_loadLines_13 1 rfl) (dk_g tcX11_loadLines_13 2 rfl) (dk_g tcX11_loadLines_13 3 rfl) rfl
theorem dX11_loadLines_160 : decode cX11_loadLines 160 = .ok (.getfield 457, 3) := dk_1180 (dk_g tcX11_loadLines_13 4 rfl) (dk_g tcX11_loadLines_13 5 rfl) (dk_g tcX11_loadLines_13 6 rfl) rfl
theorem dX11_loadLines_163 : decode cX11_loadLines 163 = .ok (.invokevirtual 241, 3) := dk_1182 (dk_g tcX11_loadLines_13 7 rfl) (dk_g tcX11_loadLines_13 8 rfl) (dk_g tcX11_loadLines_13 9 rfl) rfl
theorem dX11_loadLines_166 : decode cX11_loadLines 166 = .ok (.istore_n 2, 1) := dk_1061 (dk_g tcX11_loadLines_13 10 rfl)
theorem tcX11_loadLines_14 : (cX11_loadLines.data.toList.drop 168).take 12 = [0, 46, 42, 180, 0, 20, 28, 182, 0, 244, 87, 167] := by decide +kernel
theorem dX11_loadLines_167 : decode cX11_loadLines 167 = .ok (.goto 46, 3) := dk_2167 (dk_g tcX11_loadLines_13 11 rfl) (dk_g tcX11_loadLines_14 0 rfl) (dk_g tcX11_loadLines_14 1 rfl) rfl rfl
theorem dX11_loadLines_170 : decode cX11_loadLines 170 = .ok (.aload_n 0, 1) := dk_1042 (dk_g tcX11_loadLines_14 2 rfl)
theorem dX11_loadLines_171 : decode cX11_loadLines 171 = .ok (.getfield 20, 3) := dk_1180 (dk_g tcX11_loadLines_14 3 rfl) (dk_g tcX11_loadLines_14 4 rfl) (dk_g tcX11_loadLines_14 5 rfl) rfl
theorem dX11_loadLines_174 : decode cX11_loadLines 174 = .ok (.iload_n 2, 1) := dk_1028 (dk_g tcX11_loadLines_14 6 rfl)
theorem dX11_loadLines_175 : decode cX11_loadLines 175 = .ok (.invokevirtual 244, 3) := dk_1182 (dk_g tcX11_loadLines_14 7 rfl) (dk_g tcX11_loadLines_14 8 rfl) (dk_g tcX11_loadLines_14 9 rfl) rfl
theorem dX11_loadLines_178 : decode cX11_loadLines 178 = .ok (.pop, 1) := dk_1087 (dk_g tcX11_loadLines_14 10 rfl)
theorem tcX11_loadLines_15 : (cX11_loadLines.data.toList.drop 180).take 12 = [0, 34, 42, 180, 0, 20, 42, 180, 0, 20, 42, 180] := by decide +kernel
theorem dX11_loadLines_179 : decode cX11_loadLines 179 = .ok (.goto 34, 3) := dk_2167 (dk_g tcX11_loadLines_14 11 rfl) (dk_g tcX11_loadLines_15 0 rfl) (dk_g tcX11_loadLines_15 1 rfl) rfl rfl
theorem dX11_loadLines_182 : decode cX11_loadLines 182 = .ok (.aload_n 0, 1) := dk_1042 (dk_g tcX11_loadLines_15 2 rfl)
theorem dX11_loadLines_183 : decode cX11_loadLines 183 = .ok (.getfield 20, 3) := dk_1180 (dk_g tcX11_loadLines_15 3 rfl) (dk_g tcX11_loadLines_15 4 rfl) (dk_g tcX11_loadLines_15 5 rfl) rfl
theorem dX11_loadLines_186 : decode cX11_loadLines 186 = .ok (.aload_n 0, 1) := dk_1042 (dk_g tcX11_loadLines_15 6 rfl)
theorem dX11_loadLines_187 : decode cX11_loadLines 187 = .ok (.getfield 20, 3) := dk_1180 (dk_g tcX11_loadLines_15 7 rfl) (dk_g tcX11_loadLines_15 8 rfl) (dk_g tcX11_loadLines_15 9 rfl) rfl
theorem dX11_loadLines_190 : decode cX11_loadLines 190 = .ok (.aload_n 0, 1) := dk_1042 (dk_g tcX11_loadLines_15 10 rfl)
theorem tcX11_loadLines_16 : (cX11_loadLines.data.toList.drop 192).take 12 = [0, 82, 180, 1, 204, 182, 0, 220, 25, 4, 42, 180] := by decide +kernel
theorem dX11_loadLines_191 : decode cX11_loadLines 191 = .ok (.getfield 82, 3) := dk_1180 (dk_g tcX11_loadLines_15 11 rfl) (dk_g tcX11_loadLines_16 0 rfl) (dk_g tcX11_loadLines_16 1 rfl) rfl
theorem dX11_loadLines_194 : decode cX11_loadLines 194 = .ok (.getfield 460, 3) := dk_1180 (dk_g tcX11_loadLines_16 2 rfl) (dk_g tcX11_loadLines_16 3 rfl) (dk_g tcX11_loadLines_16 4 rfl) rfl
theorem dX11_loadLines_197 : decode cX11_loadLines 197 = .ok (.invokevirtual 220, 3) := dk_1182 (dk_g tcX11_loadLines_16 5 rfl) (dk_g tcX11_loadLines_16 6 rfl) (dk_g tcX11_loadLines_16 7 rfl) rfl
theorem dX11_loadLines_200 : decode cX11_loadLines 200 = .ok (.aload 4, 2) := dk_1025 (dk_g tcX11_loadLines_16 8 rfl) (dk_g tcX11_loadLines_16 9 rfl) rfl
theorem dX11_loadLines_202 : decode cX11_loadLines 202 = .ok (.aload_n 0, 1) := dk_1042 (dk_g tcX11_loadLines_16 10 rfl)
theorem tcX11_loadLines_17 : (cX11_loadLines.data.toList.drop 204).take 12 = [0, 82, 180, 1, 201, 182, 0, 247, 87, 132, 3, 1] := by decide +kernel
theorem dX11_loadLines_203 : decode cX11_loadLines 203 = .ok (.getfield 82, 3) := dk_1180 (dk_g tcX11_loadLines_16 11 rfl) (dk_g tcX11_loadLines_17 0 rfl) (dk_g tcX11_loadLines_17 1 rfl) rfl
theorem dX11_loadLines_206 : decode cX11_loadLines 206 = .ok (.getfield 457, 3) := dk_1180 (dk_g tcX11_loadLines_17 2 rfl) (dk_g tcX11_loadLines_17 3 rfl) (dk_g tcX11_loadLines_17 4 rfl) rfl
theorem dX11_loadLines_209 : decode cX11_loadLines 209 = .ok (.invokevirtual 247, 3) := dk_1182 (dk_g tcX11_loadLines_17 5 rfl) (dk_g tcX11_loadLines_17 6 rfl) (dk_g tcX11_loadLines_17 7 rfl) rfl
theorem dX11_loadLines_212 : decode cX11_loadLines 212 = .ok (.pop, 1) := dk_1087 (dk_g tcX11_loadLines_17 8 rfl)
theorem dX11_loadLines_213 : decode cX11_loadLines 213 = .ok (.iinc 3 1, 3) := dk_1132 (dk_g tcX11_loadLines_17 9 rfl) (dk_g tcX11_loadLines_17 10 rfl) (dk_g tcX11_loadLines_17 11 rfl) rfl (by decide +kernel)
theorem tcX11_loadLines_18 : (cX11_loadLines.data.toList.drop 216).take 12 = [167, 255, 72, 4, 172] := by decide +kernel
theorem dX11_loadLines_216 : decode cX11_loadLines 216 = .ok (.goto (-184), 3) := dk_1167 (dk_g tcX11_loadLines_18 0 rfl) (dk_g tcX11_loadLines_18 1 rfl) (dk_g tcX11_loadLines_18 2 rfl) (by decide +kernel)
theorem dX11_loadLines_219 : decode cX11_loadLines 219 = .ok (.iconst 1, 1) := dk_1004 (dk_g tcX11_loadLines_18 3 rfl)
theorem dX11_loadLines_220 : decode cX11_loadLines 220 = .ok (.ireturn, 1) := dk_1172 (dk_g tcX11_loadLines_18 4 rfl)
theorem tcX11_isMark_0 : (cX11_isMark.data.toList.drop 0).take 12 = [27, 155, 0, 18, 27, 42, 180, 0, 16, 180, 0, 122] := by decide +kernel
theorem dX11_isMark_0 : decode cX11_isMark 0 = .ok (.iload_n 1, 1) := dk_1027 (dk_g tcX11_isMark_0 0 rfl)
theorem dX11_isMark_1 : decode cX11_isMark 1 = .ok (.ifCond .lt 18, 3) := dk_2155 (dk_g tcX11_isMark_0 1 rfl) (dk_g tcX11_isMark_0 2 rfl) (dk_g tcX11_isMark_0 3 rfl) rfl rfl
theorem dX11_isMark_4 : decode cX11_isMark 4 = .ok (.iload_n 1, 1) := dk_1027 (dk_g tcX11_isMark_0 4 rfl)
theorem dX11_isMark_5 : decode cX11_isMark 5 = .ok (.aload_n 0, 1) := dk_1042 (dk_g tcX11_isMark_0 5 rfl)
theorem dX11_isMark_6 : decode cX11_isMark 6 = .ok (.getfield 16, 3) := dk_1180 (dk_g tcX11_isMark_0 6 rfl) (dk_g tcX11_isMark_0 7 rfl) (dk_g tcX11_isMark_0 8 rfl) rfl
theorem dX11_isMark_9 : decode cX11_isMark 9 = .ok (.getfield 122, 3) := dk_1180 (dk_g tcX11_isMark_0 9 rfl) (dk_g tcX11_isMark_0 10 rfl) (dk_g tcX11_isMark_0 11 rfl) rfl
theorem tcX11_isMark_1 : (cX11_isMark.data.toList.drop 12).take 12 = [162, 0, 7, 4, 167, 0, 4, 3, 172] := by decide +kernel
theorem dX11_isMark_12 : decode cX11_isMark 12 = .ok (.if_icmp .ge 7, 3) := dk_2162 (dk_g tcX11_isMark_1 0 rfl) (dk_g tcX11_isMark_1 1 rfl) (dk_g tcX11_isMark_1 2 rfl) rfl rfl
theorem dX11_isMark_15 : decode cX11_isMark 15 = .ok (.iconst 1, 1) := dk_1004 (dk_g tcX11_isMark_1 3 rfl)
theorem dX11_isMark_16 : decode cX11_isMark 16 = .ok (.goto 4, 3) := dk_2167 (dk_g tcX11_isMark_1 4 rfl) (dk_g tcX11_isMark_1 5 rfl) (dk_g tcX11_isMark_1 6 rfl) rfl rfl
theorem dX11_isMark_19 : decode cX11_isMark 19 = .ok (.iconst 0, 1) := dk_1003 (dk_g tcX11_isMark_1 7 rfl)
theorem dX11_isMark_20 : decode cX11_isMark 20 = .ok (.ireturn, 1) := dk_1172 (dk_g tcX11_isMark_1 8 rfl)
theorem tcX11_isThing_0 : (cX11_isThing.data.toList.drop 0).take 12 = [26, 155, 0, 12, 26, 27, 162, 0, 7, 4, 167, 0] := by decide +kernel
theorem dX11_isThing_0 : decode cX11_isThing 0 = .ok (.iload_n 0, 1) := dk_1026 (dk_g tcX11_isThing_0 0 rfl)
theorem dX11_isThing_1 : decode cX11_isThing 1 = .ok (.ifCond .lt 12, 3) := dk_2155 (dk_g tcX11_isThing_0 1 rfl) (dk_g tcX11_isThing_0 2 rfl) (dk_g tcX11_isThing_0 3 rfl) rfl rfl
theorem dX11_isThing_4 : decode cX11_isThing 4 = .ok (.iload_n 0, 1) := dk_1026 (dk_g tcX11_isThing_0 4 rfl)
theorem dX11_isThing_5 : decode cX11_isThing 5 = .ok (.iload_n 1, 1) := dk_1027 (dk_g tcX11_isThing_0 5 rfl)
theorem dX11_isThing_6 : decode cX11_isThing 6 = .ok (.if_icmp .ge 7, 3) := dk_2162 (dk_g tcX11_isThing_0 6 rfl) (dk_g tcX11_isThing_0 7 rfl) (dk_g tcX11_isThing_0 8 rfl) rfl rfl
theorem dX11_isThing_9 : decode cX11_isThing 9 = .ok (.iconst 1, 1) := dk_1004 (dk_g tcX11_isThing_0 9 rfl)
theorem tcX11_isThing_1 : (cX11_isThing.data.toList.drop 12).take 12 = [4, 3, 172] := by decide +kernel
theorem dX11_isThing_10 : decode cX11_isThing 10 = .ok (.goto 4, 3) := dk_2167 (dk_g tcX11_isThing_0 10 rfl) (dk_g tcX11_isThing_0 11 rfl) (dk_g tcX11_isThing_1 0 rfl) rfl rfl
theorem dX11_isThing_13 : decode cX11_isThing 13 = .ok (.iconst 0, 1) := dk_1003 (dk_g tcX11_isThing_1 1 rfl)
theorem dX11_isThing_14 : decode cX11_isThing 14 = .ok (.ireturn, 1) := dk_1172 (dk_g tcX11_isThing_1 2 rfl)
theorem tcX11_isSet_0 : (cX11_isSet.data.toList.drop 0).take 12 = [26, 158, 0, 7, 4, 167, 0, 4, 3, 172] := by decide +kernel
theorem dX11_isSet_0 : decode cX11_isSet 0 = .ok (.iload_n 0, 1) := dk_1026 (dk_g tcX11_isSet_0 0 rfl)
theorem dX11_isSet_1 : decode cX11_isSet 1 = .ok (.ifCond .le 7, 3) := dk_2158 (dk_g tcX11_isSet_0 1 rfl) (dk_g tcX11_isSet_0 2 rfl) (dk_g tcX11_isSet_0 3 rfl) rfl rfl
theorem dX11_isSet_4 : decode cX11_isSet 4 = .ok (.iconst 1, 1) := dk_1004 (dk_g tcX11_isSet_0 4 rfl)
theorem dX11_isSet_5 : decode cX11_isSet 5 = .ok (.goto 4, 3) := dk_2167 (dk_g tcX11_isSet_0 5 rfl) (dk_g tcX11_isSet_0 6 rfl) (dk_g tcX11_isSet_0 7 rfl) rfl rfl
theorem dX11_isSet_8 : decode cX11_isSet 8 = .ok (.iconst 0, 1) := dk_1003 (dk_g tcX11_isSet_0 8 rfl)
theorem dX11_isSet_9 : decode cX11_isSet 9 = .ok (.ireturn, 1) := dk_1172 (dk_g tcX11_isSet_0 9 rfl)
theorem tcX11_lieBelow_0 : (cX11_lieBelow.data.toList.drop 0).take 12 = [26, 184, 1, 207, 4, 3, 27, 16, 30, 184, 1, 210] := by decide +kernel
theorem dX11_lieBelow_0 : decode cX11_lieBelow 0 = .ok (.iload_n 0, 1) := dk_1026 (dk_g tcX11_lieBelow_0 0 rfl)
theorem dX11_lieBelow_1 : decode cX11_lieBelow 1 = .ok (.invokestatic 463, 3) := dk_1184 (dk_g tcX11_lieBelow_0 1 rfl) (dk_g tcX11_lieBelow_0 2 rfl) (dk_g tcX11_lieBelow_0 3 rfl) rfl
theorem dX11_lieBelow_4 : decode cX11_lieBelow 4 = .ok (.iconst 1, 1) := dk_1004 (dk_g tcX11_lieBelow_0 4 rfl)
theorem dX11_lieBelow_5 : decode cX11_lieBelow 5 = .ok (.iconst 0, 1) := dk_1003 (dk_g tcX11_lieBelow_0 5 rfl)
theorem dX11_lieBelow_6 : decode cX11_lieBelow 6 = .ok (.iload_n 1, 1) := dk_1027 (dk_g tcX11_lieBelow_0 6 rfl)
theorem dX11_lieBelow_7 : decode cX11_lieBelow 7 = .ok (.bipush 30, 2) := dk_1016 (dk_g tcX11_lieBelow_0 7 rfl) (dk_g tcX11_lieBelow_0 8 rfl) (by decide +kernel)
theorem dX11_lieBelow_9 : decode cX11_lieBelow 9 = .ok (.invokestatic 466, 3) := dk_1184 (dk_g tcX11_lieBelow_0 9 rfl) (dk_g tcX11_lieBelow_0 10 rfl) (dk_g tcX11_lieBelow_0 11 rfl) rfl
theorem tcX11_lieBelow_1 : (cX11_lieBelow.data.toList.drop 12).take 12 = [184, 1, 215, 120, 162, 0, 7, 4, 167, 0, 4, 3] := by decide +kernel
theorem dX11_lieBelow_12 : decode cX11_lieBelow 12 = .ok (.invokestatic 471, 3) := dk_1184 (dk_g tcX11_lieBelow_1 0 rfl) (dk_g tcX11_lieBelow_1 1 rfl) (dk_g tcX11_lieBelow_1 2 rfl) rfl
theorem dX11_lieBelow_15 : decode cX11_lieBelow 15 = .ok (.ishl, 1) := dk_1120 (dk_g tcX11_lieBelow_1 3 rfl)
theorem dX11_lieBelow_16 : decode cX11_lieBelow 16 = .ok (.if_icmp .ge 7, 3) := dk_2162 (dk_g tcX11_lieBelow_1 4 rfl) (dk_g tcX11_lieBelow_1 5 rfl) (dk_g tcX11_lieBelow_1 6 rfl) rfl rfl
theorem dX11_lieBelow_19 : decode cX11_lieBelow 19 = .ok (.iconst 1, 1) := dk_1004 (dk_g tcX11_lieBelow_1 7 rfl)
theorem dX11_lieBelow_20 : decode cX11_lieBelow 20 = .ok (.goto 4, 3) := dk_2167 (dk_g tcX11_lieBelow_1 8 rfl) (dk_g tcX11_lieBelow_1 9 rfl) (dk_g tcX11_lieBelow_1 10 rfl) rfl rfl
theorem dX11_lieBelow_23 : decode cX11_lieBelow 23 = .ok (.iconst 0, 1) := dk_1003 (dk_g tcX11_lieBelow_1 11 rfl)
theorem tcX11_lieBelow_2 : (cX11_lieBelow.data.toList.drop 24).take 12 = [172] := by decide +kernel
theorem dX11_lieBelow_24 : decode cX11_lieBelow 24 = .ok (.ireturn, 1) := dk_1172 (dk_g tcX11_lieBelow_2 0 rfl)
theorem tcX11_wrongInclusion_0 : (cX11_wrongInclusion.data.toList.drop 0).take 12 = [27, 155, 0, 7, 28, 156, 0, 5, 4, 172, 42, 199] := by decide +kernel
theorem dX11_wrongInclusion_0 : decode cX11_wrongInclusion 0 = .ok (.iload_n 1, 1) := dk_1027 (dk_g tcX11_wrongInclusion_0 0 rfl)
theorem dX11_wrongInclusion_1 : decode cX11_wrongInclusion 1 = .ok (.ifCond .lt 7, 3) := dk_2155 (dk_g tcX11_wrongInclusion_0 1 rfl) (dk_g tcX11_wrongInclusion_0 2 rfl) (dk_g tcX11_wrongInclusion_0 3 rfl) rfl rfl
theorem dX11_wrongInclusion_4 : decode cX11_wrongInclusion 4 = .ok (.iload_n 2, 1) := dk_1028 (dk_g tcX11_wrongInclusion_0 4 rfl)
theorem dX11_wrongInclusion_5 : decode cX11_wrongInclusion 5 = .ok (.ifCond .ge 5, 3) := dk_2156 (dk_g tcX11_wrongInclusion_0 5 rfl) (dk_g tcX11_wrongInclusion_0 6 rfl) (dk_g tcX11_wrongInclusion_0 7 rfl) rfl rfl
theorem dX11_wrongInclusion_8 : decode cX11_wrongInclusion 8 = .ok (.iconst 1, 1) := dk_1004 (dk_g tcX11_wrongInclusion_0 8 rfl)
theorem dX11_wrongInclusion_9 : decode cX11_wrongInclusion 9 = .ok (.ireturn, 1) := dk_1172 (dk_g tcX11_wrongInclusion_0 9 rfl)
theorem dX11_wrongInclusion_10 : decode cX11_wrongInclusion 10 = .ok (.aload_n 0, 1) := dk_1042 (dk_g tcX11_wrongInclusion_0 10 rfl)
theorem tcX11_wrongInclusion_1 : (cX11_wrongInclusion.data.toList.drop 12).take 12 = [0, 5, 5, 172, 28, 42, 180, 0, 167, 163, 0, 8] := by decide +kernel
theorem dX11_wrongInclusion_11 : decode cX11_wrongInclusion 11 = .ok (.ifnonnull 5, 3) := dk_2199 (dk_g tcX11_wrongInclusion_0 11 rfl) (dk_g tcX11_wrongInclusion_1 0 rfl) (dk_g tcX11_wrongInclusion_1 1 rfl) rfl rfl
theorem dX11_wrongInclusion_14 : decode cX11_wrongInclusion 14 = .ok (.iconst 2, 1) := dk_1005 (dk_g tcX11_wrongInclusion_1 2 rfl)
theorem dX11_wrongInclusion_15 : decode cX11_wrongInclusion 15 = .ok (.ireturn, 1) := dk_1172 (dk_g tcX11_wrongInclusion_1 3 rfl)
theorem dX11_wrongInclusion_16 : decode cX11_wrongInclusion 16 = .ok (.iload_n 2, 1) := dk_1028 (dk_g tcX11_wrongInclusion_1 4 rfl)
theorem dX11_wrongInclusion_17 : decode cX11_wrongInclusion 17 = .ok (.aload_n 0, 1) := dk_1042 (dk_g tcX11_wrongInclusion_1 5 rfl)
theorem dX11_wrongInclusion_18 : decode cX11_wrongInclusion 18 = .ok (.getfield 167, 3) := dk_1180 (dk_g tcX11_wrongInclusion_1 6 rfl) (dk_g tcX11_wrongInclusion_1 7 rfl) (dk_g tcX11_wrongInclusion_1 8 rfl) rfl
theorem dX11_wrongInclusion_21 : decode cX11_wrongInclusion 21 = .ok (.if_icmp .gt 8, 3) := dk_2163 (dk_g tcX11_wrongInclusion_1 9 rfl) (dk_g tcX11_wrongInclusion_1 10 rfl) (dk_g tcX11_wrongInclusion_1 11 rfl) rfl rfl
theorem tcX11_wrongInclusion_2 : (cX11_wrongInclusion.data.toList.drop 24).take 12 = [27, 28, 161, 0, 7, 8, 167, 0, 4, 3, 172] := by decide +kernel
theorem dX11_wrongInclusion_24 : decode cX11_wrongInclusion 24 = .ok (.iload_n 1, 1) := dk_1027 (dk_g tcX11_wrongInclusion_2 0 rfl)
theorem dX11_wrongInclusion_25 : decode cX11_wrongInclusion 25 = .ok (.iload_n 2, 1) := dk_1028 (dk_g tcX11_wrongInclusion_2 1 rfl)
theorem dX11_wrongInclusion_26 : decode cX11_wrongInclusion 26 = .ok (.if_icmp .lt 7, 3) := dk_2161 (dk_g tcX11_wrongInclusion_2 2 rfl) (dk_g tcX11_wrongInclusion_2 3 rfl) (dk_g tcX11_wrongInclusion_2 4 rfl) rfl rfl
theorem dX11_wrongInclusion_29 : decode cX11_wrongInclusion 29 = .ok (.iconst 5, 1) := dk_1008 (dk_g tcX11_wrongInclusion_2 5 rfl)
theorem dX11_wrongInclusion_30 : decode cX11_wrongInclusion 30 = .ok (.goto 4, 3) := dk_2167 (dk_g tcX11_wrongInclusion_2 6 rfl) (dk_g tcX11_wrongInclusion_2 7 rfl) (dk_g tcX11_wrongInclusion_2 8 rfl) rfl rfl
theorem dX11_wrongInclusion_33 : decode cX11_wrongInclusion 33 = .ok (.iconst 0, 1) := dk_1003 (dk_g tcX11_wrongInclusion_2 9 rfl)
theorem dX11_wrongInclusion_34 : decode cX11_wrongInclusion 34 = .ok (.ireturn, 1) := dk_1172 (dk_g tcX11_wrongInclusion_2 10 rfl)
theorem tcX11_wrongGrowth_0 : (cX11_wrongGrowth.data.toList.drop 0).take 12 = [27, 155, 0, 8, 27, 28, 164, 0, 5, 4, 172, 42] := by decide +kernel
theorem dX11_wrongGrowth_0 : decode cX11_wrongGrowth 0 = .ok (.iload_n 1, 1) := dk_1027 (dk_g tcX11_wrongGrowth_0 0 rfl)
theorem dX11_wrongGrowth_1 : decode cX11_wrongGrowth 1 = .ok (.ifCond .lt 8, 3) := dk_2155 (dk_g tcX11_wrongGrowth_0 1 rfl) (dk_g tcX11_wrongGrowth_0 2 rfl) (dk_g tcX11_wrongGrowth_0 3 rfl) rfl rfl
theorem dX11_wrongGrowth_4 : decode cX11_wrongGrowth 4 = .ok (.iload_n 1, 1) := dk_1027 (dk_g tcX11_wrongGrowth_0 4 rfl)
theorem dX11_wrongGrowth_5 : decode cX11_wrongGrowth 5 = .ok (.iload_n 2, 1) := dk_1028 (dk_g tcX11_wrongGrowth_0 5 rfl)
theorem dX11_wrongGrowth_6 : decode cX11_wrongGrowth 6 = .ok (.if_icmp .le 5, 3) := dk_2164 (dk_g tcX11_wrongGrowth_0 6 rfl) (dk_g tcX11_wrongGrowth_0 7 rfl) (dk_g tcX11_wrongGrowth_0 8 rfl) rfl rfl
theorem dX11_wrongGrowth_9 : decode cX11_wrongGrowth 9 = .ok (.iconst 1, 1) := dk_1004 (dk_g tcX11_wrongGrowth_0 9 rfl)
theorem dX11_wrongGrowth_10 : decode cX11_wrongGrowth 10 = .ok (.ireturn, 1) := dk_1172 (dk_g tcX11_wrongGrowth_0 10 rfl)
theorem dX11_wrongGrowth_11 : decode cX11_wrongGrowth 11 = .ok (.aload_n 0, 1) := dk_1042 (dk_g tcX11_wrongGrowth_0 11 rfl)
theorem tcX11_wrongGrowth_1 : (cX11_wrongGrowth.data.toList.drop 12).take 12 = [199, 0, 5, 5, 172, 28, 42, 180, 0, 167, 164, 0] := by decide +kernel
theorem dX11_wrongGrowth_12 : decode cX11_wrongGrowth 12 = .ok (.ifnonnull 5, 3) := dk_2199 (dk_g tcX11_wrongGrowth_1 0 rfl) (dk_g tcX11_wrongGrowth_1 1 rfl) (dk_g tcX11_wrongGrowth_1 2 rfl) rfl rfl
theorem dX11_wrongGrowth_15 : decode cX11_wrongGrowth 15 = .ok (.iconst 2, 1) := dk_1005 (dk_g tcX11_wrongGrowth_1 3 rfl)
theorem dX11_wrongGrowth_16 : decode cX11_wrongGrowth 16 = .ok (.ireturn, 1) := dk_1172 (dk_g tcX11_wrongGrowth_1 4 rfl)
theorem dX11_wrongGrowth_17 : decode cX11_wrongGrowth 17 = .ok (.iload_n 2, 1) := dk_1028 (dk_g tcX11_wrongGrowth_1 5 rfl)
theorem dX11_wrongGrowth_18 : decode cX11_wrongGrowth 18 = .ok (.aload_n 0, 1) := dk_1042 (dk_g tcX11_wrongGrowth_1 6 rfl)
theorem dX11_wrongGrowth_19 : decode cX11_wrongGrowth 19 = .ok (.getfield 167, 3) := dk_1180 (dk_g tcX11_wrongGrowth_1 7 rfl) (dk_g tcX11_wrongGrowth_1 8 rfl) (dk_g tcX11_wrongGrowth_1 9 rfl) rfl
theorem tcX11_wrongGrowth_2 : (cX11_wrongGrowth.data.toList.drop 24).take 12 = [7, 8, 167, 0, 4, 3, 172] := by decide +kernel
theorem dX11_wrongGrowth_22 : decode cX11_wrongGrowth 22 = .ok (.if_icmp .le 7, 3) := dk_2164 (dk_g tcX11_wrongGrowth_1 10 rfl) (dk_g tcX11_wrongGrowth_1 11 rfl) (dk_g tcX11_wrongGrowth_2 0 rfl) rfl rfl
theorem dX11_wrongGrowth_25 : decode cX11_wrongGrowth 25 = .ok (.iconst 5, 1) := dk_1008 (dk_g tcX11_wrongGrowth_2 1 rfl)
theorem dX11_wrongGrowth_26 : decode cX11_wrongGrowth 26 = .ok (.goto 4, 3) := dk_2167 (dk_g tcX11_wrongGrowth_2 2 rfl) (dk_g tcX11_wrongGrowth_2 3 rfl) (dk_g tcX11_wrongGrowth_2 4 rfl) rfl rfl
theorem dX11_wrongGrowth_29 : decode cX11_wrongGrowth 29 = .ok (.iconst 0, 1) := dk_1003 (dk_g tcX11_wrongGrowth_2 5 rfl)
theorem dX11_wrongGrowth_30 : decode cX11_wrongGrowth 30 = .ok (.ireturn, 1) := dk_1172 (dk_g tcX11_wrongGrowth_2 6 rfl)
theorem tcX11_preparedRoots_0 : (cX11_preparedRoots.data.toList.drop 0).take 12 = [42, 180, 0, 90, 199, 0, 14, 42, 187, 1, 112, 89] := by decide +kernel
theorem dX11_preparedRoots_0 : decode cX11_preparedRoots 0 = .ok (.aload_n 0, 1) := dk_1042 (dk_g tcX11_preparedRoots_0 0 rfl)
theorem dX11_preparedRoots_1 : decode cX11_preparedRoots 1 = .ok (.getfield 90, 3) := dk_1180 (dk_g tcX11_preparedRoots_0 1 rfl) (dk_g tcX11_preparedRoots_0 2 rfl) (dk_g tcX11_preparedRoots_0 3 rfl) rfl
theorem dX11_preparedRoots_4 : decode cX11_preparedRoots 4 = .ok (.ifnonnull 14, 3) := dk_2199 (dk_g tcX11_preparedRoots_0 4 rfl) (dk_g tcX11_preparedRoots_0 5 rfl) (dk_g tcX11_preparedRoots_0 6 rfl) rfl rfl
theorem dX11_preparedRoots_7 : decode cX11_preparedRoots 7 = .ok (.aload_n 0, 1) := dk_1042 (dk_g tcX11_preparedRoots_0 7 rfl)
theorem dX11_preparedRoots_8 : decode cX11_preparedRoots 8 = .ok (.new 368, 3) := dk_1187 (dk_g tcX11_preparedRoots_0 8 rfl) (dk_g tcX11_preparedRoots_0 9 rfl) (dk_g tcX11_preparedRoots_0 10 rfl) rfl
theorem dX11_preparedRoots_11 : decode cX11_preparedRoots 11 = .ok (.dup, 1) := dk_1089 (dk_g tcX11_preparedRoots_0 11 rfl)
theorem tcX11_preparedRoots_1 : (cX11_preparedRoots.data.toList.drop 12).take 12 = [183, 1, 218, 181, 0, 90, 42, 180, 0, 90, 42, 180] := by decide +kernel
theorem dX11_preparedRoots_12 : decode cX11_preparedRoots 12 = .ok (.invokespecial 474, 3) := dk_1183 (dk_g tcX11_preparedRoots_1 0 rfl) (dk_g tcX11_preparedRoots_1 1 rfl) (dk_g tcX11_preparedRoots_1 2 rfl) rfl
theorem dX11_preparedRoots_15 : decode cX11_preparedRoots 15 = .ok (.putfield 90, 3) := dk_1181 (dk_g tcX11_preparedRoots_1 3 rfl) (dk_g tcX11_preparedRoots_1 4 rfl) (dk_g tcX11_preparedRoots_1 5 rfl) rfl
theorem dX11_preparedRoots_18 : decode cX11_preparedRoots 18 = .ok (.aload_n 0, 1) := dk_1042 (dk_g tcX11_preparedRoots_1 6 rfl)
theorem dX11_preparedRoots_19 : decode cX11_preparedRoots 19 = .ok (.getfield 90, 3) := dk_1180 (dk_g tcX11_preparedRoots_1 7 rfl) (dk_g tcX11_preparedRoots_1 8 rfl) (dk_g tcX11_preparedRoots_1 9 rfl) rfl
theorem dX11_preparedRoots_22 : decode cX11_preparedRoots 22 = .ok (.aload_n 0, 1) := dk_1042 (dk_g tcX11_preparedRoots_1 10 rfl)
theorem tcX11_preparedRoots_2 : (cX11_preparedRoots.data.toList.drop 24).take 12 = [0, 16, 180, 0, 122, 182, 1, 219, 42, 180, 0, 90] := by decide +kernel
theorem dX11_preparedRoots_23 : decode cX11_preparedRoots 23 = .ok (.getfield 16, 3) := dk_1180 (dk_g tcX11_preparedRoots_1 11 rfl) (dk_g tcX11_preparedRoots_2 0 rfl) (dk_g tcX11_preparedRoots_2 1 rfl) rfl
theorem dX11_preparedRoots_26 : decode cX11_preparedRoots 26 = .ok (.getfield 122, 3) := dk_1180 (dk_g tcX11_preparedRoots_2 2 rfl) (dk_g tcX11_preparedRoots_2 3 rfl) (dk_g tcX11_preparedRoots_2 4 rfl) rfl
theorem dX11_preparedRoots_29 : decode cX11_preparedRoots 29 = .ok (.invokevirtual 475, 3) := dk_1182 (dk_g tcX11_preparedRoots_2 5 rfl) (dk_g tcX11_preparedRoots_2 6 rfl) (dk_g tcX11_preparedRoots_2 7 rfl) rfl
theorem dX11_preparedRoots_32 : decode cX11_preparedRoots 32 = .ok (.aload_n 0, 1) := dk_1042 (dk_g tcX11_preparedRoots_2 8 rfl)
theorem dX11_preparedRoots_33 : decode cX11_preparedRoots 33 = .ok (.getfield 90, 3) := dk_1180 (dk_g tcX11_preparedRoots_2 9 rfl) (dk_g tcX11_preparedRoots_2 10 rfl) (dk_g tcX11_preparedRoots_2 11 rfl) rfl
theorem tcX11_preparedRoots_3 : (cX11_preparedRoots.data.toList.drop 36).take 12 = [176] := by decide +kernel
theorem dX11_preparedRoots_36 : decode cX11_preparedRoots 36 = .ok (.areturn, 1) := dk_1176 (dk_g tcX11_preparedRoots_3 0 rfl)
theorem tcX11_clashingStep_0 : (cX11_clashingStep.data.toList.drop 0).take 12 = [27, 62, 28, 54, 4, 3, 54, 5, 21, 5, 42, 180] := by decide +kernel
theorem dX11_clashingStep_0 : decode cX11_clashingStep 0 = .ok (.iload_n 1, 1) := dk_1027 (dk_g tcX11_clashingStep_0 0 rfl)
theorem dX11_clashingStep_1 : decode cX11_clashingStep 1 = .ok (.istore_n 3, 1) := dk_1062 (dk_g tcX11_clashingStep_0 1 rfl)
theorem dX11_clashingStep_2 : decode cX11_clashingStep 2 = .ok (.iload_n 2, 1) := dk_1028 (dk_g tcX11_clashingStep_0 2 rfl)
theorem dX11_clashingStep_3 : decode cX11_clashingStep 3 = .ok (.istore 4, 2) := dk_1054 (dk_g tcX11_clashingStep_0 3 rfl) (dk_g tcX11_clashingStep_0 4 rfl) rfl
theorem dX11_clashingStep_5 : decode cX11_clashingStep 5 = .ok (.iconst 0, 1) := dk_1003 (dk_g tcX11_clashingStep_0 5 rfl)
theorem dX11_clashingStep_6 : decode cX11_clashingStep 6 = .ok (.istore 5, 2) := dk_1054 (dk_g tcX11_clashingStep_0 6 rfl) (dk_g tcX11_clashingStep_0 7 rfl) rfl
theorem dX11_clashingStep_8 : decode cX11_clashingStep 8 = .ok (.iload 5, 2) := dk_1021 (dk_g tcX11_clashingStep_0 8 rfl) (dk_g tcX11_clashingStep_0 9 rfl) rfl
theorem dX11_clashingStep_10 : decode cX11_clashingStep 10 = .ok (.aload_n 0, 1) := dk_1042 (dk_g tcX11_clashingStep_0 10 rfl)
theorem tcX11_clashingStep_1 : (cX11_clashingStep.data.toList.drop 12).take 12 = [0, 62, 180, 1, 56, 162, 0, 113, 29, 21, 4, 160] := by decide +kernel
theorem dX11_clashingStep_11 : decode cX11_clashingStep 11 = .ok (.getfield 62, 3) := dk_1180 (dk_g tcX11_clashingStep_0 11 rfl) (dk_g tcX11_clashingStep_1 0 rfl) (dk_g tcX11_clashingStep_1 1 rfl) rfl
theorem dX11_clashingStep_14 : decode cX11_clashingStep 14 = .ok (.getfield 312, 3) := dk_1180 (dk_g tcX11_clashingStep_1 2 rfl) (dk_g tcX11_clashingStep_1 3 rfl) (dk_g tcX11_clashingStep_1 4 rfl) rfl
theorem dX11_clashingStep_17 : decode cX11_clashingStep 17 = .ok (.if_icmp .ge 113, 3) := dk_2162 (dk_g tcX11_clashingStep_1 5 rfl) (dk_g tcX11_clashingStep_1 6 rfl) (dk_g tcX11_clashingStep_1 7 rfl) rfl rfl
theorem dX11_clashingStep_20 : decode cX11_clashingStep 20 = .ok (.iload_n 3, 1) := dk_1029 (dk_g tcX11_clashingStep_1 8 rfl)
theorem dX11_clashingStep_21 : decode cX11_clashingStep 21 = .ok (.iload 4, 2) := dk_1021 (dk_g tcX11_clashingStep_1 9 rfl) (dk_g tcX11_clashingStep_1 10 rfl) rfl
theorem tcX11_clashingStep_2 : (cX11_clashingStep.data.toList.drop 24).take 12 = [0, 24, 42, 180, 0, 69, 21, 5, 182, 0, 135, 42] := by decide +kernel
theorem dX11_clashingStep_23 : decode cX11_clashingStep 23 = .ok (.if_icmp .ne 24, 3) := dk_2160 (dk_g tcX11_clashingStep_1 11 rfl) (dk_g tcX11_clashingStep_2 0 rfl) (dk_g tcX11_clashingStep_2 1 rfl) rfl rfl
theorem dX11_clashingStep_26 : decode cX11_clashingStep 26 = .ok (.aload_n 0, 1) := dk_1042 (dk_g tcX11_clashingStep_2 2 rfl)
theorem dX11_clashingStep_27 : decode cX11_clashingStep 27 = .ok (.getfield 69, 3) := dk_1180 (dk_g tcX11_clashingStep_2 3 rfl) (dk_g tcX11_clashingStep_2 4 rfl) (dk_g tcX11_clashingStep_2 5 rfl) rfl
theorem dX11_clashingStep_30 : decode cX11_clashingStep 30 = .ok (.iload 5, 2) := dk_1021 (dk_g tcX11_clashingStep_2 6 rfl) (dk_g tcX11_clashingStep_2 7 rfl) rfl
theorem dX11_clashingStep_32 : decode cX11_clashingStep 32 = .ok (.invokevirtual 135, 3) := dk_1182 (dk_g tcX11_clashingStep_2 8 rfl) (dk_g tcX11_clashingStep_2 9 rfl) (dk_g tcX11_clashingStep_2 10 rfl) rfl
theorem dX11_clashingStep_35 : decode cX11_clashingStep 35 = .ok (.aload_n 0, 1) := dk_1042 (dk_g tcX11_clashingStep_2 11 rfl)
theorem tcX11_clashingStep_3 : (cX11_clashingStep.data.toList.drop 36).take 12 = [180, 0, 26, 21, 5, 182, 0, 135, 159, 0, 7, 4] := by decide +kernel
theorem dX11_clashingStep_36 : decode cX11_clashingStep 36 = .ok (.getfield 26, 3) := dk_1180 (dk_g tcX11_clashingStep_3 0 rfl) (dk_g tcX11_clashingStep_3 1 rfl) (dk_g tcX11_clashingStep_3 2 rfl) rfl
theorem dX11_clashingStep_39 : decode cX11_clashingStep 39 = .ok (.iload 5, 2) := dk_1021 (dk_g tcX11_clashingStep_3 3 rfl) (dk_g tcX11_clashingStep_3 4 rfl) rfl
theorem dX11_clashingStep_41 : decode cX11_clashingStep 41 = .ok (.invokevirtual 135, 3) := dk_1182 (dk_g tcX11_clashingStep_3 5 rfl) (dk_g tcX11_clashingStep_3 6 rfl) (dk_g tcX11_clashingStep_3 7 rfl) rfl
theorem dX11_clashingStep_44 : decode cX11_clashingStep 44 = .ok (.if_icmp .eq 7, 3) := dk_2159 (dk_g tcX11_clashingStep_3 8 rfl) (dk_g tcX11_clashingStep_3 9 rfl) (dk_g tcX11_clashingStep_3 10 rfl) rfl rfl
theorem dX11_clashingStep_47 : decode cX11_clashingStep 47 = .ok (.iconst 1, 1) := dk_1004 (dk_g tcX11_clashingStep_3 11 rfl)
theorem tcX11_clashingStep_4 : (cX11_clashingStep.data.toList.drop 48).take 12 = [167, 0, 4, 3, 54, 6, 42, 180, 0, 62, 42, 180] := by decide +kernel
theorem dX11_clashingStep_48 : decode cX11_clashingStep 48 = .ok (.goto 4, 3) := dk_2167 (dk_g tcX11_clashingStep_4 0 rfl) (dk_g tcX11_clashingStep_4 1 rfl) (dk_g tcX11_clashingStep_4 2 rfl) rfl rfl
theorem dX11_clashingStep_51 : decode cX11_clashingStep 51 = .ok (.iconst 0, 1) := dk_1003 (dk_g tcX11_clashingStep_4 3 rfl)
theorem dX11_clashingStep_52 : decode cX11_clashingStep 52 = .ok (.istore 6, 2) := dk_1054 (dk_g tcX11_clashingStep_4 4 rfl) (dk_g tcX11_clashingStep_4 5 rfl) rfl
theorem dX11_clashingStep_54 : decode cX11_clashingStep 54 = .ok (.aload_n 0, 1) := dk_1042 (dk_g tcX11_clashingStep_4 6 rfl)
theorem dX11_clashingStep_55 : decode cX11_clashingStep 55 = .ok (.getfield 62, 3) := dk_1180 (dk_g tcX11_clashingStep_4 7 rfl) (dk_g tcX11_clashingStep_4 8 rfl) (dk_g tcX11_clashingStep_4 9 rfl) rfl
theorem dX11_clashingStep_58 : decode cX11_clashingStep 58 = .ok (.aload_n 0, 1) := dk_1042 (dk_g tcX11_clashingStep_4 10 rfl)
theorem tcX11_clashingStep_5 : (cX11_clashingStep.data.toList.drop 60).take 12 = [0, 16, 180, 0, 122, 21, 5, 29, 42, 180, 0, 69] := by decide +kernel
theorem dX11_clashingStep_59 : decode cX11_clashingStep 59 = .ok (.getfield 16, 3) := dk_1180 (dk_g tcX11_clashingStep_4 11 rfl) (dk_g tcX11_clashingStep_5 0 rfl) (dk_g tcX11_clashingStep_5 1 rfl) rfl
theorem dX11_clashingStep_62 : decode cX11_clashingStep 62 = .ok (.getfield 122, 3) := dk_1180 (dk_g tcX11_clashingStep_5 2 rfl) (dk_g tcX11_clashingStep_5 3 rfl) (dk_g tcX11_clashingStep_5 4 rfl) rfl
theorem dX11_clashingStep_65 : decode cX11_clashingStep 65 = .ok (.iload 5, 2) := dk_1021 (dk_g tcX11_clashingStep_5 5 rfl) (dk_g tcX11_clashingStep_5 6 rfl) rfl
theorem dX11_clashingStep_67 : decode cX11_clashingStep 67 = .ok (.iload_n 3, 1) := dk_1029 (dk_g tcX11_clashingStep_5 7 rfl)
theorem dX11_clashingStep_68 : decode cX11_clashingStep 68 = .ok (.aload_n 0, 1) := dk_1042 (dk_g tcX11_clashingStep_5 8 rfl)
theorem dX11_clashingStep_69 : decode cX11_clashingStep 69 = .ok (.getfield 69, 3) := dk_1180 (dk_g tcX11_clashingStep_5 9 rfl) (dk_g tcX11_clashingStep_5 10 rfl) (dk_g tcX11_clashingStep_5 11 rfl) rfl
theorem tcX11_clashingStep_6 : (cX11_clashingStep.data.toList.drop 72).take 12 = [21, 5, 182, 0, 135, 182, 1, 222, 62, 42, 180, 0] := by decide +kernel
theorem dX11_clashingStep_72 : decode cX11_clashingStep 72 = .ok (.iload 5, 2) := dk_1021 (dk_g tcX11_clashingStep_6 0 rfl) (dk_g tcX11_clashingStep_6 1 rfl) rfl
theorem dX11_clashingStep_74 : decode cX11_clashingStep 74 = .ok (.invokevirtual 135, 3) := dk_1182 (dk_g tcX11_clashingStep_6 2 rfl) (dk_g tcX11_clashingStep_6 3 rfl) (dk_g tcX11_clashingStep_6 4 rfl) rfl
theorem dX11_clashingStep_77 : decode cX11_clashingStep 77 = .ok (.invokevirtual 478, 3) := dk_1182 (dk_g tcX11_clashingStep_6 5 rfl) (dk_g tcX11_clashingStep_6 6 rfl) (dk_g tcX11_clashingStep_6 7 rfl) rfl
theorem dX11_clashingStep_80 : decode cX11_clashingStep 80 = .ok (.istore_n 3, 1) := dk_1062 (dk_g tcX11_clashingStep_6 8 rfl)
theorem dX11_clashingStep_81 : decode cX11_clashingStep 81 = .ok (.aload_n 0, 1) := dk_1042 (dk_g tcX11_clashingStep_6 9 rfl)
theorem tcX11_clashingStep_7 : (cX11_clashingStep.data.toList.drop 84).take 12 = [62, 42, 180, 0, 16, 180, 0, 122, 21, 5, 21, 4] := by decide +kernel
theorem dX11_clashingStep_82 : decode cX11_clashingStep 82 = .ok (.getfield 62, 3) := dk_1180 (dk_g tcX11_clashingStep_6 10 rfl) (dk_g tcX11_clashingStep_6 11 rfl) (dk_g tcX11_clashingStep_7 0 rfl) rfl
theorem dX11_clashingStep_85 : decode cX11_clashingStep 85 = .ok (.aload_n 0, 1) := dk_1042 (dk_g tcX11_clashingStep_7 1 rfl)
theorem dX11_clashingStep_86 : decode cX11_clashingStep 86 = .ok (.getfield 16, 3) := dk_1180 (dk_g tcX11_clashingStep_7 2 rfl) (dk_g tcX11_clashingStep_7 3 rfl) (dk_g tcX11_clashingStep_7 4 rfl) rfl
theorem dX11_clashingStep_89 : decode cX11_clashingStep 89 = .ok (.getfield 122, 3) := dk_1180 (dk_g tcX11_clashingStep_7 5 rfl) (dk_g tcX11_clashingStep_7 6 rfl) (dk_g tcX11_clashingStep_7 7 rfl) rfl
theorem dX11_clashingStep_92 : decode cX11_clashingStep 92 = .ok (.iload 5, 2) := dk_1021 (dk_g tcX11_clashingStep_7 8 rfl) (dk_g tcX11_clashingStep_7 9 rfl) rfl
theorem dX11_clashingStep_94 : decode cX11_clashingStep 94 = .ok (.iload 4, 2) := dk_1021 (dk_g tcX11_clashingStep_7 10 rfl) (dk_g tcX11_clashingStep_7 11 rfl) rfl
theorem tcX11_clashingStep_8 : (cX11_clashingStep.data.toList.drop 96).take 12 = [42, 180, 0, 26, 21, 5, 182, 0, 135, 182, 1, 222] := by decide +kernel
theorem dX11_clashingStep_96 : decode cX11_clashingStep 96 = .ok (.aload_n 0, 1) := dk_1042 (dk_g tcX11_clashingStep_8 0 rfl)
theorem dX11_clashingStep_97 : decode cX11_clashingStep 97 = .ok (.getfield 26, 3) := dk_1180 (dk_g tcX11_clashingStep_8 1 rfl) (dk_g tcX11_clashingStep_8 2 rfl) (dk_g tcX11_clashingStep_8 3 rfl) rfl
theorem dX11_clashingStep_100 : decode cX11_clashingStep 100 = .ok (.iload 5, 2) := dk_1021 (dk_g tcX11_clashingStep_8 4 rfl) (dk_g tcX11_clashingStep_8 5 rfl) rfl
theorem dX11_clashingStep_102 : decode cX11_clashingStep 102 = .ok (.invokevirtual 135, 3) := dk_1182 (dk_g tcX11_clashingStep_8 6 rfl) (dk_g tcX11_clashingStep_8 7 rfl) (dk_g tcX11_clashingStep_8 8 rfl) rfl
theorem dX11_clashingStep_105 : decode cX11_clashingStep 105 = .ok (.invokevirtual 478, 3) := dk_1182 (dk_g tcX11_clashingStep_8 9 rfl) (dk_g tcX11_clashingStep_8 10 rfl) (dk_g tcX11_clashingStep_8 11 rfl) rfl
theorem tcX11_clashingStep_9 : (cX11_clashingStep.data.toList.drop 108).take 12 = [54, 4, 21, 6, 153, 0, 12, 29, 21, 4, 160, 0] := by decide +kernel
theorem dX11_clashingStep_108 : decode cX11_clashingStep 108 = .ok (.istore 4, 2) := dk_1054 (dk_g tcX11_clashingStep_9 0 rfl) (dk_g tcX11_clashingStep_9 1 rfl) rfl
theorem dX11_clashingStep_110 : decode cX11_clashingStep 110 = .ok (.iload 6, 2) := dk_1021 (dk_g tcX11_clashingStep_9 2 rfl) (dk_g tcX11_clashingStep_9 3 rfl) rfl
theorem dX11_clashingStep_112 : decode cX11_clashingStep 112 = .ok (.ifCond .eq 12, 3) := dk_2153 (dk_g tcX11_clashingStep_9 4 rfl) (dk_g tcX11_clashingStep_9 5 rfl) (dk_g tcX11_clashingStep_9 6 rfl) rfl rfl
theorem dX11_clashingStep_115 : decode cX11_clashingStep 115 = .ok (.iload_n 3, 1) := dk_1029 (dk_g tcX11_clashingStep_9 7 rfl)
theorem dX11_clashingStep_116 : decode cX11_clashingStep 116 = .ok (.iload 4, 2) := dk_1021 (dk_g tcX11_clashingStep_9 8 rfl) (dk_g tcX11_clashingStep_9 9 rfl) rfl
theorem tcX11_clashingStep_10 : (cX11_clashingStep.data.toList.drop 120).take 12 = [6, 21, 5, 172, 132, 5, 1, 167, 255, 137, 2, 172] := by decide +kernel
theorem dX11_clashingStep_118 : decode cX11_clashingStep 118 = .ok (.if_icmp .ne 6, 3) := dk_2160 (dk_g tcX11_clashingStep_9 10 rfl) (dk_g tcX11_clashingStep_9 11 rfl) (dk_g tcX11_clashingStep_10 0 rfl) rfl rfl
theorem dX11_clashingStep_121 : decode cX11_clashingStep 121 = .ok (.iload 5, 2) := dk_1021 (dk_g tcX11_clashingStep_10 1 rfl) (dk_g tcX11_clashingStep_10 2 rfl) rfl
theorem dX11_clashingStep_123 : decode cX11_clashingStep 123 = .ok (.ireturn, 1) := dk_1172 (dk_g tcX11_clashingStep_10 3 rfl)
theorem dX11_clashingStep_124 : decode cX11_clashingStep 124 = .ok (.iinc 5 1, 3) := dk_1132 (dk_g tcX11_clashingStep_10 4 rfl) (dk_g tcX11_clashingStep_10 5 rfl) (dk_g tcX11_clashingStep_10 6 rfl) rfl (by decide +kernel)
theorem dX11_clashingStep_127 : decode cX11_clashingStep 127 = .ok (.goto (-119), 3) := dk_1167 (dk_g tcX11_clashingStep_10 7 rfl) (dk_g tcX11_clashingStep_10 8 rfl) (dk_g tcX11_clashingStep_10 9 rfl) (by decide +kernel)
theorem dX11_clashingStep_130 : decode cX11_clashingStep 130 = .ok (.iconst (-1), 1) := dk_1002 (dk_g tcX11_clashingStep_10 10 rfl)
theorem dX11_clashingStep_131 : decode cX11_clashingStep 131 = .ok (.ireturn, 1) := dk_1172 (dk_g tcX11_clashingStep_10 11 rfl)
theorem tcX11_treeOfWay_0 : (cX11_treeOfWay.data.toList.drop 0).take 12 = [27, 42, 180, 0, 62, 180, 1, 56, 161, 0, 9, 42] := by decide +kernel
theorem dX11_treeOfWay_0 : decode cX11_treeOfWay 0 = .ok (.iload_n 1, 1) := dk_1027 (dk_g tcX11_treeOfWay_0 0 rfl)
theorem dX11_treeOfWay_1 : decode cX11_treeOfWay 1 = .ok (.aload_n 0, 1) := dk_1042 (dk_g tcX11_treeOfWay_0 1 rfl)
theorem dX11_treeOfWay_2 : decode cX11_treeOfWay 2 = .ok (.getfield 62, 3) := dk_1180 (dk_g tcX11_treeOfWay_0 2 rfl) (dk_g tcX11_treeOfWay_0 3 rfl) (dk_g tcX11_treeOfWay_0 4 rfl) rfl
theorem dX11_treeOfWay_5 : decode cX11_treeOfWay 5 = .ok (.getfield 312, 3) := dk_1180 (dk_g tcX11_treeOfWay_0 5 rfl) (dk_g tcX11_treeOfWay_0 6 rfl) (dk_g tcX11_treeOfWay_0 7 rfl) rfl
theorem dX11_treeOfWay_8 : decode cX11_treeOfWay 8 = .ok (.if_icmp .lt 9, 3) := dk_2161 (dk_g tcX11_treeOfWay_0 8 rfl) (dk_g tcX11_treeOfWay_0 9 rfl) (dk_g tcX11_treeOfWay_0 10 rfl) rfl rfl
theorem dX11_treeOfWay_11 : decode cX11_treeOfWay 11 = .ok (.aload_n 0, 1) := dk_1042 (dk_g tcX11_treeOfWay_0 11 rfl)
theorem tcX11_treeOfWay_1 : (cX11_treeOfWay.data.toList.drop 12).take 12 = [8, 182, 0, 98, 172, 42, 28, 154, 0, 14, 42, 180] := by decide +kernel
theorem dX11_treeOfWay_12 : decode cX11_treeOfWay 12 = .ok (.iconst 5, 1) := dk_1008 (dk_g tcX11_treeOfWay_1 0 rfl)
theorem dX11_treeOfWay_13 : decode cX11_treeOfWay 13 = .ok (.invokevirtual 98, 3) := dk_1182 (dk_g tcX11_treeOfWay_1 1 rfl) (dk_g tcX11_treeOfWay_1 2 rfl) (dk_g tcX11_treeOfWay_1 3 rfl) rfl
theorem dX11_treeOfWay_16 : decode cX11_treeOfWay 16 = .ok (.ireturn, 1) := dk_1172 (dk_g tcX11_treeOfWay_1 4 rfl)
theorem dX11_treeOfWay_17 : decode cX11_treeOfWay 17 = .ok (.aload_n 0, 1) := dk_1042 (dk_g tcX11_treeOfWay_1 5 rfl)
theorem dX11_treeOfWay_18 : decode cX11_treeOfWay 18 = .ok (.iload_n 2, 1) := dk_1028 (dk_g tcX11_treeOfWay_1 6 rfl)
theorem dX11_treeOfWay_19 : decode cX11_treeOfWay 19 = .ok (.ifCond .ne 14, 3) := dk_2154 (dk_g tcX11_treeOfWay_1 7 rfl) (dk_g tcX11_treeOfWay_1 8 rfl) (dk_g tcX11_treeOfWay_1 9 rfl) rfl rfl
theorem dX11_treeOfWay_22 : decode cX11_treeOfWay 22 = .ok (.aload_n 0, 1) := dk_1042 (dk_g tcX11_treeOfWay_1 10 rfl)
theorem tcX11_treeOfWay_2 : (cX11_treeOfWay.data.toList.drop 24).take 12 = [0, 62, 27, 182, 1, 77, 167, 0, 11, 42, 180, 0] := by decide +kernel
theorem dX11_treeOfWay_23 : decode cX11_treeOfWay 23 = .ok (.getfield 62, 3) := dk_1180 (dk_g tcX11_treeOfWay_1 11 rfl) (dk_g tcX11_treeOfWay_2 0 rfl) (dk_g tcX11_treeOfWay_2 1 rfl) rfl
theorem dX11_treeOfWay_26 : decode cX11_treeOfWay 26 = .ok (.iload_n 1, 1) := dk_1027 (dk_g tcX11_treeOfWay_2 2 rfl)
theorem dX11_treeOfWay_27 : decode cX11_treeOfWay 27 = .ok (.invokevirtual 333, 3) := dk_1182 (dk_g tcX11_treeOfWay_2 3 rfl) (dk_g tcX11_treeOfWay_2 4 rfl) (dk_g tcX11_treeOfWay_2 5 rfl) rfl
theorem dX11_treeOfWay_30 : decode cX11_treeOfWay 30 = .ok (.goto 11, 3) := dk_2167 (dk_g tcX11_treeOfWay_2 6 rfl) (dk_g tcX11_treeOfWay_2 7 rfl) (dk_g tcX11_treeOfWay_2 8 rfl) rfl rfl
theorem dX11_treeOfWay_33 : decode cX11_treeOfWay 33 = .ok (.aload_n 0, 1) := dk_1042 (dk_g tcX11_treeOfWay_2 9 rfl)
theorem tcX11_treeOfWay_3 : (cX11_treeOfWay.data.toList.drop 36).take 12 = [62, 27, 182, 1, 80, 182, 0, 115, 172] := by decide +kernel
theorem dX11_treeOfWay_34 : decode cX11_treeOfWay 34 = .ok (.getfield 62, 3) := dk_1180 (dk_g tcX11_treeOfWay_2 10 rfl) (dk_g tcX11_treeOfWay_2 11 rfl) (dk_g tcX11_treeOfWay_3 0 rfl) rfl
theorem dX11_treeOfWay_37 : decode cX11_treeOfWay 37 = .ok (.iload_n 1, 1) := dk_1027 (dk_g tcX11_treeOfWay_3 1 rfl)
theorem dX11_treeOfWay_38 : decode cX11_treeOfWay 38 = .ok (.invokevirtual 336, 3) := dk_1182 (dk_g tcX11_treeOfWay_3 2 rfl) (dk_g tcX11_treeOfWay_3 3 rfl) (dk_g tcX11_treeOfWay_3 4 rfl) rfl
theorem dX11_treeOfWay_41 : decode cX11_treeOfWay 41 = .ok (.invokevirtual 115, 3) := dk_1182 (dk_g tcX11_treeOfWay_3 5 rfl) (dk_g tcX11_treeOfWay_3 6 rfl) (dk_g tcX11_treeOfWay_3 7 rfl) rfl
theorem dX11_treeOfWay_44 : decode cX11_treeOfWay 44 = .ok (.ireturn, 1) := dk_1172 (dk_g tcX11_treeOfWay_3 8 rfl)
theorem tcX11_addLinks_0 : (cX11_addLinks.data.toList.drop 0).take 12 = [27, 61, 3, 62, 29, 42, 180, 0, 62, 180, 1, 56] := by decide +kernel
theorem dX11_addLinks_0 : decode cX11_addLinks 0 = .ok (.iload_n 1, 1) := dk_1027 (dk_g tcX11_addLinks_0 0 rfl)
theorem dX11_addLinks_1 : decode cX11_addLinks 1 = .ok (.istore_n 2, 1) := dk_1061 (dk_g tcX11_addLinks_0 1 rfl)
theorem dX11_addLinks_2 : decode cX11_addLinks 2 = .ok (.iconst 0, 1) := dk_1003 (dk_g tcX11_addLinks_0 2 rfl)
theorem dX11_addLinks_3 : decode cX11_addLinks 3 = .ok (.istore_n 3, 1) := dk_1062 (dk_g tcX11_addLinks_0 3 rfl)
theorem dX11_addLinks_4 : decode cX11_addLinks 4 = .ok (.iload_n 3, 1) := dk_1029 (dk_g tcX11_addLinks_0 4 rfl)
theorem dX11_addLinks_5 : decode cX11_addLinks 5 = .ok (.aload_n 0, 1) := dk_1042 (dk_g tcX11_addLinks_0 5 rfl)
theorem dX11_addLinks_6 : decode cX11_addLinks 6 = .ok (.getfield 62, 3) := dk_1180 (dk_g tcX11_addLinks_0 6 rfl) (dk_g tcX11_addLinks_0 7 rfl) (dk_g tcX11_addLinks_0 8 rfl) rfl
theorem dX11_addLinks_9 : decode cX11_addLinks 9 = .ok (.getfield 312, 3) := dk_1180 (dk_g tcX11_addLinks_0 9 rfl) (dk_g tcX11_addLinks_0 10 rfl) (dk_g tcX11_addLinks_0 11 rfl) rfl
theorem tcX11_addLinks_1 : (cX11_addLinks.data.toList.drop 12).take 12 = [162, 0, 65, 42, 180, 0, 62, 29, 182, 1, 77, 16] := by decide +kernel
theorem dX11_addLinks_12 : decode cX11_addLinks 12 = .ok (.if_icmp .ge 65, 3) := dk_2162 (dk_g tcX11_addLinks_1 0 rfl) (dk_g tcX11_addLinks_1 1 rfl) (dk_g tcX11_addLinks_1 2 rfl) rfl rfl
theorem dX11_addLinks_15 : decode cX11_addLinks 15 = .ok (.aload_n 0, 1) := dk_1042 (dk_g tcX11_addLinks_1 3 rfl)
theorem dX11_addLinks_16 : decode cX11_addLinks 16 = .ok (.getfield 62, 3) := dk_1180 (dk_g tcX11_addLinks_1 4 rfl) (dk_g tcX11_addLinks_1 5 rfl) (dk_g tcX11_addLinks_1 6 rfl) rfl
theorem dX11_addLinks_19 : decode cX11_addLinks 19 = .ok (.iload_n 3, 1) := dk_1029 (dk_g tcX11_addLinks_1 7 rfl)
theorem dX11_addLinks_20 : decode cX11_addLinks 20 = .ok (.invokevirtual 333, 3) := dk_1182 (dk_g tcX11_addLinks_1 8 rfl) (dk_g tcX11_addLinks_1 9 rfl) (dk_g tcX11_addLinks_1 10 rfl) rfl
theorem tcX11_addLinks_2 : (cX11_addLinks.data.toList.drop 24).take 12 = [64, 104, 42, 180, 0, 62, 29, 182, 1, 80, 96, 54] := by decide +kernel
theorem dX11_addLinks_23 : decode cX11_addLinks 23 = .ok (.bipush 64, 2) := dk_1016 (dk_g tcX11_addLinks_1 11 rfl) (dk_g tcX11_addLinks_2 0 rfl) (by decide +kernel)
theorem dX11_addLinks_25 : decode cX11_addLinks 25 = .ok (.imul, 1) := dk_1104 (dk_g tcX11_addLinks_2 1 rfl)
theorem dX11_addLinks_26 : decode cX11_addLinks 26 = .ok (.aload_n 0, 1) := dk_1042 (dk_g tcX11_addLinks_2 2 rfl)
theorem dX11_addLinks_27 : decode cX11_addLinks 27 = .ok (.getfield 62, 3) := dk_1180 (dk_g tcX11_addLinks_2 3 rfl) (dk_g tcX11_addLinks_2 4 rfl) (dk_g tcX11_addLinks_2 5 rfl) rfl
theorem dX11_addLinks_30 : decode cX11_addLinks 30 = .ok (.iload_n 3, 1) := dk_1029 (dk_g tcX11_addLinks_2 6 rfl)
theorem dX11_addLinks_31 : decode cX11_addLinks 31 = .ok (.invokevirtual 336, 3) := dk_1182 (dk_g tcX11_addLinks_2 7 rfl) (dk_g tcX11_addLinks_2 8 rfl) (dk_g tcX11_addLinks_2 9 rfl) rfl
theorem dX11_addLinks_34 : decode cX11_addLinks 34 = .ok (.iadd, 1) := dk_1096 (dk_g tcX11_addLinks_2 10 rfl)
theorem tcX11_addLinks_3 : (cX11_addLinks.data.toList.drop 36).take 12 = [4, 42, 21, 4, 28, 182, 1, 226, 154, 0, 27, 28] := by decide +kernel
theorem dX11_addLinks_35 : decode cX11_addLinks 35 = .ok (.istore 4, 2) := dk_1054 (dk_g tcX11_addLinks_2 11 rfl) (dk_g tcX11_addLinks_3 0 rfl) rfl
theorem dX11_addLinks_37 : decode cX11_addLinks 37 = .ok (.aload_n 0, 1) := dk_1042 (dk_g tcX11_addLinks_3 1 rfl)
theorem dX11_addLinks_38 : decode cX11_addLinks 38 = .ok (.iload 4, 2) := dk_1021 (dk_g tcX11_addLinks_3 2 rfl) (dk_g tcX11_addLinks_3 3 rfl) rfl
theorem dX11_addLinks_40 : decode cX11_addLinks 40 = .ok (.iload_n 2, 1) := dk_1028 (dk_g tcX11_addLinks_3 4 rfl)
theorem dX11_addLinks_41 : decode cX11_addLinks 41 = .ok (.invokevirtual 482, 3) := dk_1182 (dk_g tcX11_addLinks_3 5 rfl) (dk_g tcX11_addLinks_3 6 rfl) (dk_g tcX11_addLinks_3 7 rfl) rfl
theorem dX11_addLinks_44 : decode cX11_addLinks 44 = .ok (.ifCond .ne 27, 3) := dk_2154 (dk_g tcX11_addLinks_3 8 rfl) (dk_g tcX11_addLinks_3 9 rfl) (dk_g tcX11_addLinks_3 10 rfl) rfl rfl
theorem dX11_addLinks_47 : decode cX11_addLinks 47 = .ok (.iload_n 2, 1) := dk_1028 (dk_g tcX11_addLinks_3 11 rfl)
theorem tcX11_addLinks_4 : (cX11_addLinks.data.toList.drop 48).take 12 = [155, 0, 23, 28, 42, 180, 0, 86, 190, 162, 0, 14] := by decide +kernel
theorem dX11_addLinks_48 : decode cX11_addLinks 48 = .ok (.ifCond .lt 23, 3) := dk_2155 (dk_g tcX11_addLinks_4 0 rfl) (dk_g tcX11_addLinks_4 1 rfl) (dk_g tcX11_addLinks_4 2 rfl) rfl rfl
theorem dX11_addLinks_51 : decode cX11_addLinks 51 = .ok (.iload_n 2, 1) := dk_1028 (dk_g tcX11_addLinks_4 3 rfl)
theorem dX11_addLinks_52 : decode cX11_addLinks 52 = .ok (.aload_n 0, 1) := dk_1042 (dk_g tcX11_addLinks_4 4 rfl)
theorem dX11_addLinks_53 : decode cX11_addLinks 53 = .ok (.getfield 86, 3) := dk_1180 (dk_g tcX11_addLinks_4 5 rfl) (dk_g tcX11_addLinks_4 6 rfl) (dk_g tcX11_addLinks_4 7 rfl) rfl
theorem dX11_addLinks_56 : decode cX11_addLinks 56 = .ok (.arraylength, 1) := dk_1190 (dk_g tcX11_addLinks_4 8 rfl)
theorem dX11_addLinks_57 : decode cX11_addLinks 57 = .ok (.if_icmp .ge 14, 3) := dk_2162 (dk_g tcX11_addLinks_4 9 rfl) (dk_g tcX11_addLinks_4 10 rfl) (dk_g tcX11_addLinks_4 11 rfl) rfl rfl
theorem tcX11_addLinks_5 : (cX11_addLinks.data.toList.drop 60).take 12 = [42, 180, 0, 86, 28, 21, 4, 79, 132, 2, 1, 132] := by decide +kernel
theorem dX11_addLinks_60 : decode cX11_addLinks 60 = .ok (.aload_n 0, 1) := dk_1042 (dk_g tcX11_addLinks_5 0 rfl)
theorem dX11_addLinks_61 : decode cX11_addLinks 61 = .ok (.getfield 86, 3) := dk_1180 (dk_g tcX11_addLinks_5 1 rfl) (dk_g tcX11_addLinks_5 2 rfl) (dk_g tcX11_addLinks_5 3 rfl) rfl
theorem dX11_addLinks_64 : decode cX11_addLinks 64 = .ok (.iload_n 2, 1) := dk_1028 (dk_g tcX11_addLinks_5 4 rfl)
theorem dX11_addLinks_65 : decode cX11_addLinks 65 = .ok (.iload 4, 2) := dk_1021 (dk_g tcX11_addLinks_5 5 rfl) (dk_g tcX11_addLinks_5 6 rfl) rfl
theorem dX11_addLinks_67 : decode cX11_addLinks 67 = .ok (.iastore, 1) := dk_1079 (dk_g tcX11_addLinks_5 7 rfl)
theorem dX11_addLinks_68 : decode cX11_addLinks 68 = .ok (.iinc 2 1, 3) := dk_1132 (dk_g tcX11_addLinks_5 8 rfl) (dk_g tcX11_addLinks_5 9 rfl) (dk_g tcX11_addLinks_5 10 rfl) rfl (by decide +kernel)
theorem tcX11_addLinks_6 : (cX11_addLinks.data.toList.drop 72).take 12 = [3, 1, 167, 255, 186, 28, 172] := by decide +kernel
theorem dX11_addLinks_71 : decode cX11_addLinks 71 = .ok (.iinc 3 1, 3) := dk_1132 (dk_g tcX11_addLinks_5 11 rfl) (dk_g tcX11_addLinks_6 0 rfl) (dk_g tcX11_addLinks_6 1 rfl) rfl (by decide +kernel)
theorem dX11_addLinks_74 : decode cX11_addLinks 74 = .ok (.goto (-70), 3) := dk_1167 (dk_g tcX11_addLinks_6 2 rfl) (dk_g tcX11_addLinks_6 3 rfl) (dk_g tcX11_addLinks_6 4 rfl) (by decide +kernel)
theorem dX11_addLinks_77 : decode cX11_addLinks 77 = .ok (.iload_n 2, 1) := dk_1028 (dk_g tcX11_addLinks_6 5 rfl)
theorem dX11_addLinks_78 : decode cX11_addLinks 78 = .ok (.ireturn, 1) := dk_1172 (dk_g tcX11_addLinks_6 6 rfl)
theorem tcX11_isLink_0 : (cX11_isLink.data.toList.drop 0).take 12 = [3, 62, 29, 28, 162, 0, 30, 29, 42, 180, 0, 86] := by decide +kernel
theorem dX11_isLink_0 : decode cX11_isLink 0 = .ok (.iconst 0, 1) := dk_1003 (dk_g tcX11_isLink_0 0 rfl)
theorem dX11_isLink_1 : decode cX11_isLink 1 = .ok (.istore_n 3, 1) := dk_1062 (dk_g tcX11_isLink_0 1 rfl)
theorem dX11_isLink_2 : decode cX11_isLink 2 = .ok (.iload_n 3, 1) := dk_1029 (dk_g tcX11_isLink_0 2 rfl)
theorem dX11_isLink_3 : decode cX11_isLink 3 = .ok (.iload_n 2, 1) := dk_1028 (dk_g tcX11_isLink_0 3 rfl)
theorem dX11_isLink_4 : decode cX11_isLink 4 = .ok (.if_icmp .ge 30, 3) := dk_2162 (dk_g tcX11_isLink_0 4 rfl) (dk_g tcX11_isLink_0 5 rfl) (dk_g tcX11_isLink_0 6 rfl) rfl rfl
theorem dX11_isLink_7 : decode cX11_isLink 7 = .ok (.iload_n 3, 1) := dk_1029 (dk_g tcX11_isLink_0 7 rfl)
theorem dX11_isLink_8 : decode cX11_isLink 8 = .ok (.aload_n 0, 1) := dk_1042 (dk_g tcX11_isLink_0 8 rfl)
theorem dX11_isLink_9 : decode cX11_isLink 9 = .ok (.getfield 86, 3) := dk_1180 (dk_g tcX11_isLink_0 9 rfl) (dk_g tcX11_isLink_0 10 rfl) (dk_g tcX11_isLink_0 11 rfl) rfl
theorem tcX11_isLink_1 : (cX11_isLink.data.toList.drop 12).take 12 = [190, 162, 0, 21, 42, 180, 0, 86, 29, 46, 27, 160] := by decide +kernel
theorem dX11_isLink_12 : decode cX11_isLink 12 = .ok (.arraylength, 1) := dk_1190 (dk_g tcX11_isLink_1 0 rfl)
theorem dX11_isLink_13 : decode cX11_isLink 13 = .ok (.if_icmp .ge 21, 3) := dk_2162 (dk_g tcX11_isLink_1 1 rfl) (dk_g tcX11_isLink_1 2 rfl) (dk_g tcX11_isLink_1 3 rfl) rfl rfl
theorem dX11_isLink_16 : decode cX11_isLink 16 = .ok (.aload_n 0, 1) := dk_1042 (dk_g tcX11_isLink_1 4 rfl)
theorem dX11_isLink_17 : decode cX11_isLink 17 = .ok (.getfield 86, 3) := dk_1180 (dk_g tcX11_isLink_1 5 rfl) (dk_g tcX11_isLink_1 6 rfl) (dk_g tcX11_isLink_1 7 rfl) rfl
theorem dX11_isLink_20 : decode cX11_isLink 20 = .ok (.iload_n 3, 1) := dk_1029 (dk_g tcX11_isLink_1 8 rfl)
theorem dX11_isLink_21 : decode cX11_isLink 21 = .ok (.iaload, 1) := dk_1046 (dk_g tcX11_isLink_1 9 rfl)
theorem dX11_isLink_22 : decode cX11_isLink 22 = .ok (.iload_n 1, 1) := dk_1027 (dk_g tcX11_isLink_1 10 rfl)
theorem tcX11_isLink_2 : (cX11_isLink.data.toList.drop 24).take 12 = [0, 5, 4, 172, 132, 3, 1, 167, 255, 227, 3, 172] := by decide +kernel
theorem dX11_isLink_23 : decode cX11_isLink 23 = .ok (.if_icmp .ne 5, 3) := dk_2160 (dk_g tcX11_isLink_1 11 rfl) (dk_g tcX11_isLink_2 0 rfl) (dk_g tcX11_isLink_2 1 rfl) rfl rfl
theorem dX11_isLink_26 : decode cX11_isLink 26 = .ok (.iconst 1, 1) := dk_1004 (dk_g tcX11_isLink_2 2 rfl)
theorem dX11_isLink_27 : decode cX11_isLink 27 = .ok (.ireturn, 1) := dk_1172 (dk_g tcX11_isLink_2 3 rfl)
theorem dX11_isLink_28 : decode cX11_isLink 28 = .ok (.iinc 3 1, 3) := dk_1132 (dk_g tcX11_isLink_2 4 rfl) (dk_g tcX11_isLink_2 5 rfl) (dk_g tcX11_isLink_2 6 rfl) rfl (by decide +kernel)
theorem dX11_isLink_31 : decode cX11_isLink 31 = .ok (.goto (-29), 3) := dk_1167 (dk_g tcX11_isLink_2 7 rfl) (dk_g tcX11_isLink_2 8 rfl) (dk_g tcX11_isLink_2 9 rfl) (by decide +kernel)
theorem dX11_isLink_34 : decode cX11_isLink 34 = .ok (.iconst 0, 1) := dk_1003 (dk_g tcX11_isLink_2 10 rfl)
theorem dX11_isLink_35 : decode cX11_isLink 35 = .ok (.ireturn, 1) := dk_1172 (dk_g tcX11_isLink_2 11 rfl)
theorem tcX11_tellByte_0 : (cX11_tellByte.data.toList.drop 0).take 12 = [42, 180, 0, 56, 155, 0, 36, 42, 180, 0, 56, 42] := by decide +kernel
theorem dX11_tellByte_0 : decode cX11_tellByte 0 = .ok (.aload_n 0, 1) := dk_1042 (dk_g tcX11_tellByte_0 0 rfl)
theorem dX11_tellByte_1 : decode cX11_tellByte 1 = .ok (.getfield 56, 3) := dk_1180 (dk_g tcX11_tellByte_0 1 rfl) (dk_g tcX11_tellByte_0 2 rfl) (dk_g tcX11_tellByte_0 3 rfl) rfl
theorem dX11_tellByte_4 : decode cX11_tellByte 4 = .ok (.ifCond .lt 36, 3) := dk_2155 (dk_g tcX11_tellByte_0 4 rfl) (dk_g tcX11_tellByte_0 5 rfl) (dk_g tcX11_tellByte_0 6 rfl) rfl rfl
theorem dX11_tellByte_7 : decode cX11_tellByte 7 = .ok (.aload_n 0, 1) := dk_1042 (dk_g tcX11_tellByte_0 7 rfl)
theorem dX11_tellByte_8 : decode cX11_tellByte 8 = .ok (.getfield 56, 3) := dk_1180 (dk_g tcX11_tellByte_0 8 rfl) (dk_g tcX11_tellByte_0 9 rfl) (dk_g tcX11_tellByte_0 10 rfl) rfl
theorem dX11_tellByte_11 : decode cX11_tellByte 11 = .ok (.aload_n 0, 1) := dk_1042 (dk_g tcX11_tellByte_0 11 rfl)
theorem tcX11_tellByte_1 : (cX11_tellByte.data.toList.drop 12).take 12 = [180, 0, 53, 190, 162, 0, 24, 42, 180, 0, 53, 42] := by decide +kernel
theorem dX11_tellByte_12 : decode cX11_tellByte 12 = .ok (.getfield 53, 3) := dk_1180 (dk_g tcX11_tellByte_1 0 rfl) (dk_g tcX11_tellByte_1 1 rfl) (dk_g tcX11_tellByte_1 2 rfl) rfl
theorem dX11_tellByte_15 : decode cX11_tellByte 15 = .ok (.arraylength, 1) := dk_1190 (dk_g tcX11_tellByte_1 3 rfl)
theorem dX11_tellByte_16 : decode cX11_tellByte 16 = .ok (.if_icmp .ge 24, 3) := dk_2162 (dk_g tcX11_tellByte_1 4 rfl) (dk_g tcX11_tellByte_1 5 rfl) (dk_g tcX11_tellByte_1 6 rfl) rfl rfl
theorem dX11_tellByte_19 : decode cX11_tellByte 19 = .ok (.aload_n 0, 1) := dk_1042 (dk_g tcX11_tellByte_1 7 rfl)
theorem dX11_tellByte_20 : decode cX11_tellByte 20 = .ok (.getfield 53, 3) := dk_1180 (dk_g tcX11_tellByte_1 8 rfl) (dk_g tcX11_tellByte_1 9 rfl) (dk_g tcX11_tellByte_1 10 rfl) rfl
theorem dX11_tellByte_23 : decode cX11_tellByte 23 = .ok (.aload_n 0, 1) := dk_1042 (dk_g tcX11_tellByte_1 11 rfl)
theorem tcX11_tellByte_2 : (cX11_tellByte.data.toList.drop 24).take 12 = [180, 0, 56, 27, 145, 84, 42, 89, 180, 0, 56, 4] := by decide +kernel
theorem dX11_tellByte_24 : decode cX11_tellByte 24 = .ok (.getfield 56, 3) := dk_1180 (dk_g tcX11_tellByte_2 0 rfl) (dk_g tcX11_tellByte_2 1 rfl) (dk_g tcX11_tellByte_2 2 rfl) rfl
theorem dX11_tellByte_27 : decode cX11_tellByte 27 = .ok (.iload_n 1, 1) := dk_1027 (dk_g tcX11_tellByte_2 3 rfl)
theorem dX11_tellByte_28 : decode cX11_tellByte 28 = .ok (.i2b, 1) := dk_1145 (dk_g tcX11_tellByte_2 4 rfl)
theorem dX11_tellByte_29 : decode cX11_tellByte 29 = .ok (.bastore, 1) := dk_1084 (dk_g tcX11_tellByte_2 5 rfl)
theorem dX11_tellByte_30 : decode cX11_tellByte 30 = .ok (.aload_n 0, 1) := dk_1042 (dk_g tcX11_tellByte_2 6 rfl)
theorem dX11_tellByte_31 : decode cX11_tellByte 31 = .ok (.dup, 1) := dk_1089 (dk_g tcX11_tellByte_2 7 rfl)
theorem dX11_tellByte_32 : decode cX11_tellByte 32 = .ok (.getfield 56, 3) := dk_1180 (dk_g tcX11_tellByte_2 8 rfl) (dk_g tcX11_tellByte_2 9 rfl) (dk_g tcX11_tellByte_2 10 rfl) rfl
theorem dX11_tellByte_35 : decode cX11_tellByte 35 = .ok (.iconst 1, 1) := dk_1004 (dk_g tcX11_tellByte_2 11 rfl)
theorem tcX11_tellByte_3 : (cX11_tellByte.data.toList.drop 36).take 12 = [96, 181, 0, 56, 177] := by decide +kernel
theorem dX11_tellByte_36 : decode cX11_tellByte 36 = .ok (.iadd, 1) := dk_1096 (dk_g tcX11_tellByte_3 0 rfl)
theorem dX11_tellByte_37 : decode cX11_tellByte 37 = .ok (.putfield 56, 3) := dk_1181 (dk_g tcX11_tellByte_3 1 rfl) (dk_g tcX11_tellByte_3 2 rfl) (dk_g tcX11_tellByte_3 3 rfl) rfl
theorem dX11_tellByte_40 : decode cX11_tellByte 40 = .ok (.return_, 1) := dk_1177 (dk_g tcX11_tellByte_3 4 rfl)
theorem tcX11_tellText_0 : (cX11_tellText.data.toList.drop 0).take 12 = [3, 61, 28, 43, 182, 1, 229, 162, 0, 18, 42, 43] := by decide +kernel
theorem dX11_tellText_0 : decode cX11_tellText 0 = .ok (.iconst 0, 1) := dk_1003 (dk_g tcX11_tellText_0 0 rfl)
theorem dX11_tellText_1 : decode cX11_tellText 1 = .ok (.istore_n 2, 1) := dk_1061 (dk_g tcX11_tellText_0 1 rfl)
theorem dX11_tellText_2 : decode cX11_tellText 2 = .ok (.iload_n 2, 1) := dk_1028 (dk_g tcX11_tellText_0 2 rfl)
theorem dX11_tellText_3 : decode cX11_tellText 3 = .ok (.aload_n 1, 1) := dk_1043 (dk_g tcX11_tellText_0 3 rfl)
theorem dX11_tellText_4 : decode cX11_tellText 4 = .ok (.invokevirtual 485, 3) := dk_1182 (dk_g tcX11_tellText_0 4 rfl) (dk_g tcX11_tellText_0 5 rfl) (dk_g tcX11_tellText_0 6 rfl) rfl
theorem dX11_tellText_7 : decode cX11_tellText 7 = .ok (.if_icmp .ge 18, 3) := dk_2162 (dk_g tcX11_tellText_0 7 rfl) (dk_g tcX11_tellText_0 8 rfl) (dk_g tcX11_tellText_0 9 rfl) rfl rfl
theorem dX11_tellText_10 : decode cX11_tellText 10 = .ok (.aload_n 0, 1) := dk_1042 (dk_g tcX11_tellText_0 10 rfl)
theorem dX11_tellText_11 : decode cX11_tellText 11 = .ok (.aload_n 1, 1) := dk_1043 (dk_g tcX11_tellText_0 11 rfl)
theorem tcX11_tellText_1 : (cX11_tellText.data.toList.drop 12).take 12 = [28, 182, 1, 233, 182, 1, 237, 132, 2, 1, 167, 255] := by decide +kernel
theorem dX11_tellText_12 : decode cX11_tellText 12 = .ok (.iload_n 2, 1) := dk_1028 (dk_g tcX11_tellText_1 0 rfl)
theorem dX11_tellText_13 : decode cX11_tellText 13 = .ok (.invokevirtual 489, 3) := dk_1182 (dk_g tcX11_tellText_1 1 rfl) (dk_g tcX11_tellText_1 2 rfl) (dk_g tcX11_tellText_1 3 rfl) rfl
theorem dX11_tellText_16 : decode cX11_tellText 16 = .ok (.invokevirtual 493, 3) := dk_1182 (dk_g tcX11_tellText_1 4 rfl) (dk_g tcX11_tellText_1 5 rfl) (dk_g tcX11_tellText_1 6 rfl) rfl
theorem dX11_tellText_19 : decode cX11_tellText 19 = .ok (.iinc 2 1, 3) := dk_1132 (dk_g tcX11_tellText_1 7 rfl) (dk_g tcX11_tellText_1 8 rfl) (dk_g tcX11_tellText_1 9 rfl) rfl (by decide +kernel)
theorem tcX11_tellText_2 : (cX11_tellText.data.toList.drop 24).take 12 = [236, 177] := by decide +kernel
theorem dX11_tellText_22 : decode cX11_tellText 22 = .ok (.goto (-20), 3) := dk_1167 (dk_g tcX11_tellText_1 10 rfl) (dk_g tcX11_tellText_1 11 rfl) (dk_g tcX11_tellText_2 0 rfl) (by decide +kernel)
theorem dX11_tellText_25 : decode cX11_tellText 25 = .ok (.return_, 1) := dk_1177 (dk_g tcX11_tellText_2 1 rfl)
theorem tcX11_tellNumber_0 : (cX11_tellNumber.data.toList.drop 0).take 12 = [4, 61, 3, 62, 29, 16, 8, 162, 0, 22, 27, 16] := by decide +kernel
theorem dX11_tellNumber_0 : decode cX11_tellNumber 0 = .ok (.iconst 1, 1) := dk_1004 (dk_g tcX11_tellNumber_0 0 rfl)
theorem dX11_tellNumber_1 : decode cX11_tellNumber 1 = .ok (.istore_n 2, 1) := dk_1061 (dk_g tcX11_tellNumber_0 1 rfl)
theorem dX11_tellNumber_2 : decode cX11_tellNumber 2 = .ok (.iconst 0, 1) := dk_1003 (dk_g tcX11_tellNumber_0 2 rfl)
theorem dX11_tellNumber_3 : decode cX11_tellNumber 3 = .ok (.istore_n 3, 1) := dk_1062 (dk_g tcX11_tellNumber_0 3 rfl)
theorem dX11_tellNumber_4 : decode cX11_tellNumber 4 = .ok (.iload_n 3, 1) := dk_1029 (dk_g tcX11_tellNumber_0 4 rfl)
theorem dX11_tellNumber_5 : decode cX11_tellNumber 5 = .ok (.bipush 8, 2) := dk_1016 (dk_g tcX11_tellNumber_0 5 rfl) (dk_g tcX11_tellNumber_0 6 rfl) (by decide +kernel)
theorem dX11_tellNumber_7 : decode cX11_tellNumber 7 = .ok (.if_icmp .ge 22, 3) := dk_2162 (dk_g tcX11_tellNumber_0 7 rfl) (dk_g tcX11_tellNumber_0 8 rfl) (dk_g tcX11_tellNumber_0 9 rfl) rfl rfl
theorem dX11_tellNumber_10 : decode cX11_tellNumber 10 = .ok (.iload_n 1, 1) := dk_1027 (dk_g tcX11_tellNumber_0 10 rfl)
theorem tcX11_tellNumber_1 : (cX11_tellNumber.data.toList.drop 12).take 12 = [10, 108, 28, 161, 0, 14, 28, 16, 10, 104, 61, 132] := by decide +kernel
theorem dX11_tellNumber_11 : decode cX11_tellNumber 11 = .ok (.bipush 10, 2) := dk_1016 (dk_g tcX11_tellNumber_0 11 rfl) (dk_g tcX11_tellNumber_1 0 rfl) (by decide +kernel)
theorem dX11_tellNumber_13 : decode cX11_tellNumber 13 = .ok (.idiv, 1) := dk_1108 (dk_g tcX11_tellNumber_1 1 rfl)
theorem dX11_tellNumber_14 : decode cX11_tellNumber 14 = .ok (.iload_n 2, 1) := dk_1028 (dk_g tcX11_tellNumber_1 2 rfl)
theorem dX11_tellNumber_15 : decode cX11_tellNumber 15 = .ok (.if_icmp .lt 14, 3) := dk_2161 (dk_g tcX11_tellNumber_1 3 rfl) (dk_g tcX11_tellNumber_1 4 rfl) (dk_g tcX11_tellNumber_1 5 rfl) rfl rfl
theorem dX11_tellNumber_18 : decode cX11_tellNumber 18 = .ok (.iload_n 2, 1) := dk_1028 (dk_g tcX11_tellNumber_1 6 rfl)
theorem dX11_tellNumber_19 : decode cX11_tellNumber 19 = .ok (.bipush 10, 2) := dk_1016 (dk_g tcX11_tellNumber_1 7 rfl) (dk_g tcX11_tellNumber_1 8 rfl) (by decide +kernel)
theorem dX11_tellNumber_21 : decode cX11_tellNumber 21 = .ok (.imul, 1) := dk_1104 (dk_g tcX11_tellNumber_1 9 rfl)
theorem dX11_tellNumber_22 : decode cX11_tellNumber 22 = .ok (.istore_n 2, 1) := dk_1061 (dk_g tcX11_tellNumber_1 10 rfl)
theorem tcX11_tellNumber_2 : (cX11_tellNumber.data.toList.drop 24).take 12 = [3, 1, 167, 255, 234, 28, 158, 0, 24, 42, 16, 48] := by decide +kernel
theorem dX11_tellNumber_23 : decode cX11_tellNumber 23 = .ok (.iinc 3 1, 3) := dk_1132 (dk_g tcX11_tellNumber_1 11 rfl) (dk_g tcX11_tellNumber_2 0 rfl) (dk_g tcX11_tellNumber_2 1 rfl) rfl (by decide +kernel)
theorem dX11_tellNumber_26 : decode cX11_tellNumber 26 = .ok (.goto (-22), 3) := dk_1167 (dk_g tcX11_tellNumber_2 2 rfl) (dk_g tcX11_tellNumber_2 3 rfl) (dk_g tcX11_tellNumber_2 4 rfl) (by decide +kernel)
theorem dX11_tellNumber_29 : decode cX11_tellNumber 29 = .ok (.iload_n 2, 1) := dk_1028 (dk_g tcX11_tellNumber_2 5 rfl)
theorem dX11_tellNumber_30 : decode cX11_tellNumber 30 = .ok (.ifCond .le 24, 3) := dk_2158 (dk_g tcX11_tellNumber_2 6 rfl) (dk_g tcX11_tellNumber_2 7 rfl) (dk_g tcX11_tellNumber_2 8 rfl) rfl rfl
theorem dX11_tellNumber_33 : decode cX11_tellNumber 33 = .ok (.aload_n 0, 1) := dk_1042 (dk_g tcX11_tellNumber_2 9 rfl)
theorem dX11_tellNumber_34 : decode cX11_tellNumber 34 = .ok (.bipush 48, 2) := dk_1016 (dk_g tcX11_tellNumber_2 10 rfl) (dk_g tcX11_tellNumber_2 11 rfl) (by decide +kernel)
theorem tcX11_tellNumber_3 : (cX11_tellNumber.data.toList.drop 36).take 12 = [27, 28, 108, 16, 10, 112, 96, 182, 1, 237, 28, 16] := by decide +kernel
theorem dX11_tellNumber_36 : decode cX11_tellNumber 36 = .ok (.iload_n 1, 1) := dk_1027 (dk_g tcX11_tellNumber_3 0 rfl)
theorem dX11_tellNumber_37 : decode cX11_tellNumber 37 = .ok (.iload_n 2, 1) := dk_1028 (dk_g tcX11_tellNumber_3 1 rfl)
theorem dX11_tellNumber_38 : decode cX11_tellNumber 38 = .ok (.idiv, 1) := dk_1108 (dk_g tcX11_tellNumber_3 2 rfl)
theorem dX11_tellNumber_39 : decode cX11_tellNumber 39 = .ok (.bipush 10, 2) := dk_1016 (dk_g tcX11_tellNumber_3 3 rfl) (dk_g tcX11_tellNumber_3 4 rfl) (by decide +kernel)
theorem dX11_tellNumber_41 : decode cX11_tellNumber 41 = .ok (.irem, 1) := dk_1112 (dk_g tcX11_tellNumber_3 5 rfl)
theorem dX11_tellNumber_42 : decode cX11_tellNumber 42 = .ok (.iadd, 1) := dk_1096 (dk_g tcX11_tellNumber_3 6 rfl)
theorem dX11_tellNumber_43 : decode cX11_tellNumber 43 = .ok (.invokevirtual 493, 3) := dk_1182 (dk_g tcX11_tellNumber_3 7 rfl) (dk_g tcX11_tellNumber_3 8 rfl) (dk_g tcX11_tellNumber_3 9 rfl) rfl
theorem dX11_tellNumber_46 : decode cX11_tellNumber 46 = .ok (.iload_n 2, 1) := dk_1028 (dk_g tcX11_tellNumber_3 10 rfl)
theorem tcX11_tellNumber_4 : (cX11_tellNumber.data.toList.drop 48).take 12 = [10, 108, 61, 167, 255, 234, 177] := by decide +kernel
theorem dX11_tellNumber_47 : decode cX11_tellNumber 47 = .ok (.bipush 10, 2) := dk_1016 (dk_g tcX11_tellNumber_3 11 rfl) (dk_g tcX11_tellNumber_4 0 rfl) (by decide +kernel)
theorem dX11_tellNumber_49 : decode cX11_tellNumber 49 = .ok (.idiv, 1) := dk_1108 (dk_g tcX11_tellNumber_4 1 rfl)
theorem dX11_tellNumber_50 : decode cX11_tellNumber 50 = .ok (.istore_n 2, 1) := dk_1061 (dk_g tcX11_tellNumber_4 2 rfl)
theorem dX11_tellNumber_51 : decode cX11_tellNumber 51 = .ok (.goto (-22), 3) := dk_1167 (dk_g tcX11_tellNumber_4 3 rfl) (dk_g tcX11_tellNumber_4 4 rfl) (dk_g tcX11_tellNumber_4 5 rfl) (by decide +kernel)
theorem dX11_tellNumber_54 : decode cX11_tellNumber 54 = .ok (.return_, 1) := dk_1177 (dk_g tcX11_tellNumber_4 6 rfl)
theorem tcX11_tellProof_0 : (cX11_tellProof.data.toList.drop 0).take 12 = [42, 19, 1, 240, 182, 1, 155, 3, 60, 27, 42, 180] := by decide +kernel
theorem dX11_tellProof_0 : decode cX11_tellProof 0 = .ok (.aload_n 0, 1) := dk_1042 (dk_g tcX11_tellProof_0 0 rfl)
theorem dX11_tellProof_1 : decode cX11_tellProof 1 = .ok (.ldc_w 496, 3) := dk_1019 (dk_g tcX11_tellProof_0 1 rfl) (dk_g tcX11_tellProof_0 2 rfl) (dk_g tcX11_tellProof_0 3 rfl) rfl
theorem dX11_tellProof_4 : decode cX11_tellProof 4 = .ok (.invokevirtual 411, 3) := dk_1182 (dk_g tcX11_tellProof_0 4 rfl) (dk_g tcX11_tellProof_0 5 rfl) (dk_g tcX11_tellProof_0 6 rfl) rfl
theorem dX11_tellProof_7 : decode cX11_tellProof 7 = .ok (.iconst 0, 1) := dk_1003 (dk_g tcX11_tellProof_0 7 rfl)
theorem dX11_tellProof_8 : decode cX11_tellProof 8 = .ok (.istore_n 1, 1) := dk_1060 (dk_g tcX11_tellProof_0 8 rfl)
theorem dX11_tellProof_9 : decode cX11_tellProof 9 = .ok (.iload_n 1, 1) := dk_1027 (dk_g tcX11_tellProof_0 9 rfl)
theorem dX11_tellProof_10 : decode cX11_tellProof 10 = .ok (.aload_n 0, 1) := dk_1042 (dk_g tcX11_tellProof_0 10 rfl)
theorem tcX11_tellProof_1 : (cX11_tellProof.data.toList.drop 12).take 12 = [0, 69, 180, 0, 132, 162, 0, 28, 42, 19, 1, 242] := by decide +kernel
theorem dX11_tellProof_11 : decode cX11_tellProof 11 = .ok (.getfield 69, 3) := dk_1180 (dk_g tcX11_tellProof_0 11 rfl) (dk_g tcX11_tellProof_1 0 rfl) (dk_g tcX11_tellProof_1 1 rfl) rfl
theorem dX11_tellProof_14 : decode cX11_tellProof 14 = .ok (.getfield 132, 3) := dk_1180 (dk_g tcX11_tellProof_1 2 rfl) (dk_g tcX11_tellProof_1 3 rfl) (dk_g tcX11_tellProof_1 4 rfl) rfl
theorem dX11_tellProof_17 : decode cX11_tellProof 17 = .ok (.if_icmp .ge 28, 3) := dk_2162 (dk_g tcX11_tellProof_1 5 rfl) (dk_g tcX11_tellProof_1 6 rfl) (dk_g tcX11_tellProof_1 7 rfl) rfl rfl
theorem dX11_tellProof_20 : decode cX11_tellProof 20 = .ok (.aload_n 0, 1) := dk_1042 (dk_g tcX11_tellProof_1 8 rfl)
theorem dX11_tellProof_21 : decode cX11_tellProof 21 = .ok (.ldc_w 498, 3) := dk_1019 (dk_g tcX11_tellProof_1 9 rfl) (dk_g tcX11_tellProof_1 10 rfl) (dk_g tcX11_tellProof_1 11 rfl) rfl
theorem tcX11_tellProof_2 : (cX11_tellProof.data.toList.drop 24).take 12 = [182, 1, 155, 42, 42, 180, 0, 69, 27, 182, 0, 135] := by decide +kernel
theorem dX11_tellProof_24 : decode cX11_tellProof 24 = .ok (.invokevirtual 411, 3) := dk_1182 (dk_g tcX11_tellProof_2 0 rfl) (dk_g tcX11_tellProof_2 1 rfl) (dk_g tcX11_tellProof_2 2 rfl) rfl
theorem dX11_tellProof_27 : decode cX11_tellProof 27 = .ok (.aload_n 0, 1) := dk_1042 (dk_g tcX11_tellProof_2 3 rfl)
theorem dX11_tellProof_28 : decode cX11_tellProof 28 = .ok (.aload_n 0, 1) := dk_1042 (dk_g tcX11_tellProof_2 4 rfl)
theorem dX11_tellProof_29 : decode cX11_tellProof 29 = .ok (.getfield 69, 3) := dk_1180 (dk_g tcX11_tellProof_2 5 rfl) (dk_g tcX11_tellProof_2 6 rfl) (dk_g tcX11_tellProof_2 7 rfl) rfl
theorem dX11_tellProof_32 : decode cX11_tellProof 32 = .ok (.iload_n 1, 1) := dk_1027 (dk_g tcX11_tellProof_2 8 rfl)
theorem dX11_tellProof_33 : decode cX11_tellProof 33 = .ok (.invokevirtual 135, 3) := dk_1182 (dk_g tcX11_tellProof_2 9 rfl) (dk_g tcX11_tellProof_2 10 rfl) (dk_g tcX11_tellProof_2 11 rfl) rfl
theorem tcX11_tellProof_3 : (cX11_tellProof.data.toList.drop 36).take 12 = [182, 1, 159, 132, 1, 1, 167, 255, 223, 42, 19, 1] := by decide +kernel
theorem dX11_tellProof_36 : decode cX11_tellProof 36 = .ok (.invokevirtual 415, 3) := dk_1182 (dk_g tcX11_tellProof_3 0 rfl) (dk_g tcX11_tellProof_3 1 rfl) (dk_g tcX11_tellProof_3 2 rfl) rfl
theorem dX11_tellProof_39 : decode cX11_tellProof 39 = .ok (.iinc 1 1, 3) := dk_1132 (dk_g tcX11_tellProof_3 3 rfl) (dk_g tcX11_tellProof_3 4 rfl) (dk_g tcX11_tellProof_3 5 rfl) rfl (by decide +kernel)
theorem dX11_tellProof_42 : decode cX11_tellProof 42 = .ok (.goto (-33), 3) := dk_1167 (dk_g tcX11_tellProof_3 6 rfl) (dk_g tcX11_tellProof_3 7 rfl) (dk_g tcX11_tellProof_3 8 rfl) (by decide +kernel)
theorem dX11_tellProof_45 : decode cX11_tellProof 45 = .ok (.aload_n 0, 1) := dk_1042 (dk_g tcX11_tellProof_3 9 rfl)
theorem tcX11_tellProof_4 : (cX11_tellProof.data.toList.drop 48).take 12 = [244, 182, 1, 155, 177] := by decide +kernel
theorem dX11_tellProof_46 : decode cX11_tellProof 46 = .ok (.ldc_w 500, 3) := dk_1019 (dk_g tcX11_tellProof_3 10 rfl) (dk_g tcX11_tellProof_3 11 rfl) (dk_g tcX11_tellProof_4 0 rfl) rfl
theorem dX11_tellProof_49 : decode cX11_tellProof 49 = .ok (.invokevirtual 411, 3) := dk_1182 (dk_g tcX11_tellProof_4 1 rfl) (dk_g tcX11_tellProof_4 2 rfl) (dk_g tcX11_tellProof_4 3 rfl) rfl
theorem dX11_tellProof_52 : decode cX11_tellProof 52 = .ok (.return_, 1) := dk_1177 (dk_g tcX11_tellProof_4 4 rfl)
theorem tcX11_mixed_0 : (cX11_mixed.data.toList.drop 0).take 12 = [26, 157, 0, 5, 3, 172, 27, 133, 27, 133, 105, 20] := by decide +kernel
theorem dX11_mixed_0 : decode cX11_mixed 0 = .ok (.iload_n 0, 1) := dk_1026 (dk_g tcX11_mixed_0 0 rfl)
theorem dX11_mixed_1 : decode cX11_mixed 1 = .ok (.ifCond .gt 5, 3) := dk_2157 (dk_g tcX11_mixed_0 1 rfl) (dk_g tcX11_mixed_0 2 rfl) (dk_g tcX11_mixed_0 3 rfl) rfl rfl
theorem dX11_mixed_4 : decode cX11_mixed 4 = .ok (.iconst 0, 1) := dk_1003 (dk_g tcX11_mixed_0 4 rfl)
theorem dX11_mixed_5 : decode cX11_mixed 5 = .ok (.ireturn, 1) := dk_1172 (dk_g tcX11_mixed_0 5 rfl)
theorem dX11_mixed_6 : decode cX11_mixed 6 = .ok (.iload_n 1, 1) := dk_1027 (dk_g tcX11_mixed_0 6 rfl)
theorem dX11_mixed_7 : decode cX11_mixed 7 = .ok (.i2l, 1) := dk_1133 (dk_g tcX11_mixed_0 7 rfl)
theorem dX11_mixed_8 : decode cX11_mixed 8 = .ok (.iload_n 1, 1) := dk_1027 (dk_g tcX11_mixed_0 8 rfl)
theorem dX11_mixed_9 : decode cX11_mixed 9 = .ok (.i2l, 1) := dk_1133 (dk_g tcX11_mixed_0 9 rfl)
theorem dX11_mixed_10 : decode cX11_mixed 10 = .ok (.lmul, 1) := dk_1105 (dk_g tcX11_mixed_0 10 rfl)
theorem tcX11_mixed_1 : (cX11_mixed.data.toList.drop 12).take 12 = [1, 246, 27, 133, 105, 97, 28, 133, 97, 20, 1, 248] := by decide +kernel
theorem dX11_mixed_11 : decode cX11_mixed 11 = .ok (.ldc2_w 502, 3) := dk_1020 (dk_g tcX11_mixed_0 11 rfl) (dk_g tcX11_mixed_1 0 rfl) (dk_g tcX11_mixed_1 1 rfl) rfl
theorem dX11_mixed_14 : decode cX11_mixed 14 = .ok (.iload_n 1, 1) := dk_1027 (dk_g tcX11_mixed_1 2 rfl)
theorem dX11_mixed_15 : decode cX11_mixed 15 = .ok (.i2l, 1) := dk_1133 (dk_g tcX11_mixed_1 3 rfl)
theorem dX11_mixed_16 : decode cX11_mixed 16 = .ok (.lmul, 1) := dk_1105 (dk_g tcX11_mixed_1 4 rfl)
theorem dX11_mixed_17 : decode cX11_mixed 17 = .ok (.ladd, 1) := dk_1097 (dk_g tcX11_mixed_1 5 rfl)
theorem dX11_mixed_18 : decode cX11_mixed 18 = .ok (.iload_n 2, 1) := dk_1028 (dk_g tcX11_mixed_1 6 rfl)
theorem dX11_mixed_19 : decode cX11_mixed 19 = .ok (.i2l, 1) := dk_1133 (dk_g tcX11_mixed_1 7 rfl)
theorem dX11_mixed_20 : decode cX11_mixed 20 = .ok (.ladd, 1) := dk_1097 (dk_g tcX11_mixed_1 8 rfl)
theorem dX11_mixed_21 : decode cX11_mixed 21 = .ok (.ldc2_w 504, 3) := dk_1020 (dk_g tcX11_mixed_1 9 rfl) (dk_g tcX11_mixed_1 10 rfl) (dk_g tcX11_mixed_1 11 rfl) rfl
theorem tcX11_mixed_2 : (cX11_mixed.data.toList.drop 24).take 12 = [97, 26, 133, 113, 136, 172] := by decide +kernel
theorem dX11_mixed_24 : decode cX11_mixed 24 = .ok (.ladd, 1) := dk_1097 (dk_g tcX11_mixed_2 0 rfl)
theorem dX11_mixed_25 : decode cX11_mixed 25 = .ok (.iload_n 0, 1) := dk_1026 (dk_g tcX11_mixed_2 1 rfl)
theorem dX11_mixed_26 : decode cX11_mixed 26 = .ok (.i2l, 1) := dk_1133 (dk_g tcX11_mixed_2 2 rfl)
theorem dX11_mixed_27 : decode cX11_mixed 27 = .ok (.lrem, 1) := dk_1113 (dk_g tcX11_mixed_2 3 rfl)
theorem dX11_mixed_28 : decode cX11_mixed 28 = .ok (.l2i, 1) := dk_1136 (dk_g tcX11_mixed_2 4 rfl)
theorem dX11_mixed_29 : decode cX11_mixed 29 = .ok (.ireturn, 1) := dk_1172 (dk_g tcX11_mixed_2 5 rfl)
theorem tcX11_markOfTwo_0 : (cX11_markOfTwo.data.toList.drop 0).take 12 = [26, 157, 0, 5, 3, 172, 27, 133, 20, 1, 250, 97] := by decide +kernel
theorem dX11_markOfTwo_0 : decode cX11_markOfTwo 0 = .ok (.iload_n 0, 1) := dk_1026 (dk_g tcX11_markOfTwo_0 0 rfl)
theorem dX11_markOfTwo_1 : decode cX11_markOfTwo 1 = .ok (.ifCond .gt 5, 3) := dk_2157 (dk_g tcX11_markOfTwo_0 1 rfl) (dk_g tcX11_markOfTwo_0 2 rfl) (dk_g tcX11_markOfTwo_0 3 rfl) rfl rfl
theorem dX11_markOfTwo_4 : decode cX11_markOfTwo 4 = .ok (.iconst 0, 1) := dk_1003 (dk_g tcX11_markOfTwo_0 4 rfl)
theorem dX11_markOfTwo_5 : decode cX11_markOfTwo 5 = .ok (.ireturn, 1) := dk_1172 (dk_g tcX11_markOfTwo_0 5 rfl)
theorem dX11_markOfTwo_6 : decode cX11_markOfTwo 6 = .ok (.iload_n 1, 1) := dk_1027 (dk_g tcX11_markOfTwo_0 6 rfl)
theorem dX11_markOfTwo_7 : decode cX11_markOfTwo 7 = .ok (.i2l, 1) := dk_1133 (dk_g tcX11_markOfTwo_0 7 rfl)
theorem dX11_markOfTwo_8 : decode cX11_markOfTwo 8 = .ok (.ldc2_w 506, 3) := dk_1020 (dk_g tcX11_markOfTwo_0 8 rfl) (dk_g tcX11_markOfTwo_0 9 rfl) (dk_g tcX11_markOfTwo_0 10 rfl) rfl
theorem dX11_markOfTwo_11 : decode cX11_markOfTwo 11 = .ok (.ladd, 1) := dk_1097 (dk_g tcX11_markOfTwo_0 11 rfl)
theorem tcX11_markOfTwo_1 : (cX11_markOfTwo.data.toList.drop 12).take 12 = [26, 133, 113, 66, 33, 33, 105, 20, 1, 246, 33, 105] := by decide +kernel
theorem dX11_markOfTwo_12 : decode cX11_markOfTwo 12 = .ok (.iload_n 0, 1) := dk_1026 (dk_g tcX11_markOfTwo_1 0 rfl)
theorem dX11_markOfTwo_13 : decode cX11_markOfTwo 13 = .ok (.i2l, 1) := dk_1133 (dk_g tcX11_markOfTwo_1 1 rfl)
theorem dX11_markOfTwo_14 : decode cX11_markOfTwo 14 = .ok (.lrem, 1) := dk_1113 (dk_g tcX11_markOfTwo_1 2 rfl)
theorem dX11_markOfTwo_15 : decode cX11_markOfTwo 15 = .ok (.lstore_n 3, 1) := dk_1066 (dk_g tcX11_markOfTwo_1 3 rfl)
theorem dX11_markOfTwo_16 : decode cX11_markOfTwo 16 = .ok (.lload_n 3, 1) := dk_1033 (dk_g tcX11_markOfTwo_1 4 rfl)
theorem dX11_markOfTwo_17 : decode cX11_markOfTwo 17 = .ok (.lload_n 3, 1) := dk_1033 (dk_g tcX11_markOfTwo_1 5 rfl)
theorem dX11_markOfTwo_18 : decode cX11_markOfTwo 18 = .ok (.lmul, 1) := dk_1105 (dk_g tcX11_markOfTwo_1 6 rfl)
theorem dX11_markOfTwo_19 : decode cX11_markOfTwo 19 = .ok (.ldc2_w 502, 3) := dk_1020 (dk_g tcX11_markOfTwo_1 7 rfl) (dk_g tcX11_markOfTwo_1 8 rfl) (dk_g tcX11_markOfTwo_1 9 rfl) rfl
theorem dX11_markOfTwo_22 : decode cX11_markOfTwo 22 = .ok (.lload_n 3, 1) := dk_1033 (dk_g tcX11_markOfTwo_1 10 rfl)
theorem dX11_markOfTwo_23 : decode cX11_markOfTwo 23 = .ok (.lmul, 1) := dk_1105 (dk_g tcX11_markOfTwo_1 11 rfl)
theorem tcX11_markOfTwo_2 : (cX11_markOfTwo.data.toList.drop 24).take 12 = [97, 28, 133, 97, 20, 1, 248, 97, 26, 133, 113, 136] := by decide +kernel
theorem dX11_markOfTwo_24 : decode cX11_markOfTwo 24 = .ok (.ladd, 1) := dk_1097 (dk_g tcX11_markOfTwo_2 0 rfl)
theorem dX11_markOfTwo_25 : decode cX11_markOfTwo 25 = .ok (.iload_n 2, 1) := dk_1028 (dk_g tcX11_markOfTwo_2 1 rfl)
theorem dX11_markOfTwo_26 : decode cX11_markOfTwo 26 = .ok (.i2l, 1) := dk_1133 (dk_g tcX11_markOfTwo_2 2 rfl)
theorem dX11_markOfTwo_27 : decode cX11_markOfTwo 27 = .ok (.ladd, 1) := dk_1097 (dk_g tcX11_markOfTwo_2 3 rfl)
theorem dX11_markOfTwo_28 : decode cX11_markOfTwo 28 = .ok (.ldc2_w 504, 3) := dk_1020 (dk_g tcX11_markOfTwo_2 4 rfl) (dk_g tcX11_markOfTwo_2 5 rfl) (dk_g tcX11_markOfTwo_2 6 rfl) rfl
theorem dX11_markOfTwo_31 : decode cX11_markOfTwo 31 = .ok (.ladd, 1) := dk_1097 (dk_g tcX11_markOfTwo_2 7 rfl)
theorem dX11_markOfTwo_32 : decode cX11_markOfTwo 32 = .ok (.iload_n 0, 1) := dk_1026 (dk_g tcX11_markOfTwo_2 8 rfl)
theorem dX11_markOfTwo_33 : decode cX11_markOfTwo 33 = .ok (.i2l, 1) := dk_1133 (dk_g tcX11_markOfTwo_2 9 rfl)
theorem dX11_markOfTwo_34 : decode cX11_markOfTwo 34 = .ok (.lrem, 1) := dk_1113 (dk_g tcX11_markOfTwo_2 10 rfl)
theorem dX11_markOfTwo_35 : decode cX11_markOfTwo 35 = .ok (.l2i, 1) := dk_1136 (dk_g tcX11_markOfTwo_2 11 rfl)
theorem tcX11_markOfTwo_3 : (cX11_markOfTwo.data.toList.drop 36).take 12 = [172] := by decide +kernel
theorem dX11_markOfTwo_36 : decode cX11_markOfTwo 36 = .ok (.ireturn, 1) := dk_1172 (dk_g tcX11_markOfTwo_3 0 rfl)
theorem tcX11_firstPartOf_0 : (cX11_firstPartOf.data.toList.drop 0).take 12 = [26, 5, 162, 0, 7, 3, 167, 0, 9, 26, 4, 100] := by decide +kernel
theorem dX11_firstPartOf_0 : decode cX11_firstPartOf 0 = .ok (.iload_n 0, 1) := dk_1026 (dk_g tcX11_firstPartOf_0 0 rfl)
theorem dX11_firstPartOf_1 : decode cX11_firstPartOf 1 = .ok (.iconst 2, 1) := dk_1005 (dk_g tcX11_firstPartOf_0 1 rfl)
theorem dX11_firstPartOf_2 : decode cX11_firstPartOf 2 = .ok (.if_icmp .ge 7, 3) := dk_2162 (dk_g tcX11_firstPartOf_0 2 rfl) (dk_g tcX11_firstPartOf_0 3 rfl) (dk_g tcX11_firstPartOf_0 4 rfl) rfl rfl
theorem dX11_firstPartOf_5 : decode cX11_firstPartOf 5 = .ok (.iconst 0, 1) := dk_1003 (dk_g tcX11_firstPartOf_0 5 rfl)
theorem dX11_firstPartOf_6 : decode cX11_firstPartOf 6 = .ok (.goto 9, 3) := dk_2167 (dk_g tcX11_firstPartOf_0 6 rfl) (dk_g tcX11_firstPartOf_0 7 rfl) (dk_g tcX11_firstPartOf_0 8 rfl) rfl rfl
theorem dX11_firstPartOf_9 : decode cX11_firstPartOf 9 = .ok (.iload_n 0, 1) := dk_1026 (dk_g tcX11_firstPartOf_0 9 rfl)
theorem dX11_firstPartOf_10 : decode cX11_firstPartOf 10 = .ok (.iconst 1, 1) := dk_1004 (dk_g tcX11_firstPartOf_0 10 rfl)
theorem dX11_firstPartOf_11 : decode cX11_firstPartOf 11 = .ok (.isub, 1) := dk_1100 (dk_g tcX11_firstPartOf_0 11 rfl)
theorem tcX11_firstPartOf_1 : (cX11_firstPartOf.data.toList.drop 12).take 12 = [184, 1, 207, 172] := by decide +kernel
theorem dX11_firstPartOf_12 : decode cX11_firstPartOf 12 = .ok (.invokestatic 463, 3) := dk_1184 (dk_g tcX11_firstPartOf_1 0 rfl) (dk_g tcX11_firstPartOf_1 1 rfl) (dk_g tcX11_firstPartOf_1 2 rfl) rfl
theorem dX11_firstPartOf_15 : decode cX11_firstPartOf 15 = .ok (.ireturn, 1) := dk_1172 (dk_g tcX11_firstPartOf_1 3 rfl)
theorem tcX11_hasOneOf_0 : (cX11_hasOneOf.data.toList.drop 0).take 12 = [27, 155, 0, 13, 27, 16, 30, 162, 0, 7, 28, 157] := by decide +kernel
theorem dX11_hasOneOf_0 : decode cX11_hasOneOf 0 = .ok (.iload_n 1, 1) := dk_1027 (dk_g tcX11_hasOneOf_0 0 rfl)
theorem dX11_hasOneOf_1 : decode cX11_hasOneOf 1 = .ok (.ifCond .lt 13, 3) := dk_2155 (dk_g tcX11_hasOneOf_0 1 rfl) (dk_g tcX11_hasOneOf_0 2 rfl) (dk_g tcX11_hasOneOf_0 3 rfl) rfl rfl
theorem dX11_hasOneOf_4 : decode cX11_hasOneOf 4 = .ok (.iload_n 1, 1) := dk_1027 (dk_g tcX11_hasOneOf_0 4 rfl)
theorem dX11_hasOneOf_5 : decode cX11_hasOneOf 5 = .ok (.bipush 30, 2) := dk_1016 (dk_g tcX11_hasOneOf_0 5 rfl) (dk_g tcX11_hasOneOf_0 6 rfl) (by decide +kernel)
theorem dX11_hasOneOf_7 : decode cX11_hasOneOf 7 = .ok (.if_icmp .ge 7, 3) := dk_2162 (dk_g tcX11_hasOneOf_0 7 rfl) (dk_g tcX11_hasOneOf_0 8 rfl) (dk_g tcX11_hasOneOf_0 9 rfl) rfl rfl
theorem dX11_hasOneOf_10 : decode cX11_hasOneOf 10 = .ok (.iload_n 2, 1) := dk_1028 (dk_g tcX11_hasOneOf_0 10 rfl)
theorem tcX11_hasOneOf_1 : (cX11_hasOneOf.data.toList.drop 12).take 12 = [0, 5, 3, 172, 26, 27, 124, 62, 28, 16, 30, 161] := by decide +kernel
theorem dX11_hasOneOf_11 : decode cX11_hasOneOf 11 = .ok (.ifCond .gt 5, 3) := dk_2157 (dk_g tcX11_hasOneOf_0 11 rfl) (dk_g tcX11_hasOneOf_1 0 rfl) (dk_g tcX11_hasOneOf_1 1 rfl) rfl rfl
theorem dX11_hasOneOf_14 : decode cX11_hasOneOf 14 = .ok (.iconst 0, 1) := dk_1003 (dk_g tcX11_hasOneOf_1 2 rfl)
theorem dX11_hasOneOf_15 : decode cX11_hasOneOf 15 = .ok (.ireturn, 1) := dk_1172 (dk_g tcX11_hasOneOf_1 3 rfl)
theorem dX11_hasOneOf_16 : decode cX11_hasOneOf 16 = .ok (.iload_n 0, 1) := dk_1026 (dk_g tcX11_hasOneOf_1 4 rfl)
theorem dX11_hasOneOf_17 : decode cX11_hasOneOf 17 = .ok (.iload_n 1, 1) := dk_1027 (dk_g tcX11_hasOneOf_1 5 rfl)
theorem dX11_hasOneOf_18 : decode cX11_hasOneOf 18 = .ok (.iushr, 1) := dk_1124 (dk_g tcX11_hasOneOf_1 6 rfl)
theorem dX11_hasOneOf_19 : decode cX11_hasOneOf 19 = .ok (.istore_n 3, 1) := dk_1062 (dk_g tcX11_hasOneOf_1 7 rfl)
theorem dX11_hasOneOf_20 : decode cX11_hasOneOf 20 = .ok (.iload_n 2, 1) := dk_1028 (dk_g tcX11_hasOneOf_1 8 rfl)
theorem dX11_hasOneOf_21 : decode cX11_hasOneOf 21 = .ok (.bipush 30, 2) := dk_1016 (dk_g tcX11_hasOneOf_1 9 rfl) (dk_g tcX11_hasOneOf_1 10 rfl) (by decide +kernel)
theorem tcX11_hasOneOf_2 : (cX11_hasOneOf.data.toList.drop 24).take 12 = [0, 7, 29, 167, 0, 10, 29, 4, 28, 120, 4, 100] := by decide +kernel
theorem dX11_hasOneOf_23 : decode cX11_hasOneOf 23 = .ok (.if_icmp .lt 7, 3) := dk_2161 (dk_g tcX11_hasOneOf_1 11 rfl) (dk_g tcX11_hasOneOf_2 0 rfl) (dk_g tcX11_hasOneOf_2 1 rfl) rfl rfl
theorem dX11_hasOneOf_26 : decode cX11_hasOneOf 26 = .ok (.iload_n 3, 1) := dk_1029 (dk_g tcX11_hasOneOf_2 2 rfl)
theorem dX11_hasOneOf_27 : decode cX11_hasOneOf 27 = .ok (.goto 10, 3) := dk_2167 (dk_g tcX11_hasOneOf_2 3 rfl) (dk_g tcX11_hasOneOf_2 4 rfl) (dk_g tcX11_hasOneOf_2 5 rfl) rfl rfl
theorem dX11_hasOneOf_30 : decode cX11_hasOneOf 30 = .ok (.iload_n 3, 1) := dk_1029 (dk_g tcX11_hasOneOf_2 6 rfl)
theorem dX11_hasOneOf_31 : decode cX11_hasOneOf 31 = .ok (.iconst 1, 1) := dk_1004 (dk_g tcX11_hasOneOf_2 7 rfl)
theorem dX11_hasOneOf_32 : decode cX11_hasOneOf 32 = .ok (.iload_n 2, 1) := dk_1028 (dk_g tcX11_hasOneOf_2 8 rfl)
theorem dX11_hasOneOf_33 : decode cX11_hasOneOf 33 = .ok (.ishl, 1) := dk_1120 (dk_g tcX11_hasOneOf_2 9 rfl)
theorem dX11_hasOneOf_34 : decode cX11_hasOneOf 34 = .ok (.iconst 1, 1) := dk_1004 (dk_g tcX11_hasOneOf_2 10 rfl)
theorem dX11_hasOneOf_35 : decode cX11_hasOneOf 35 = .ok (.isub, 1) := dk_1100 (dk_g tcX11_hasOneOf_2 11 rfl)
theorem tcX11_hasOneOf_3 : (cX11_hasOneOf.data.toList.drop 36).take 12 = [126, 153, 0, 7, 4, 167, 0, 4, 3, 172] := by decide +kernel
theorem dX11_hasOneOf_36 : decode cX11_hasOneOf 36 = .ok (.iand, 1) := dk_1126 (dk_g tcX11_hasOneOf_3 0 rfl)
theorem dX11_hasOneOf_37 : decode cX11_hasOneOf 37 = .ok (.ifCond .eq 7, 3) := dk_2153 (dk_g tcX11_hasOneOf_3 1 rfl) (dk_g tcX11_hasOneOf_3 2 rfl) (dk_g tcX11_hasOneOf_3 3 rfl) rfl rfl
theorem dX11_hasOneOf_40 : decode cX11_hasOneOf 40 = .ok (.iconst 1, 1) := dk_1004 (dk_g tcX11_hasOneOf_3 4 rfl)
theorem dX11_hasOneOf_41 : decode cX11_hasOneOf 41 = .ok (.goto 4, 3) := dk_2167 (dk_g tcX11_hasOneOf_3 5 rfl) (dk_g tcX11_hasOneOf_3 6 rfl) (dk_g tcX11_hasOneOf_3 7 rfl) rfl rfl
theorem dX11_hasOneOf_44 : decode cX11_hasOneOf 44 = .ok (.iconst 0, 1) := dk_1003 (dk_g tcX11_hasOneOf_3 8 rfl)
theorem dX11_hasOneOf_45 : decode cX11_hasOneOf 45 = .ok (.ireturn, 1) := dk_1172 (dk_g tcX11_hasOneOf_3 9 rfl)
