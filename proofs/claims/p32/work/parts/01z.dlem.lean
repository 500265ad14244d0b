set_option maxRecDepth 100000
/-! ===== decode rows of any code, by its bytes ===== -/
theorem dk_g {l C : List UInt8} {p m : Nat} (h : (l.drop p).take m = C) (r : Nat) {b : UInt8} (e : C[r]? = some b) : l[p + r]? = some b := by
  rw [← h, List.getElem?_take] at e
  split at e
  · rw [List.getElem?_drop] at e; exact e
  · cases e
theorem dk_u1 {c : ByteArray} {p : Nat} {b : UInt8} (h : c.data.toList[p]? = some b) : (Jvm.ClassFile.Reader.u1 : Jvm.ClassFile.Decoder Nat) c p = .ok (b.toNat, p + 1) := by
  obtain ⟨⟨l⟩⟩ := c
  have h1 := (List.getElem?_eq_some_iff.mp h).1
  have h2 := (List.getElem?_eq_some_iff.mp h).2
  have e : (Jvm.ClassFile.Reader.u1 : Jvm.ClassFile.Decoder Nat) ⟨⟨l⟩⟩ p = (if h : p < l.length then (do set (p + 1); Pure.pure (l[p]'h).toNat : Jvm.ClassFile.Decoder Nat) else throw (Jvm.ClassFile.HasTruncated.truncated p)) ⟨⟨l⟩⟩ p := rfl
  have h1' : p < l.length := h1
  rw [e, dif_pos h1']
  have h2' : l[p]'h1' = b := h2
  rw [h2']
  rfl
theorem dk_s1 {c : ByteArray} {p : Nat} {b : UInt8} (h : c.data.toList[p]? = some b) : (Jvm.ClassFile.Reader.s1 : Jvm.ClassFile.Decoder Int) c p = .ok (Jvm.ClassFile.Reader.signed 8 b.toNat, p + 1) := by
  have e : (Jvm.ClassFile.Reader.s1 : Jvm.ClassFile.Decoder Int) c p = Except.bind ((Jvm.ClassFile.Reader.u1 : Jvm.ClassFile.Decoder Nat) c p) (fun x => .ok (Jvm.ClassFile.Reader.signed 8 x.1, x.2)) := rfl
  rw [e, dk_u1 h]; rfl
theorem dk_u2 {c : ByteArray} {p : Nat} {b d : UInt8} (h : c.data.toList[p]? = some b) (g : c.data.toList[p + 1]? = some d) : (Jvm.ClassFile.Reader.u2 : Jvm.ClassFile.Decoder Nat) c p = .ok (b.toNat * 256 + d.toNat, p + 2) := by
  have e : (Jvm.ClassFile.Reader.u2 : Jvm.ClassFile.Decoder Nat) c p = Except.bind ((Jvm.ClassFile.Reader.u1 : Jvm.ClassFile.Decoder Nat) c p) (fun x => Except.bind ((Jvm.ClassFile.Reader.u1 : Jvm.ClassFile.Decoder Nat) c x.2) (fun y => .ok (x.1 * 256 + y.1, y.2))) := rfl
  rw [e, dk_u1 h]
  show Except.bind ((Jvm.ClassFile.Reader.u1 : Jvm.ClassFile.Decoder Nat) c (p + 1)) _ = _
  rw [dk_u1 g]; rfl
theorem dk_s2 {c : ByteArray} {p : Nat} {b d : UInt8} (h : c.data.toList[p]? = some b) (g : c.data.toList[p + 1]? = some d) : (Jvm.ClassFile.Reader.s2 : Jvm.ClassFile.Decoder Int) c p = .ok (Jvm.ClassFile.Reader.signed 16 (b.toNat * 256 + d.toNat), p + 2) := by
  have e : (Jvm.ClassFile.Reader.s2 : Jvm.ClassFile.Decoder Int) c p = Except.bind ((Jvm.ClassFile.Reader.u2 : Jvm.ClassFile.Decoder Nat) c p) (fun x => .ok (Jvm.ClassFile.Reader.signed 16 x.1, x.2)) := rfl
  rw [e, dk_u2 h g]; rfl
theorem dk_d {c : ByteArray} {p n : Nat} {i : Jvm.ClassFile.Instr} (h : Jvm.ClassFile.Decoder.instr p c p = .ok (i, p + n)) : decode c p = .ok (i, n) := by
  have e : decode c p = Except.bind (Jvm.ClassFile.Decoder.instr p c p) (fun x => .ok (x.1, x.2 - p)) := rfl
  rw [e, h]
  show Except.ok (i, p + n - p) = _
  rw [Nat.add_sub_cancel_left]
theorem dk_m {α : Type} {c : ByteArray} {q q1 : Nat} {v : α} {m : Jvm.ClassFile.Decoder α} {F : α → Jvm.ClassFile.Decoder Jvm.ClassFile.Instr} (h : m c q = .ok (v, q1)) : (m >>= F) c q = F v c q1 := by
  have e : (m >>= F) c q = Except.bind (m c q) (fun x => F x.1 c x.2) := rfl
  rw [e, h]; rfl
theorem dk_0 {c : ByteArray} {p : Nat} {b : UInt8} {i : Jvm.ClassFile.Instr} {K : Nat → Jvm.ClassFile.Decoder Jvm.ClassFile.Instr} (hK : Jvm.ClassFile.Decoder.instr p = (Jvm.ClassFile.Reader.u1 >>= K)) (h : c.data.toList[p]? = some b) (hr : K b.toNat = Pure.pure i) : decode c p = .ok (i, 1) := by
  refine dk_d ?_
  rw [hK, dk_m (dk_u1 h), hr]; rfl
theorem dk_1 {α : Type} {c : ByteArray} {p n : Nat} {b : UInt8} {v : α} {i : Jvm.ClassFile.Instr} {K : Nat → Jvm.ClassFile.Decoder Jvm.ClassFile.Instr} {m : Jvm.ClassFile.Decoder α} {F : α → Jvm.ClassFile.Instr} (hK : Jvm.ClassFile.Decoder.instr p = (Jvm.ClassFile.Reader.u1 >>= K)) (h : c.data.toList[p]? = some b) (hr : K b.toNat = (m >>= fun x => Pure.pure (F x))) (hm : m c (p + 1) = .ok (v, p + n)) (hi : F v = i) : decode c p = .ok (i, n) := by
  refine dk_d ?_
  rw [hK, dk_m (dk_u1 h), hr, dk_m hm, hi]; rfl
theorem dk_1001 {c : ByteArray} {p : Nat} (h0 : c.data.toList[p]? = some 1) : decode c p = .ok (.aconst_null, 1) := dk_0 rfl h0 rfl
theorem dk_1002 {c : ByteArray} {p : Nat} (h0 : c.data.toList[p]? = some 2) : decode c p = .ok ((.iconst (-1)), 1) := dk_0 rfl h0 rfl
theorem dk_1003 {c : ByteArray} {p : Nat} (h0 : c.data.toList[p]? = some 3) : decode c p = .ok ((.iconst 0), 1) := dk_0 rfl h0 rfl
theorem dk_1004 {c : ByteArray} {p : Nat} (h0 : c.data.toList[p]? = some 4) : decode c p = .ok ((.iconst 1), 1) := dk_0 rfl h0 rfl
theorem dk_1005 {c : ByteArray} {p : Nat} (h0 : c.data.toList[p]? = some 5) : decode c p = .ok ((.iconst 2), 1) := dk_0 rfl h0 rfl
theorem dk_1006 {c : ByteArray} {p : Nat} (h0 : c.data.toList[p]? = some 6) : decode c p = .ok ((.iconst 3), 1) := dk_0 rfl h0 rfl
theorem dk_1007 {c : ByteArray} {p : Nat} (h0 : c.data.toList[p]? = some 7) : decode c p = .ok ((.iconst 4), 1) := dk_0 rfl h0 rfl
theorem dk_1008 {c : ByteArray} {p : Nat} (h0 : c.data.toList[p]? = some 8) : decode c p = .ok ((.iconst 5), 1) := dk_0 rfl h0 rfl
theorem dk_1009 {c : ByteArray} {p : Nat} (h0 : c.data.toList[p]? = some 9) : decode c p = .ok ((.lconst 0), 1) := dk_0 rfl h0 rfl
theorem dk_1016 {c : ByteArray} {p : Nat} {b : UInt8} {v : Int} (h0 : c.data.toList[p]? = some 16) (h1 : c.data.toList[p + 1]? = some b) (e : Jvm.ClassFile.Reader.signed 8 b.toNat = v) : decode c p = .ok ((.bipush v), 2) := by
  subst e
  exact dk_1 (m := Jvm.ClassFile.Reader.s1) (F := fun x => (.bipush x)) rfl h0 rfl (dk_s1 h1) rfl
theorem dk_1017 {c : ByteArray} {p : Nat} {b d : UInt8} {v : Int} (h0 : c.data.toList[p]? = some 17) (h1 : c.data.toList[p + 1]? = some b) (h2 : c.data.toList[p + 2]? = some d) (e : Jvm.ClassFile.Reader.signed 16 (b.toNat * 256 + d.toNat) = v) : decode c p = .ok ((.sipush v), 3) := by
  subst e
  exact dk_1 (n := 3) (m := Jvm.ClassFile.Reader.s2) (F := fun x => (.sipush x)) rfl h0 rfl (dk_s2 h1 h2) rfl
theorem dk_1018 {c : ByteArray} {p : Nat} {b : UInt8} {v : Nat} (h0 : c.data.toList[p]? = some 18) (h1 : c.data.toList[p + 1]? = some b) (e : b.toNat = v) : decode c p = .ok ((.ldc v), 2) := by
  subst e
  exact dk_1 (m := Jvm.ClassFile.Reader.u1) (F := fun x => (.ldc x)) rfl h0 rfl (dk_u1 h1) rfl
theorem dk_1019 {c : ByteArray} {p : Nat} {b d : UInt8} {v : Nat} (h0 : c.data.toList[p]? = some 19) (h1 : c.data.toList[p + 1]? = some b) (h2 : c.data.toList[p + 2]? = some d) (e : b.toNat * 256 + d.toNat = v) : decode c p = .ok ((.ldc_w v), 3) := by
  subst e
  exact dk_1 (n := 3) (m := Jvm.ClassFile.Reader.u2) (F := fun x => (.ldc_w x)) rfl h0 rfl (dk_u2 h1 h2) rfl
theorem dk_1020 {c : ByteArray} {p : Nat} {b d : UInt8} {v : Nat} (h0 : c.data.toList[p]? = some 20) (h1 : c.data.toList[p + 1]? = some b) (h2 : c.data.toList[p + 2]? = some d) (e : b.toNat * 256 + d.toNat = v) : decode c p = .ok ((.ldc2_w v), 3) := by
  subst e
  exact dk_1 (n := 3) (m := Jvm.ClassFile.Reader.u2) (F := fun x => (.ldc2_w x)) rfl h0 rfl (dk_u2 h1 h2) rfl
theorem dk_1021 {c : ByteArray} {p : Nat} {b : UInt8} {v : Nat} (h0 : c.data.toList[p]? = some 21) (h1 : c.data.toList[p + 1]? = some b) (e : b.toNat = v) : decode c p = .ok ((.iload v), 2) := by
  subst e
  exact dk_1 (m := Jvm.ClassFile.Reader.u1) (F := fun x => (.iload x)) rfl h0 rfl (dk_u1 h1) rfl
theorem dk_1022 {c : ByteArray} {p : Nat} {b : UInt8} {v : Nat} (h0 : c.data.toList[p]? = some 22) (h1 : c.data.toList[p + 1]? = some b) (e : b.toNat = v) : decode c p = .ok ((.lload v), 2) := by
  subst e
  exact dk_1 (m := Jvm.ClassFile.Reader.u1) (F := fun x => (.lload x)) rfl h0 rfl (dk_u1 h1) rfl
theorem dk_1025 {c : ByteArray} {p : Nat} {b : UInt8} {v : Nat} (h0 : c.data.toList[p]? = some 25) (h1 : c.data.toList[p + 1]? = some b) (e : b.toNat = v) : decode c p = .ok ((.aload v), 2) := by
  subst e
  exact dk_1 (m := Jvm.ClassFile.Reader.u1) (F := fun x => (.aload x)) rfl h0 rfl (dk_u1 h1) rfl
theorem dk_1026 {c : ByteArray} {p : Nat} (h0 : c.data.toList[p]? = some 26) : decode c p = .ok ((.iload_n 0), 1) := dk_0 rfl h0 rfl
theorem dk_1027 {c : ByteArray} {p : Nat} (h0 : c.data.toList[p]? = some 27) : decode c p = .ok ((.iload_n 1), 1) := dk_0 rfl h0 rfl
theorem dk_1028 {c : ByteArray} {p : Nat} (h0 : c.data.toList[p]? = some 28) : decode c p = .ok ((.iload_n 2), 1) := dk_0 rfl h0 rfl
theorem dk_1029 {c : ByteArray} {p : Nat} (h0 : c.data.toList[p]? = some 29) : decode c p = .ok ((.iload_n 3), 1) := dk_0 rfl h0 rfl
theorem dk_1030 {c : ByteArray} {p : Nat} (h0 : c.data.toList[p]? = some 30) : decode c p = .ok ((.lload_n 0), 1) := dk_0 rfl h0 rfl
theorem dk_1031 {c : ByteArray} {p : Nat} (h0 : c.data.toList[p]? = some 31) : decode c p = .ok ((.lload_n 1), 1) := dk_0 rfl h0 rfl
theorem dk_1032 {c : ByteArray} {p : Nat} (h0 : c.data.toList[p]? = some 32) : decode c p = .ok ((.lload_n 2), 1) := dk_0 rfl h0 rfl
theorem dk_1033 {c : ByteArray} {p : Nat} (h0 : c.data.toList[p]? = some 33) : decode c p = .ok ((.lload_n 3), 1) := dk_0 rfl h0 rfl
theorem dk_1042 {c : ByteArray} {p : Nat} (h0 : c.data.toList[p]? = some 42) : decode c p = .ok ((.aload_n 0), 1) := dk_0 rfl h0 rfl
theorem dk_1043 {c : ByteArray} {p : Nat} (h0 : c.data.toList[p]? = some 43) : decode c p = .ok ((.aload_n 1), 1) := dk_0 rfl h0 rfl
theorem dk_1044 {c : ByteArray} {p : Nat} (h0 : c.data.toList[p]? = some 44) : decode c p = .ok ((.aload_n 2), 1) := dk_0 rfl h0 rfl
theorem dk_1045 {c : ByteArray} {p : Nat} (h0 : c.data.toList[p]? = some 45) : decode c p = .ok ((.aload_n 3), 1) := dk_0 rfl h0 rfl
theorem dk_1046 {c : ByteArray} {p : Nat} (h0 : c.data.toList[p]? = some 46) : decode c p = .ok (.iaload, 1) := dk_0 rfl h0 rfl
theorem dk_1047 {c : ByteArray} {p : Nat} (h0 : c.data.toList[p]? = some 47) : decode c p = .ok (.laload, 1) := dk_0 rfl h0 rfl
theorem dk_1050 {c : ByteArray} {p : Nat} (h0 : c.data.toList[p]? = some 50) : decode c p = .ok (.aaload, 1) := dk_0 rfl h0 rfl
theorem dk_1051 {c : ByteArray} {p : Nat} (h0 : c.data.toList[p]? = some 51) : decode c p = .ok (.baload, 1) := dk_0 rfl h0 rfl
theorem dk_1054 {c : ByteArray} {p : Nat} {b : UInt8} {v : Nat} (h0 : c.data.toList[p]? = some 54) (h1 : c.data.toList[p + 1]? = some b) (e : b.toNat = v) : decode c p = .ok ((.istore v), 2) := by
  subst e
  exact dk_1 (m := Jvm.ClassFile.Reader.u1) (F := fun x => (.istore x)) rfl h0 rfl (dk_u1 h1) rfl
theorem dk_1055 {c : ByteArray} {p : Nat} {b : UInt8} {v : Nat} (h0 : c.data.toList[p]? = some 55) (h1 : c.data.toList[p + 1]? = some b) (e : b.toNat = v) : decode c p = .ok ((.lstore v), 2) := by
  subst e
  exact dk_1 (m := Jvm.ClassFile.Reader.u1) (F := fun x => (.lstore x)) rfl h0 rfl (dk_u1 h1) rfl
theorem dk_1058 {c : ByteArray} {p : Nat} {b : UInt8} {v : Nat} (h0 : c.data.toList[p]? = some 58) (h1 : c.data.toList[p + 1]? = some b) (e : b.toNat = v) : decode c p = .ok ((.astore v), 2) := by
  subst e
  exact dk_1 (m := Jvm.ClassFile.Reader.u1) (F := fun x => (.astore x)) rfl h0 rfl (dk_u1 h1) rfl
theorem dk_1059 {c : ByteArray} {p : Nat} (h0 : c.data.toList[p]? = some 59) : decode c p = .ok ((.istore_n 0), 1) := dk_0 rfl h0 rfl
theorem dk_1060 {c : ByteArray} {p : Nat} (h0 : c.data.toList[p]? = some 60) : decode c p = .ok ((.istore_n 1), 1) := dk_0 rfl h0 rfl
theorem dk_1061 {c : ByteArray} {p : Nat} (h0 : c.data.toList[p]? = some 61) : decode c p = .ok ((.istore_n 2), 1) := dk_0 rfl h0 rfl
theorem dk_1062 {c : ByteArray} {p : Nat} (h0 : c.data.toList[p]? = some 62) : decode c p = .ok ((.istore_n 3), 1) := dk_0 rfl h0 rfl
theorem dk_1066 {c : ByteArray} {p : Nat} (h0 : c.data.toList[p]? = some 66) : decode c p = .ok ((.lstore_n 3), 1) := dk_0 rfl h0 rfl
theorem dk_1076 {c : ByteArray} {p : Nat} (h0 : c.data.toList[p]? = some 76) : decode c p = .ok ((.astore_n 1), 1) := dk_0 rfl h0 rfl
theorem dk_1077 {c : ByteArray} {p : Nat} (h0 : c.data.toList[p]? = some 77) : decode c p = .ok ((.astore_n 2), 1) := dk_0 rfl h0 rfl
theorem dk_1078 {c : ByteArray} {p : Nat} (h0 : c.data.toList[p]? = some 78) : decode c p = .ok ((.astore_n 3), 1) := dk_0 rfl h0 rfl
theorem dk_1079 {c : ByteArray} {p : Nat} (h0 : c.data.toList[p]? = some 79) : decode c p = .ok (.iastore, 1) := dk_0 rfl h0 rfl
theorem dk_1080 {c : ByteArray} {p : Nat} (h0 : c.data.toList[p]? = some 80) : decode c p = .ok (.lastore, 1) := dk_0 rfl h0 rfl
theorem dk_1083 {c : ByteArray} {p : Nat} (h0 : c.data.toList[p]? = some 83) : decode c p = .ok (.aastore, 1) := dk_0 rfl h0 rfl
theorem dk_1084 {c : ByteArray} {p : Nat} (h0 : c.data.toList[p]? = some 84) : decode c p = .ok (.bastore, 1) := dk_0 rfl h0 rfl
theorem dk_1087 {c : ByteArray} {p : Nat} (h0 : c.data.toList[p]? = some 87) : decode c p = .ok (.pop, 1) := dk_0 rfl h0 rfl
theorem dk_1089 {c : ByteArray} {p : Nat} (h0 : c.data.toList[p]? = some 89) : decode c p = .ok (.dup, 1) := dk_0 rfl h0 rfl
theorem dk_1092 {c : ByteArray} {p : Nat} (h0 : c.data.toList[p]? = some 92) : decode c p = .ok (.dup2, 1) := dk_0 rfl h0 rfl
theorem dk_1096 {c : ByteArray} {p : Nat} (h0 : c.data.toList[p]? = some 96) : decode c p = .ok (.iadd, 1) := dk_0 rfl h0 rfl
theorem dk_1097 {c : ByteArray} {p : Nat} (h0 : c.data.toList[p]? = some 97) : decode c p = .ok (.ladd, 1) := dk_0 rfl h0 rfl
theorem dk_1100 {c : ByteArray} {p : Nat} (h0 : c.data.toList[p]? = some 100) : decode c p = .ok (.isub, 1) := dk_0 rfl h0 rfl
theorem dk_1101 {c : ByteArray} {p : Nat} (h0 : c.data.toList[p]? = some 101) : decode c p = .ok (.lsub, 1) := dk_0 rfl h0 rfl
theorem dk_1104 {c : ByteArray} {p : Nat} (h0 : c.data.toList[p]? = some 104) : decode c p = .ok (.imul, 1) := dk_0 rfl h0 rfl
theorem dk_1105 {c : ByteArray} {p : Nat} (h0 : c.data.toList[p]? = some 105) : decode c p = .ok (.lmul, 1) := dk_0 rfl h0 rfl
theorem dk_1108 {c : ByteArray} {p : Nat} (h0 : c.data.toList[p]? = some 108) : decode c p = .ok (.idiv, 1) := dk_0 rfl h0 rfl
theorem dk_1112 {c : ByteArray} {p : Nat} (h0 : c.data.toList[p]? = some 112) : decode c p = .ok (.irem, 1) := dk_0 rfl h0 rfl
theorem dk_1113 {c : ByteArray} {p : Nat} (h0 : c.data.toList[p]? = some 113) : decode c p = .ok (.lrem, 1) := dk_0 rfl h0 rfl
theorem dk_1120 {c : ByteArray} {p : Nat} (h0 : c.data.toList[p]? = some 120) : decode c p = .ok (.ishl, 1) := dk_0 rfl h0 rfl
theorem dk_1122 {c : ByteArray} {p : Nat} (h0 : c.data.toList[p]? = some 122) : decode c p = .ok (.ishr, 1) := dk_0 rfl h0 rfl
theorem dk_1124 {c : ByteArray} {p : Nat} (h0 : c.data.toList[p]? = some 124) : decode c p = .ok (.iushr, 1) := dk_0 rfl h0 rfl
theorem dk_1126 {c : ByteArray} {p : Nat} (h0 : c.data.toList[p]? = some 126) : decode c p = .ok (.iand, 1) := dk_0 rfl h0 rfl
theorem dk_1128 {c : ByteArray} {p : Nat} (h0 : c.data.toList[p]? = some 128) : decode c p = .ok (.ior, 1) := dk_0 rfl h0 rfl
theorem dk_1131 {c : ByteArray} {p : Nat} (h0 : c.data.toList[p]? = some 131) : decode c p = .ok (.lxor, 1) := dk_0 rfl h0 rfl
theorem dk_1132 {c : ByteArray} {p : Nat} {b d : UInt8} {v : Nat} {w : Int} (h0 : c.data.toList[p]? = some 132) (h1 : c.data.toList[p + 1]? = some b) (h2 : c.data.toList[p + 2]? = some d) (e : b.toNat = v) (e2 : Jvm.ClassFile.Reader.signed 8 d.toNat = w) : decode c p = .ok (.iinc v w, 3) := by
  subst e
  subst e2
  refine dk_d ?_
  rw [show Jvm.ClassFile.Decoder.instr p = (Jvm.ClassFile.Reader.u1 >>= _) from rfl, dk_m (dk_u1 h0)]
  refine (dk_m (F := fun x => Jvm.ClassFile.Reader.s1 >>= fun y => Pure.pure (.iinc x y)) (dk_u1 h1)).trans ?_
  exact (dk_m (F := fun y => Pure.pure (.iinc b.toNat y)) (dk_s1 h2)).trans rfl
theorem dk_1133 {c : ByteArray} {p : Nat} (h0 : c.data.toList[p]? = some 133) : decode c p = .ok (.i2l, 1) := dk_0 rfl h0 rfl
theorem dk_1136 {c : ByteArray} {p : Nat} (h0 : c.data.toList[p]? = some 136) : decode c p = .ok (.l2i, 1) := dk_0 rfl h0 rfl
theorem dk_1145 {c : ByteArray} {p : Nat} (h0 : c.data.toList[p]? = some 145) : decode c p = .ok (.i2b, 1) := dk_0 rfl h0 rfl
theorem dk_1146 {c : ByteArray} {p : Nat} (h0 : c.data.toList[p]? = some 146) : decode c p = .ok (.i2c, 1) := dk_0 rfl h0 rfl
theorem dk_1148 {c : ByteArray} {p : Nat} (h0 : c.data.toList[p]? = some 148) : decode c p = .ok (.lcmp, 1) := dk_0 rfl h0 rfl
theorem dk_1153 {c : ByteArray} {p : Nat} {b d : UInt8} {v : Int} (h0 : c.data.toList[p]? = some 153) (h1 : c.data.toList[p + 1]? = some b) (h2 : c.data.toList[p + 2]? = some d) (e : Jvm.ClassFile.Reader.signed 16 (b.toNat * 256 + d.toNat) = v) : decode c p = .ok ((.ifCond .eq v), 3) := by
  subst e
  exact dk_1 (n := 3) (m := Jvm.ClassFile.Reader.s2) (F := fun x => (.ifCond .eq x)) rfl h0 rfl (dk_s2 h1 h2) rfl
theorem dk_1154 {c : ByteArray} {p : Nat} {b d : UInt8} {v : Int} (h0 : c.data.toList[p]? = some 154) (h1 : c.data.toList[p + 1]? = some b) (h2 : c.data.toList[p + 2]? = some d) (e : Jvm.ClassFile.Reader.signed 16 (b.toNat * 256 + d.toNat) = v) : decode c p = .ok ((.ifCond .ne v), 3) := by
  subst e
  exact dk_1 (n := 3) (m := Jvm.ClassFile.Reader.s2) (F := fun x => (.ifCond .ne x)) rfl h0 rfl (dk_s2 h1 h2) rfl
theorem dk_1155 {c : ByteArray} {p : Nat} {b d : UInt8} {v : Int} (h0 : c.data.toList[p]? = some 155) (h1 : c.data.toList[p + 1]? = some b) (h2 : c.data.toList[p + 2]? = some d) (e : Jvm.ClassFile.Reader.signed 16 (b.toNat * 256 + d.toNat) = v) : decode c p = .ok ((.ifCond .lt v), 3) := by
  subst e
  exact dk_1 (n := 3) (m := Jvm.ClassFile.Reader.s2) (F := fun x => (.ifCond .lt x)) rfl h0 rfl (dk_s2 h1 h2) rfl
theorem dk_1156 {c : ByteArray} {p : Nat} {b d : UInt8} {v : Int} (h0 : c.data.toList[p]? = some 156) (h1 : c.data.toList[p + 1]? = some b) (h2 : c.data.toList[p + 2]? = some d) (e : Jvm.ClassFile.Reader.signed 16 (b.toNat * 256 + d.toNat) = v) : decode c p = .ok ((.ifCond .ge v), 3) := by
  subst e
  exact dk_1 (n := 3) (m := Jvm.ClassFile.Reader.s2) (F := fun x => (.ifCond .ge x)) rfl h0 rfl (dk_s2 h1 h2) rfl
theorem dk_1157 {c : ByteArray} {p : Nat} {b d : UInt8} {v : Int} (h0 : c.data.toList[p]? = some 157) (h1 : c.data.toList[p + 1]? = some b) (h2 : c.data.toList[p + 2]? = some d) (e : Jvm.ClassFile.Reader.signed 16 (b.toNat * 256 + d.toNat) = v) : decode c p = .ok ((.ifCond .gt v), 3) := by
  subst e
  exact dk_1 (n := 3) (m := Jvm.ClassFile.Reader.s2) (F := fun x => (.ifCond .gt x)) rfl h0 rfl (dk_s2 h1 h2) rfl
theorem dk_1158 {c : ByteArray} {p : Nat} {b d : UInt8} {v : Int} (h0 : c.data.toList[p]? = some 158) (h1 : c.data.toList[p + 1]? = some b) (h2 : c.data.toList[p + 2]? = some d) (e : Jvm.ClassFile.Reader.signed 16 (b.toNat * 256 + d.toNat) = v) : decode c p = .ok ((.ifCond .le v), 3) := by
  subst e
  exact dk_1 (n := 3) (m := Jvm.ClassFile.Reader.s2) (F := fun x => (.ifCond .le x)) rfl h0 rfl (dk_s2 h1 h2) rfl
theorem dk_1159 {c : ByteArray} {p : Nat} {b d : UInt8} {v : Int} (h0 : c.data.toList[p]? = some 159) (h1 : c.data.toList[p + 1]? = some b) (h2 : c.data.toList[p + 2]? = some d) (e : Jvm.ClassFile.Reader.signed 16 (b.toNat * 256 + d.toNat) = v) : decode c p = .ok ((.if_icmp .eq v), 3) := by
  subst e
  exact dk_1 (n := 3) (m := Jvm.ClassFile.Reader.s2) (F := fun x => (.if_icmp .eq x)) rfl h0 rfl (dk_s2 h1 h2) rfl
theorem dk_1160 {c : ByteArray} {p : Nat} {b d : UInt8} {v : Int} (h0 : c.data.toList[p]? = some 160) (h1 : c.data.toList[p + 1]? = some b) (h2 : c.data.toList[p + 2]? = some d) (e : Jvm.ClassFile.Reader.signed 16 (b.toNat * 256 + d.toNat) = v) : decode c p = .ok ((.if_icmp .ne v), 3) := by
  subst e
  exact dk_1 (n := 3) (m := Jvm.ClassFile.Reader.s2) (F := fun x => (.if_icmp .ne x)) rfl h0 rfl (dk_s2 h1 h2) rfl
theorem dk_1161 {c : ByteArray} {p : Nat} {b d : UInt8} {v : Int} (h0 : c.data.toList[p]? = some 161) (h1 : c.data.toList[p + 1]? = some b) (h2 : c.data.toList[p + 2]? = some d) (e : Jvm.ClassFile.Reader.signed 16 (b.toNat * 256 + d.toNat) = v) : decode c p = .ok ((.if_icmp .lt v), 3) := by
  subst e
  exact dk_1 (n := 3) (m := Jvm.ClassFile.Reader.s2) (F := fun x => (.if_icmp .lt x)) rfl h0 rfl (dk_s2 h1 h2) rfl
theorem dk_1162 {c : ByteArray} {p : Nat} {b d : UInt8} {v : Int} (h0 : c.data.toList[p]? = some 162) (h1 : c.data.toList[p + 1]? = some b) (h2 : c.data.toList[p + 2]? = some d) (e : Jvm.ClassFile.Reader.signed 16 (b.toNat * 256 + d.toNat) = v) : decode c p = .ok ((.if_icmp .ge v), 3) := by
  subst e
  exact dk_1 (n := 3) (m := Jvm.ClassFile.Reader.s2) (F := fun x => (.if_icmp .ge x)) rfl h0 rfl (dk_s2 h1 h2) rfl
theorem dk_1163 {c : ByteArray} {p : Nat} {b d : UInt8} {v : Int} (h0 : c.data.toList[p]? = some 163) (h1 : c.data.toList[p + 1]? = some b) (h2 : c.data.toList[p + 2]? = some d) (e : Jvm.ClassFile.Reader.signed 16 (b.toNat * 256 + d.toNat) = v) : decode c p = .ok ((.if_icmp .gt v), 3) := by
  subst e
  exact dk_1 (n := 3) (m := Jvm.ClassFile.Reader.s2) (F := fun x => (.if_icmp .gt x)) rfl h0 rfl (dk_s2 h1 h2) rfl
theorem dk_1164 {c : ByteArray} {p : Nat} {b d : UInt8} {v : Int} (h0 : c.data.toList[p]? = some 164) (h1 : c.data.toList[p + 1]? = some b) (h2 : c.data.toList[p + 2]? = some d) (e : Jvm.ClassFile.Reader.signed 16 (b.toNat * 256 + d.toNat) = v) : decode c p = .ok ((.if_icmp .le v), 3) := by
  subst e
  exact dk_1 (n := 3) (m := Jvm.ClassFile.Reader.s2) (F := fun x => (.if_icmp .le x)) rfl h0 rfl (dk_s2 h1 h2) rfl
theorem dk_1167 {c : ByteArray} {p : Nat} {b d : UInt8} {v : Int} (h0 : c.data.toList[p]? = some 167) (h1 : c.data.toList[p + 1]? = some b) (h2 : c.data.toList[p + 2]? = some d) (e : Jvm.ClassFile.Reader.signed 16 (b.toNat * 256 + d.toNat) = v) : decode c p = .ok ((.goto v), 3) := by
  subst e
  exact dk_1 (n := 3) (m := Jvm.ClassFile.Reader.s2) (F := fun x => (.goto x)) rfl h0 rfl (dk_s2 h1 h2) rfl
theorem dk_1172 {c : ByteArray} {p : Nat} (h0 : c.data.toList[p]? = some 172) : decode c p = .ok (.ireturn, 1) := dk_0 rfl h0 rfl
theorem dk_1173 {c : ByteArray} {p : Nat} (h0 : c.data.toList[p]? = some 173) : decode c p = .ok (.lreturn, 1) := dk_0 rfl h0 rfl
theorem dk_1176 {c : ByteArray} {p : Nat} (h0 : c.data.toList[p]? = some 176) : decode c p = .ok (.areturn, 1) := dk_0 rfl h0 rfl
theorem dk_1177 {c : ByteArray} {p : Nat} (h0 : c.data.toList[p]? = some 177) : decode c p = .ok (.return_, 1) := dk_0 rfl h0 rfl
theorem dk_1178 {c : ByteArray} {p : Nat} {b d : UInt8} {v : Nat} (h0 : c.data.toList[p]? = some 178) (h1 : c.data.toList[p + 1]? = some b) (h2 : c.data.toList[p + 2]? = some d) (e : b.toNat * 256 + d.toNat = v) : decode c p = .ok ((.getstatic v), 3) := by
  subst e
  exact dk_1 (n := 3) (m := Jvm.ClassFile.Reader.u2) (F := fun x => (.getstatic x)) rfl h0 rfl (dk_u2 h1 h2) rfl
theorem dk_1180 {c : ByteArray} {p : Nat} {b d : UInt8} {v : Nat} (h0 : c.data.toList[p]? = some 180) (h1 : c.data.toList[p + 1]? = some b) (h2 : c.data.toList[p + 2]? = some d) (e : b.toNat * 256 + d.toNat = v) : decode c p = .ok ((.getfield v), 3) := by
  subst e
  exact dk_1 (n := 3) (m := Jvm.ClassFile.Reader.u2) (F := fun x => (.getfield x)) rfl h0 rfl (dk_u2 h1 h2) rfl
theorem dk_1181 {c : ByteArray} {p : Nat} {b d : UInt8} {v : Nat} (h0 : c.data.toList[p]? = some 181) (h1 : c.data.toList[p + 1]? = some b) (h2 : c.data.toList[p + 2]? = some d) (e : b.toNat * 256 + d.toNat = v) : decode c p = .ok ((.putfield v), 3) := by
  subst e
  exact dk_1 (n := 3) (m := Jvm.ClassFile.Reader.u2) (F := fun x => (.putfield x)) rfl h0 rfl (dk_u2 h1 h2) rfl
theorem dk_1182 {c : ByteArray} {p : Nat} {b d : UInt8} {v : Nat} (h0 : c.data.toList[p]? = some 182) (h1 : c.data.toList[p + 1]? = some b) (h2 : c.data.toList[p + 2]? = some d) (e : b.toNat * 256 + d.toNat = v) : decode c p = .ok ((.invokevirtual v), 3) := by
  subst e
  exact dk_1 (n := 3) (m := Jvm.ClassFile.Reader.u2) (F := fun x => (.invokevirtual x)) rfl h0 rfl (dk_u2 h1 h2) rfl
theorem dk_1183 {c : ByteArray} {p : Nat} {b d : UInt8} {v : Nat} (h0 : c.data.toList[p]? = some 183) (h1 : c.data.toList[p + 1]? = some b) (h2 : c.data.toList[p + 2]? = some d) (e : b.toNat * 256 + d.toNat = v) : decode c p = .ok ((.invokespecial v), 3) := by
  subst e
  exact dk_1 (n := 3) (m := Jvm.ClassFile.Reader.u2) (F := fun x => (.invokespecial x)) rfl h0 rfl (dk_u2 h1 h2) rfl
theorem dk_1184 {c : ByteArray} {p : Nat} {b d : UInt8} {v : Nat} (h0 : c.data.toList[p]? = some 184) (h1 : c.data.toList[p + 1]? = some b) (h2 : c.data.toList[p + 2]? = some d) (e : b.toNat * 256 + d.toNat = v) : decode c p = .ok ((.invokestatic v), 3) := by
  subst e
  exact dk_1 (n := 3) (m := Jvm.ClassFile.Reader.u2) (F := fun x => (.invokestatic x)) rfl h0 rfl (dk_u2 h1 h2) rfl
theorem dk_1187 {c : ByteArray} {p : Nat} {b d : UInt8} {v : Nat} (h0 : c.data.toList[p]? = some 187) (h1 : c.data.toList[p + 1]? = some b) (h2 : c.data.toList[p + 2]? = some d) (e : b.toNat * 256 + d.toNat = v) : decode c p = .ok ((.new v), 3) := by
  subst e
  exact dk_1 (n := 3) (m := Jvm.ClassFile.Reader.u2) (F := fun x => (.new x)) rfl h0 rfl (dk_u2 h1 h2) rfl
theorem dk_1189 {c : ByteArray} {p : Nat} {b d : UInt8} {v : Nat} (h0 : c.data.toList[p]? = some 189) (h1 : c.data.toList[p + 1]? = some b) (h2 : c.data.toList[p + 2]? = some d) (e : b.toNat * 256 + d.toNat = v) : decode c p = .ok ((.anewarray v), 3) := by
  subst e
  exact dk_1 (n := 3) (m := Jvm.ClassFile.Reader.u2) (F := fun x => (.anewarray x)) rfl h0 rfl (dk_u2 h1 h2) rfl
theorem dk_1190 {c : ByteArray} {p : Nat} (h0 : c.data.toList[p]? = some 190) : decode c p = .ok (.arraylength, 1) := dk_0 rfl h0 rfl
theorem dk_1198 {c : ByteArray} {p : Nat} {b d : UInt8} {v : Int} (h0 : c.data.toList[p]? = some 198) (h1 : c.data.toList[p + 1]? = some b) (h2 : c.data.toList[p + 2]? = some d) (e : Jvm.ClassFile.Reader.signed 16 (b.toNat * 256 + d.toNat) = v) : decode c p = .ok ((.ifnull v), 3) := by
  subst e
  exact dk_1 (n := 3) (m := Jvm.ClassFile.Reader.s2) (F := fun x => (.ifnull x)) rfl h0 rfl (dk_s2 h1 h2) rfl
theorem dk_1199 {c : ByteArray} {p : Nat} {b d : UInt8} {v : Int} (h0 : c.data.toList[p]? = some 199) (h1 : c.data.toList[p + 1]? = some b) (h2 : c.data.toList[p + 2]? = some d) (e : Jvm.ClassFile.Reader.signed 16 (b.toNat * 256 + d.toNat) = v) : decode c p = .ok ((.ifnonnull v), 3) := by
  subst e
  exact dk_1 (n := 3) (m := Jvm.ClassFile.Reader.s2) (F := fun x => (.ifnonnull x)) rfl h0 rfl (dk_s2 h1 h2) rfl
theorem dk_2017 {c : ByteArray} {p : Nat} {b d : UInt8} {v : Nat} (h0 : c.data.toList[p]? = some 17) (h1 : c.data.toList[p + 1]? = some b) (h2 : c.data.toList[p + 2]? = some d) (e : b.toNat * 256 + d.toNat = v) (l : Nat.blt v 32768 = true) : decode c p = .ok ((.sipush (Int.ofNat v)), 3) := by
  subst e
  have hl := of_decide_eq_true (show decide (b.toNat * 256 + d.toNat < 32768) = true from decide_eq_true (Nat.le_of_ble_eq_true l))
  refine dk_1017 h0 h1 h2 ?_
  unfold Jvm.ClassFile.Reader.signed
  rw [if_pos hl]; rfl
theorem dk_2153 {c : ByteArray} {p : Nat} {b d : UInt8} {v : Nat} (h0 : c.data.toList[p]? = some 153) (h1 : c.data.toList[p + 1]? = some b) (h2 : c.data.toList[p + 2]? = some d) (e : b.toNat * 256 + d.toNat = v) (l : Nat.blt v 32768 = true) : decode c p = .ok ((.ifCond .eq (Int.ofNat v)), 3) := by
  subst e
  have hl := of_decide_eq_true (show decide (b.toNat * 256 + d.toNat < 32768) = true from decide_eq_true (Nat.le_of_ble_eq_true l))
  refine dk_1153 h0 h1 h2 ?_
  unfold Jvm.ClassFile.Reader.signed
  rw [if_pos hl]; rfl
theorem dk_2154 {c : ByteArray} {p : Nat} {b d : UInt8} {v : Nat} (h0 : c.data.toList[p]? = some 154) (h1 : c.data.toList[p + 1]? = some b) (h2 : c.data.toList[p + 2]? = some d) (e : b.toNat * 256 + d.toNat = v) (l : Nat.blt v 32768 = true) : decode c p = .ok ((.ifCond .ne (Int.ofNat v)), 3) := by
  subst e
  have hl := of_decide_eq_true (show decide (b.toNat * 256 + d.toNat < 32768) = true from decide_eq_true (Nat.le_of_ble_eq_true l))
  refine dk_1154 h0 h1 h2 ?_
  unfold Jvm.ClassFile.Reader.signed
  rw [if_pos hl]; rfl
theorem dk_2155 {c : ByteArray} {p : Nat} {b d : UInt8} {v : Nat} (h0 : c.data.toList[p]? = some 155) (h1 : c.data.toList[p + 1]? = some b) (h2 : c.data.toList[p + 2]? = some d) (e : b.toNat * 256 + d.toNat = v) (l : Nat.blt v 32768 = true) : decode c p = .ok ((.ifCond .lt (Int.ofNat v)), 3) := by
  subst e
  have hl := of_decide_eq_true (show decide (b.toNat * 256 + d.toNat < 32768) = true from decide_eq_true (Nat.le_of_ble_eq_true l))
  refine dk_1155 h0 h1 h2 ?_
  unfold Jvm.ClassFile.Reader.signed
  rw [if_pos hl]; rfl
theorem dk_2156 {c : ByteArray} {p : Nat} {b d : UInt8} {v : Nat} (h0 : c.data.toList[p]? = some 156) (h1 : c.data.toList[p + 1]? = some b) (h2 : c.data.toList[p + 2]? = some d) (e : b.toNat * 256 + d.toNat = v) (l : Nat.blt v 32768 = true) : decode c p = .ok ((.ifCond .ge (Int.ofNat v)), 3) := by
  subst e
  have hl := of_decide_eq_true (show decide (b.toNat * 256 + d.toNat < 32768) = true from decide_eq_true (Nat.le_of_ble_eq_true l))
  refine dk_1156 h0 h1 h2 ?_
  unfold Jvm.ClassFile.Reader.signed
  rw [if_pos hl]; rfl
theorem dk_2157 {c : ByteArray} {p : Nat} {b d : UInt8} {v : Nat} (h0 : c.data.toList[p]? = some 157) (h1 : c.data.toList[p + 1]? = some b) (h2 : c.data.toList[p + 2]? = some d) (e : b.toNat * 256 + d.toNat = v) (l : Nat.blt v 32768 = true) : decode c p = .ok ((.ifCond .gt (Int.ofNat v)), 3) := by
  subst e
  have hl := of_decide_eq_true (show decide (b.toNat * 256 + d.toNat < 32768) = true from decide_eq_true (Nat.le_of_ble_eq_true l))
  refine dk_1157 h0 h1 h2 ?_
  unfold Jvm.ClassFile.Reader.signed
  rw [if_pos hl]; rfl
theorem dk_2158 {c : ByteArray} {p : Nat} {b d : UInt8} {v : Nat} (h0 : c.data.toList[p]? = some 158) (h1 : c.data.toList[p + 1]? = some b) (h2 : c.data.toList[p + 2]? = some d) (e : b.toNat * 256 + d.toNat = v) (l : Nat.blt v 32768 = true) : decode c p = .ok ((.ifCond .le (Int.ofNat v)), 3) := by
  subst e
  have hl := of_decide_eq_true (show decide (b.toNat * 256 + d.toNat < 32768) = true from decide_eq_true (Nat.le_of_ble_eq_true l))
  refine dk_1158 h0 h1 h2 ?_
  unfold Jvm.ClassFile.Reader.signed
  rw [if_pos hl]; rfl
theorem dk_2159 {c : ByteArray} {p : Nat} {b d : UInt8} {v : Nat} (h0 : c.data.toList[p]? = some 159) (h1 : c.data.toList[p + 1]? = some b) (h2 : c.data.toList[p + 2]? = some d) (e : b.toNat * 256 + d.toNat = v) (l : Nat.blt v 32768 = true) : decode c p = .ok ((.if_icmp .eq (Int.ofNat v)), 3) := by
  subst e
  have hl := of_decide_eq_true (show decide (b.toNat * 256 + d.toNat < 32768) = true from decide_eq_true (Nat.le_of_ble_eq_true l))
  refine dk_1159 h0 h1 h2 ?_
  unfold Jvm.ClassFile.Reader.signed
  rw [if_pos hl]; rfl
theorem dk_2160 {c : ByteArray} {p : Nat} {b d : UInt8} {v : Nat} (h0 : c.data.toList[p]? = some 160) (h1 : c.data.toList[p + 1]? = some b) (h2 : c.data.toList[p + 2]? = some d) (e : b.toNat * 256 + d.toNat = v) (l : Nat.blt v 32768 = true) : decode c p = .ok ((.if_icmp .ne (Int.ofNat v)), 3) := by
  subst e
  have hl := of_decide_eq_true (show decide (b.toNat * 256 + d.toNat < 32768) = true from decide_eq_true (Nat.le_of_ble_eq_true l))
  refine dk_1160 h0 h1 h2 ?_
  unfold Jvm.ClassFile.Reader.signed
  rw [if_pos hl]; rfl
theorem dk_2161 {c : ByteArray} {p : Nat} {b d : UInt8} {v : Nat} (h0 : c.data.toList[p]? = some 161) (h1 : c.data.toList[p + 1]? = some b) (h2 : c.data.toList[p + 2]? = some d) (e : b.toNat * 256 + d.toNat = v) (l : Nat.blt v 32768 = true) : decode c p = .ok ((.if_icmp .lt (Int.ofNat v)), 3) := by
  subst e
  have hl := of_decide_eq_true (show decide (b.toNat * 256 + d.toNat < 32768) = true from decide_eq_true (Nat.le_of_ble_eq_true l))
  refine dk_1161 h0 h1 h2 ?_
  unfold Jvm.ClassFile.Reader.signed
  rw [if_pos hl]; rfl
theorem dk_2162 {c : ByteArray} {p : Nat} {b d : UInt8} {v : Nat} (h0 : c.data.toList[p]? = some 162) (h1 : c.data.toList[p + 1]? = some b) (h2 : c.data.toList[p + 2]? = some d) (e : b.toNat * 256 + d.toNat = v) (l : Nat.blt v 32768 = true) : decode c p = .ok ((.if_icmp .ge (Int.ofNat v)), 3) := by
  subst e
  have hl := of_decide_eq_true (show decide (b.toNat * 256 + d.toNat < 32768) = true from decide_eq_true (Nat.le_of_ble_eq_true l))
  refine dk_1162 h0 h1 h2 ?_
  unfold Jvm.ClassFile.Reader.signed
  rw [if_pos hl]; rfl
theorem dk_2163 {c : ByteArray} {p : Nat} {b d : UInt8} {v : Nat} (h0 : c.data.toList[p]? = some 163) (h1 : c.data.toList[p + 1]? = some b) (h2 : c.data.toList[p + 2]? = some d) (e : b.toNat * 256 + d.toNat = v) (l : Nat.blt v 32768 = true) : decode c p = .ok ((.if_icmp .gt (Int.ofNat v)), 3) := by
  subst e
  have hl := of_decide_eq_true (show decide (b.toNat * 256 + d.toNat < 32768) = true from decide_eq_true (Nat.le_of_ble_eq_true l))
  refine dk_1163 h0 h1 h2 ?_
  unfold Jvm.ClassFile.Reader.signed
  rw [if_pos hl]; rfl
theorem dk_2164 {c : ByteArray} {p : Nat} {b d : UInt8} {v : Nat} (h0 : c.data.toList[p]? = some 164) (h1 : c.data.toList[p + 1]? = some b) (h2 : c.data.toList[p + 2]? = some d) (e : b.toNat * 256 + d.toNat = v) (l : Nat.blt v 32768 = true) : decode c p = .ok ((.if_icmp .le (Int.ofNat v)), 3) := by
  subst e
  have hl := of_decide_eq_true (show decide (b.toNat * 256 + d.toNat < 32768) = true from decide_eq_true (Nat.le_of_ble_eq_true l))
  refine dk_1164 h0 h1 h2 ?_
  unfold Jvm.ClassFile.Reader.signed
  rw [if_pos hl]; rfl
theorem dk_2167 {c : ByteArray} {p : Nat} {b d : UInt8} {v : Nat} (h0 : c.data.toList[p]? = some 167) (h1 : c.data.toList[p + 1]? = some b) (h2 : c.data.toList[p + 2]? = some d) (e : b.toNat * 256 + d.toNat = v) (l : Nat.blt v 32768 = true) : decode c p = .ok ((.goto (Int.ofNat v)), 3) := by
  subst e
  have hl := of_decide_eq_true (show decide (b.toNat * 256 + d.toNat < 32768) = true from decide_eq_true (Nat.le_of_ble_eq_true l))
  refine dk_1167 h0 h1 h2 ?_
  unfold Jvm.ClassFile.Reader.signed
  rw [if_pos hl]; rfl
theorem dk_2198 {c : ByteArray} {p : Nat} {b d : UInt8} {v : Nat} (h0 : c.data.toList[p]? = some 198) (h1 : c.data.toList[p + 1]? = some b) (h2 : c.data.toList[p + 2]? = some d) (e : b.toNat * 256 + d.toNat = v) (l : Nat.blt v 32768 = true) : decode c p = .ok ((.ifnull (Int.ofNat v)), 3) := by
  subst e
  have hl := of_decide_eq_true (show decide (b.toNat * 256 + d.toNat < 32768) = true from decide_eq_true (Nat.le_of_ble_eq_true l))
  refine dk_1198 h0 h1 h2 ?_
  unfold Jvm.ClassFile.Reader.signed
  rw [if_pos hl]; rfl
theorem dk_2199 {c : ByteArray} {p : Nat} {b d : UInt8} {v : Nat} (h0 : c.data.toList[p]? = some 199) (h1 : c.data.toList[p + 1]? = some b) (h2 : c.data.toList[p + 2]? = some d) (e : b.toNat * 256 + d.toNat = v) (l : Nat.blt v 32768 = true) : decode c p = .ok ((.ifnonnull (Int.ofNat v)), 3) := by
  subst e
  have hl := of_decide_eq_true (show decide (b.toNat * 256 + d.toNat < 32768) = true from decide_eq_true (Nat.le_of_ble_eq_true l))
  refine dk_1199 h0 h1 h2 ?_
  unfold Jvm.ClassFile.Reader.signed
  rw [if_pos hl]; rfl
theorem dk_1188_4 {c : ByteArray} {p : Nat} (h0 : c.data.toList[p]? = some 188) (h1 : c.data.toList[p + 1]? = some 4) : decode c p = .ok (.newarray .boolean, 2) := by
  refine dk_d ?_
  rw [show Jvm.ClassFile.Decoder.instr p = (Jvm.ClassFile.Reader.u1 >>= _) from rfl, dk_m (dk_u1 h0)]
  refine (dk_m (F := fun x => _) (dk_u1 h1)).trans ?_
  rfl
theorem dk_1188_8 {c : ByteArray} {p : Nat} (h0 : c.data.toList[p]? = some 188) (h1 : c.data.toList[p + 1]? = some 8) : decode c p = .ok (.newarray .byte, 2) := by
  refine dk_d ?_
  rw [show Jvm.ClassFile.Decoder.instr p = (Jvm.ClassFile.Reader.u1 >>= _) from rfl, dk_m (dk_u1 h0)]
  refine (dk_m (F := fun x => _) (dk_u1 h1)).trans ?_
  rfl
theorem dk_1188_10 {c : ByteArray} {p : Nat} (h0 : c.data.toList[p]? = some 188) (h1 : c.data.toList[p + 1]? = some 10) : decode c p = .ok (.newarray .int, 2) := by
  refine dk_d ?_
  rw [show Jvm.ClassFile.Decoder.instr p = (Jvm.ClassFile.Reader.u1 >>= _) from rfl, dk_m (dk_u1 h0)]
  refine (dk_m (F := fun x => _) (dk_u1 h1)).trans ?_
  rfl
theorem dk_1188_11 {c : ByteArray} {p : Nat} (h0 : c.data.toList[p]? = some 188) (h1 : c.data.toList[p + 1]? = some 11) : decode c p = .ok (.newarray .long, 2) := by
  refine dk_d ?_
  rw [show Jvm.ClassFile.Decoder.instr p = (Jvm.ClassFile.Reader.u1 >>= _) from rfl, dk_m (dk_u1 h0)]
  refine (dk_m (F := fun x => _) (dk_u1 h1)).trans ?_
  rfl
