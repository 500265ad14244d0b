theorem lt_m1 : (-1 : Int32).toInt = -1 := by decide
theorem lt_m8 : (-8 : Int32).toInt = -8 := by decide
theorem mu_dn1 {x y : Int32} {n : Nat} (h : (x.toInt + 1).toNat = n) (e : y = x + (-1)) (h0 : 0 ≤ x.toInt) : (y.toInt + 1).toNat < n := by
  have h1 := ib_hi x
  have h2 : (x + (-1)).toInt = x.toInt + (-1 : Int32).toInt := ii_add (by rw [lt_m1]; omega) (by rw [lt_m1]; omega)
  rw [lt_m1] at h2
  rw [e]
  omega
theorem mu_dn8 {x y : Int32} {n : Nat} (h : (x.toInt + 1).toNat = n) (e : y = x + (-8)) (h0 : 0 ≤ x.toInt) : (y.toInt + 1).toNat < n := by
  have h1 := ib_hi x
  have h2 : (x + (-8)).toInt = x.toInt + (-8 : Int32).toInt := ii_add (by rw [lt_m8]; omega) (by rw [lt_m8]; omega)
  rw [lt_m8] at h2
  rw [e]
  omega
/-- a method's start, of a class that has members which the machine runs by itself -/
theorem hp_startF {l : Launch} {Γ : hp_G} {α : hp_T} {bytes : ByteArray} {maxL d mc ms : Nat} {ret : Option FieldType} {y : MethodName} {Qc : Array Value → State → Outcome → State → Prop} {av : List Value} (hy : plainFor y = true)
    (body : ∀ p e s m below meth c, hp_C Γ p m c bytes maxL s av.toArray y.cls → meth.sig.returnType = ret → meth.locks = false → hp_B Γ (fun _ _ => True) s α α s.heap [] → meth.name = y.name →
      W p l e (hp_rm d mc ms) s m av.toArray below meth c s.heap [] 0 0 (MQ below Qc av.toArray s mc ms (hp_A Γ)) (entryFrame m av.toArray maxL)) : Met l y (hp_ws y bytes maxL ret) (hp_rm d mc ms) (hp_Pc Γ α av) Qc mc ms (hp_A Γ) := by
  refine va_MetF (cc := bytes) (maxL := maxL) (ret := ret) hy rfl ?_
  intro p e s m args below meth c s₁ B hml hv
  obtain ⟨rfl, hR, hK⟩ := hv
  have hts := atoms_spec (ws := hp_ws y bytes maxL ret) B.pre
  exact body p e s m below meth c ⟨⟨B.exec, B.bytes, hml, findClass_of_methodNamed B.named, fun w hw => hts w (List.mem_cons_of_mem _ hw)⟩, hK⟩ B.returns B.notSynchronized ⟨hR, va_S.rf, trivial⟩ (name_of_methodNamed B.named B.method).1
