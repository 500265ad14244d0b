theorem lt_m1 : (-1 : Int32).toInt = -1 := by decide
theorem mu_dn1 {x y : Int32} {n : Nat} (h : (x.toInt + 1).toNat = n) (e : y = x + (-1)) (h0 : 0 ≤ x.toInt) : (y.toInt + 1).toNat < n := by
  have h1 := ib_hi x
  have h2 : (x + (-1)).toInt = x.toInt + (-1 : Int32).toInt := ii_add (by rw [lt_m1]; omega) (by rw [lt_m1]; omega)
  rw [lt_m1] at h2
  rw [e]
  omega
/-- a method's start, of a class that has members which the machine runs by itself -/
theorem hp_startF {l : Launch} {Γ : hp_G} {α : hp_T} {bytes : ByteArray} {maxL d mc ms : Nat} {ret : Option FieldType} {y : MethodName} {Qc : Array Value → State → Outcome → State → Prop} {av : List Value} (hy : plainFor y = true)
    (body : ∀ p e s m below meth c, hp_C Γ p m c bytes maxL s av.toArray y.cls → meth.sig.returnType = ret → meth.locks = false → hp_B Γ (fun _ _ => True) s α α s.heap [] → meth.name = y.name →
      W p l e (hp_rm d mc ms) s m av.toArray below meth c s.heap [] 0 0 (MQ below Qc av.toArray s mc ms (hp_A Γ)) (entryFrame m av.toArray maxL)) : Met l y (hp_ws y bytes maxL ret) (hp_rm d mc ms) (hp_Pc Γ α av) Qc mc ms (hp_A Γ) := by
  refine va_MetF (cc := bytes) (maxL := maxL) (ret := ret) hy rfl ?_
  intro p e s m args below meth c s₁ B hml hv
  obtain ⟨rfl, hR, hK⟩ := hv
  have hts := atoms_spec (ws := hp_ws y bytes maxL ret) B.pre
  exact body p e s m below meth c ⟨⟨B.exec, B.bytes, hml, findClass_of_methodNamed B.named, fun w hw => hts w (List.mem_cons_of_mem _ hw)⟩, hK⟩ B.returns B.notSynchronized ⟨hR, va_S.rf, trivial⟩ (name_of_methodNamed B.named B.method).1
theorem hp_I_at {α : hp_T} {φ a : Nat} {v : Int32} : hp_I (hp_sI α φ a v) φ a = v := by simp [hp_I, hp_sI, hp_up]
/-- a rest by a number above 0 of what is not below 0 -/
theorem rt_nn {h m : Int32} (h0 : 0 ≤ h.toInt) (h1 : h.toInt < 65521) (m0 : 0 < m.toInt) (m1 : m.toInt ≤ 65521) : 0 ≤ ((h.toInt64 * h.toInt64 + 3 * h.toInt64) - (h.toInt64 * h.toInt64 + 3 * h.toInt64) / m.toInt64 * m.toInt64).toInt32.toInt := by
  have e1 : h.toInt64.toInt = h.toInt := Int32.toInt_toInt64 h
  have e2 : m.toInt64.toInt = m.toInt := Int32.toInt_toInt64 m
  have hh : 0 ≤ h.toInt * h.toInt := Int.mul_nonneg h0 h0
  have hh2 : h.toInt * h.toInt ≤ 65521 * 65521 := Int.mul_le_mul (by omega) (by omega) h0 (by omega)
  have a1 : (h.toInt64 * h.toInt64).toInt = h.toInt * h.toInt := by
    rw [Int64.toInt_mul, e1, Int.bmod_eq_of_le] <;> omega
  have a2 : (3 * h.toInt64).toInt = 3 * h.toInt := by
    rw [Int64.toInt_mul, e1, show (3 : Int64).toInt = 3 by decide, Int.bmod_eq_of_le] <;> omega
  have a3 : (h.toInt64 * h.toInt64 + 3 * h.toInt64).toInt = h.toInt * h.toInt + 3 * h.toInt := by
    rw [Int64.toInt_add, a1, a2, Int.bmod_eq_of_le] <;> omega
  generalize hx : h.toInt64 * h.toInt64 + 3 * h.toInt64 = x at a3 ⊢
  have x0 : 0 ≤ x.toInt := by rw [a3]; omega
  have x1 : x.toInt ≤ 65521 * 65521 + 3 * 65521 := by rw [a3]; omega
  have d1 : (x / m.toInt64).toInt = x.toInt / m.toInt := by
    have e : (x / m.toInt64).toInt = (x.toInt.tdiv m.toInt64.toInt).bmod (2 ^ 64) := Int64.toInt_div x m.toInt64
    have h3 : 0 ≤ x.toInt / m.toInt := Int.ediv_nonneg x0 (by omega)
    have h4 : x.toInt / m.toInt ≤ x.toInt := Int.ediv_le_self _ x0
    rw [e2, Int.tdiv_eq_ediv_of_nonneg x0, Int.bmod_eq_of_le (by omega) (by omega)] at e
    exact e
  have h3 : 0 ≤ x.toInt / m.toInt := Int.ediv_nonneg x0 (by omega)
  have h5 := Int.emod_add_mul_ediv x.toInt m.toInt
  have h6 := Int.emod_nonneg x.toInt (show m.toInt ≠ 0 by omega)
  have h6b := Int.emod_lt_of_pos x.toInt m0
  have h7 : 0 ≤ x.toInt / m.toInt * m.toInt := Int.mul_nonneg h3 (by omega)
  have h8 : x.toInt / m.toInt * m.toInt = m.toInt * (x.toInt / m.toInt) := Int.mul_comm _ _
  have d2 : (x / m.toInt64 * m.toInt64).toInt = x.toInt / m.toInt * m.toInt := by
    rw [Int64.toInt_mul, d1, e2, Int.bmod_eq_of_le] <;> omega
  have d3 : (x - x / m.toInt64 * m.toInt64).toInt = x.toInt % m.toInt := by
    rw [Int64.toInt_sub, d2, Int.bmod_eq_of_le] <;> omega
  rw [Int64.toInt_toInt32, d3, Int.bmod_eq_of_le] <;> omega
