/-! ===== what a call made, told by the heap itself ===== -/
def zs (H H1 : Heap) : Prop := H1.toList.map (fun c => c.slots.size) = H.toList.map (fun c => c.slots.size)
def hp_PcH (Γ : hp_G) (α : hp_T) (Hs : Heap) (av : List Value) : Array Value → State → Prop := va_Pc av (fun U => U.heap = Hs ∧ hp_Rep Γ α U.heap ∧ hp_KK Γ U)
/-- behind it: nothing was made, or Roots are there -/
def hp_Bz (Γ : hp_G) (Hs : Heap) (a0 : Nat) (β : hp_T) (t : State) : Prop := hp_Rep Γ β t.heap ∧ (hp_N β 618 a0 = none → zs Hs t.heap)
theorem hp_blindH (Γ : hp_G) (α : hp_T) (Hs : Heap) (av : List Value) : FrameBlind (hp_PcH Γ α Hs av) := fun a U g mk q => by
  obtain ⟨q0, qz, qR, qK, qN, qT⟩ := q
  exact ⟨q0, qz, qR, va_K.moved (u := U) (U := U.calling g mk a) (Vm.Alike.refl U.vm) qK, fun w hw => hp_Nw.same (s := U) (U := U.calling g mk a) (List.mem_filter.mp hw).2 rfl (qN w hw), hp_TX.same (s := U) (U := U.calling g mk a) rfl qT⟩
theorem hp_startH {l : Launch} {Γ : hp_G} {α : hp_T} {Hs : Heap} {bytes : ByteArray} {maxL d mc ms : Nat} {ret : Option FieldType} {y : MethodName} {Qc : Array Value → State → Outcome → State → Prop} {av : List Value} (hy : plainName y.cls = true)
    (body : ∀ p e s m below meth c, hp_C Γ p m c bytes maxL s av.toArray y.cls → meth.sig.returnType = ret → meth.locks = false → hp_B Γ (fun _ _ => True) s α α s.heap [] → s.heap = Hs →
      W p l e (hp_rm d mc ms) s m av.toArray below meth c s.heap [] 0 0 (MQ below Qc av.toArray s mc ms (hp_A Γ)) (entryFrame m av.toArray maxL)) : Met l y (hp_ws y bytes maxL ret) (hp_rm d mc ms) (hp_PcH Γ α Hs av) Qc mc ms (hp_A Γ) := by
  refine Met.ofW (cc := bytes) (maxL := maxL) (ret := ret) hy rfl ?_
  intro p e s m args below meth c s₁ B hml hv
  obtain ⟨rfl, hz, hR, hK⟩ := hv
  have hts := atoms_spec (ws := hp_ws y bytes maxL ret) B.pre
  exact body p e s m below meth c ⟨⟨B.exec, B.bytes, hml, findClass_of_methodNamed B.named, fun w hw => hts w (List.mem_cons_of_mem _ hw)⟩, hK⟩ B.returns B.notSynchronized ⟨hR, va_S.rf, trivial⟩ hz
section HPZ
variable {p : Program} {l : Launch} {e : Env} {R : Room} {s : State} {m : MethodId} {args : Array Value} {below : List Frame} {meth : Method} {c : Code} {H : Heap} {locs : List Loc} {cells slots : Nat} {Q : State → Prop} {cc : ByteArray} {nL : Nat} {own : String} {Γ : hp_G} {α0 α : hp_T} {Iv : hp_T → hp_T → Prop} {pc pc' : Nat} {ls : Array Slot} {rest st : List Value} {mc ms : Nat} {x : Int32} {Hs : Heap} {a0 : Nat}
theorem zs_of {T : State} (X : Stand p l e R s m args below meth c T locs 0 0) : zs s.heap T.heap := by
  obtain ⟨-, h1, h2, -, -, h3⟩ := X.same
  have h1' : s.heap.size ≤ T.heap.size := h1
  have h2' : T.heap.size ≤ s.heap.size + 0 := h2
  unfold zs
  apply List.ext_getElem?
  intro i
  rw [List.getElem?_map, List.getElem?_map, Array.getElem?_toList, Array.getElem?_toList]
  cases hc : s.heap[i]? with
  | none =>
    have : s.heap.size ≤ i := by simpa using hc
    rw [show T.heap[i]? = none by simp; omega]
  | some c0 =>
    obtain ⟨c', k1, -, k3, -⟩ := h3 i c0 hc
    have k1' : T.heap[i]? = some c' := k1
    rw [k1']
    simp [k3]
theorem q_iretZ {post : Int32 → hp_T → Prop} (C : hp_C Γ p m c cc nL s args own) (B : hp_B Γ Iv s α0 α H locs) (hr : meth.sig.returnType = some .int) (hl : meth.locks = false) (hH : s.heap = Hs) (hp : post x α) (hdg : decode cc pc = .ok (.ireturn, 1)) : W p l e R s m args below meth c H locs 0 0 (MQ below (va_Qi post (hp_Bz Γ Hs a0) (hp_A Γ)) args s mc ms (hp_A Γ)) (F0 m pc ls [.int x]) := by
  intro T hT X
  have hz := zs_of X
  rw [hT, hH] at hz
  exact (W.widen (k := mc) (n := ms) (Nat.zero_le _) (Nat.zero_le _) (W.iret C.1.1 C.1.2.1 hr (fun _ ht _ => ⟨⟨x, α, rfl, hp, by dsimp only [hp_Bz]; rw [ht]; exact ⟨B.1, fun _ => hz⟩⟩, B.2.1.F ht⟩) B.2.1.2.2 hdg hl)) T hT X
theorem q_iretQ {post : Int32 → hp_T → Prop} {Bq : hp_T → State → Prop} (C : hp_C Γ p m c cc nL s args own) (B : hp_B Γ Iv s α0 α H locs) (hr : meth.sig.returnType = some .int) (hl : meth.locks = false) (hp : post x α) (hq : ∀ t : State, hp_Rep Γ α t.heap → Bq α t) (hdg : decode cc pc = .ok (.ireturn, 1)) : W p l e R s m args below meth c H locs cells slots (MQ below (va_Qi post Bq (hp_A Γ)) args s cells slots (hp_A Γ)) (F0 m pc ls [.int x]) :=
  W.iret C.1.1 C.1.2.1 hr (fun t ht _ => ⟨⟨x, α, rfl, hp, hq _ (by rw [ht]; exact B.1)⟩, B.2.1.F ht⟩) B.2.1.2.2 hdg hl
/-- fewer cells than were allowed, where the heap says so -/
theorem zs_narrow {T T' : State} {L : List Loc} (X : Stand p l e R s m args below meth c T locs cells slots) (X' : Stand p l e R s m args below meth c T' L (cells + mc) (slots + ms)) (hz : zs T.heap T'.heap) : Stand p l e R s m args below meth c T' L cells slots := by
  obtain ⟨-, a1, a2, -, a4, -⟩ := X.same
  obtain ⟨b0, b1, b2, b3, b4, b5⟩ := X'.same
  have a2' : T.heap.size ≤ s.heap.size + cells := a2
  have a4' : ((T.heap.toList.drop s.heap.size).map (·.slots.size)).sum ≤ slots := a4
  have hsz : T'.heap.size = T.heap.size := by
    have := congrArg List.length hz
    simpa using this
  have hsum : ((T'.heap.toList.drop s.heap.size).map (·.slots.size)) = ((T.heap.toList.drop s.heap.size).map (·.slots.size)) := by
    rw [List.map_drop, List.map_drop]
    unfold zs at hz
    rw [hz]
  refine { X' with same := ⟨b0, b1, ?_, b3, ?_, b5⟩ }
  · show T'.heap.size ≤ s.heap.size + cells
    omega
  · show ((T'.heap.toList.drop s.heap.size).map (·.slots.size)).sum ≤ slots
    rw [hsum]; exact a4'
end HPZ
