theorem k_firstAt (n : Nat) (α : hp_T) (a : Nat) (l : List (Nat × Nat × Bool)) (hW : WC α a l) (hl : l.length ≤ 64) (v : Nat) (vI : Int32) (h1 : vI.toInt = (v : Int)) (hv : v < l.length) : ws (f_X8_firstAt n α a vI) (fun r => r.toInt = (l[v].1 : Int)) := by
  have L64 := t_64
  have h9 := hW.1
  have hq := hW.2 _ _ (List.getElem?_eq_getElem hv)
  have hc : vI.toNatClampNeg = v := cl_n h1
  unfold f_X8_firstAt
  refine ws_lt (fun e => by rw [lt0] at e; omega) (fun _ => ws_l (ws_le (fun e => by omega) (fun _ => ws_l (ws_le (fun e => by omega) (fun _ => ws_l (ws_g (by omega) (by omega) (ws_s ?_)))))))
  rw [hc]
  exact hq.1
theorem k_manyAt (n : Nat) (α : hp_T) (a : Nat) (l : List (Nat × Nat × Bool)) (hW : WC α a l) (hl : l.length ≤ 64) (v : Nat) (vI : Int32) (h1 : vI.toInt = (v : Int)) (hv : v < l.length) : ws (f_X8_manyAt n α a vI) (fun r => r.toInt = (l[v].2.1 : Int)) := by
  have L64 := t_64
  have h9 := hW.1
  have hq := hW.2 _ _ (List.getElem?_eq_getElem hv)
  have hc : vI.toNatClampNeg = v := cl_n h1
  unfold f_X8_manyAt
  refine ws_lt (fun e => by rw [lt0] at e; omega) (fun _ => ws_l (ws_le (fun e => by omega) (fun _ => ws_l (ws_le (fun e => by omega) (fun _ => ws_l (ws_g (by omega) (by omega) (ws_s ?_)))))))
  rw [hc]
  exact hq.2.1
