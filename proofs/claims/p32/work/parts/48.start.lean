/-! ===== the law's start ===== -/
def nr_L : List Cond := flatC (Jvm.Cond.and given_1 narrow_1)
def hp_tm (i : Nat) : Term := ([.string "ProvenRecord" 498, .string "ProvenRecord" 496, .string "ProvenRecord" 422, .string "ProvenRecord" 420, .string "ProvenRecord" 418, .string "ProvenRecord" 429, .string "ProvenRecord" 500, .string "ProvenRecord$Reader" 86, .string "ProvenRecord$Reader" 186, .string "ProvenRecord$Reader" 97, .string "ProvenRecord$Reader" 107, .string "ProvenRecord$Reader" 129, .string "ProvenRecord" 427, .string "ProvenRecord$Reader" 166, .string "ProvenRecord$Reader" 127, .string "ProvenRecord" 409, .string "ProvenRecord$Reader" 161, .string "ProvenRecord$Reader" 69, .string "ProvenRecord$Reader" 156, .string "ProvenRecord$Reader" 112, .string "ProvenRecord$Reader" 92] : List Term).getD i (.arg 0)
theorem tx_ex {args : Array Value} {s : State} (hs : ∀ c ∈ nr_L, c.before args s = true) : ∀ i, i < 21 → (Cond.exactly (hp_tm i) "java/lang/String").before args s = true := by
  intro i hi
  match i, hi with
  | 0, _ => exact hs _ (List.mem_of_getElem? (i := 139) (by decide +kernel))
  | 1, _ => exact hs _ (List.mem_of_getElem? (i := 132) (by decide +kernel))
  | 2, _ => exact hs _ (List.mem_of_getElem? (i := 122) (by decide +kernel))
  | 3, _ => exact hs _ (List.mem_of_getElem? (i := 112) (by decide +kernel))
  | 4, _ => exact hs _ (List.mem_of_getElem? (i := 104) (by decide +kernel))
  | 5, _ => exact hs _ (List.mem_of_getElem? (i := 158) (by decide +kernel))
  | 6, _ => exact hs _ (List.mem_of_getElem? (i := 144) (by decide +kernel))
  | 7, _ => exact hs _ (List.mem_of_getElem? (i := 16) (by decide +kernel))
  | 8, _ => exact hs _ (List.mem_of_getElem? (i := 91) (by decide +kernel))
  | 9, _ => exact hs _ (List.mem_of_getElem? (i := 29) (by decide +kernel))
  | 10, _ => exact hs _ (List.mem_of_getElem? (i := 37) (by decide +kernel))
  | 11, _ => exact hs _ (List.mem_of_getElem? (i := 61) (by decide +kernel))
  | 12, _ => exact hs _ (List.mem_of_getElem? (i := 149) (by decide +kernel))
  | 13, _ => exact hs _ (List.mem_of_getElem? (i := 83) (by decide +kernel))
  | 14, _ => exact hs _ (List.mem_of_getElem? (i := 55) (by decide +kernel))
  | 15, _ => exact hs _ (List.mem_of_getElem? (i := 97) (by decide +kernel))
  | 16, _ => exact hs _ (List.mem_of_getElem? (i := 75) (by decide +kernel))
  | 17, _ => exact hs _ (List.mem_of_getElem? (i := 9) (by decide +kernel))
  | 18, _ => exact hs _ (List.mem_of_getElem? (i := 69) (by decide +kernel))
  | 19, _ => exact hs _ (List.mem_of_getElem? (i := 47) (by decide +kernel))
  | 20, _ => exact hs _ (List.mem_of_getElem? (i := 23) (by decide +kernel))
  | i + 21, h => exact absurd h (by omega)
theorem tx_co {args : Array Value} {s : State} (hs : ∀ c ∈ nr_L, c.before args s = true) : ∀ i, i < 21 → (Cond.eq (.field (hp_tm i) "java/lang/String" "coder" "B") (.int 0)).before args s = true := by
  intro i hi
  match i, hi with
  | 0, _ => exact hs _ (List.mem_of_getElem? (i := 140) (by decide +kernel))
  | 1, _ => exact hs _ (List.mem_of_getElem? (i := 133) (by decide +kernel))
  | 2, _ => exact hs _ (List.mem_of_getElem? (i := 123) (by decide +kernel))
  | 3, _ => exact hs _ (List.mem_of_getElem? (i := 113) (by decide +kernel))
  | 4, _ => exact hs _ (List.mem_of_getElem? (i := 105) (by decide +kernel))
  | 5, _ => exact hs _ (List.mem_of_getElem? (i := 159) (by decide +kernel))
  | 6, _ => exact hs _ (List.mem_of_getElem? (i := 145) (by decide +kernel))
  | 7, _ => exact hs _ (List.mem_of_getElem? (i := 17) (by decide +kernel))
  | 8, _ => exact hs _ (List.mem_of_getElem? (i := 92) (by decide +kernel))
  | 9, _ => exact hs _ (List.mem_of_getElem? (i := 30) (by decide +kernel))
  | 10, _ => exact hs _ (List.mem_of_getElem? (i := 38) (by decide +kernel))
  | 11, _ => exact hs _ (List.mem_of_getElem? (i := 62) (by decide +kernel))
  | 12, _ => exact hs _ (List.mem_of_getElem? (i := 150) (by decide +kernel))
  | 13, _ => exact hs _ (List.mem_of_getElem? (i := 84) (by decide +kernel))
  | 14, _ => exact hs _ (List.mem_of_getElem? (i := 56) (by decide +kernel))
  | 15, _ => exact hs _ (List.mem_of_getElem? (i := 98) (by decide +kernel))
  | 16, _ => exact hs _ (List.mem_of_getElem? (i := 76) (by decide +kernel))
  | 17, _ => exact hs _ (List.mem_of_getElem? (i := 10) (by decide +kernel))
  | 18, _ => exact hs _ (List.mem_of_getElem? (i := 70) (by decide +kernel))
  | 19, _ => exact hs _ (List.mem_of_getElem? (i := 48) (by decide +kernel))
  | 20, _ => exact hs _ (List.mem_of_getElem? (i := 24) (by decide +kernel))
  | i + 21, h => exact absurd h (by omega)
theorem tx_ar {args : Array Value} {s : State} (hs : ∀ c ∈ nr_L, c.before args s = true) : ∀ i, i < 21 → (Cond.arrayOf (.field (hp_tm i) "java/lang/String" "value" "[B") .byte).before args s = true := by
  intro i hi
  match i, hi with
  | 0, _ => exact hs _ (List.mem_of_getElem? (i := 141) (by decide +kernel))
  | 1, _ => exact hs _ (List.mem_of_getElem? (i := 134) (by decide +kernel))
  | 2, _ => exact hs _ (List.mem_of_getElem? (i := 124) (by decide +kernel))
  | 3, _ => exact hs _ (List.mem_of_getElem? (i := 114) (by decide +kernel))
  | 4, _ => exact hs _ (List.mem_of_getElem? (i := 106) (by decide +kernel))
  | 5, _ => exact hs _ (List.mem_of_getElem? (i := 160) (by decide +kernel))
  | 6, _ => exact hs _ (List.mem_of_getElem? (i := 146) (by decide +kernel))
  | 7, _ => exact hs _ (List.mem_of_getElem? (i := 18) (by decide +kernel))
  | 8, _ => exact hs _ (List.mem_of_getElem? (i := 93) (by decide +kernel))
  | 9, _ => exact hs _ (List.mem_of_getElem? (i := 31) (by decide +kernel))
  | 10, _ => exact hs _ (List.mem_of_getElem? (i := 39) (by decide +kernel))
  | 11, _ => exact hs _ (List.mem_of_getElem? (i := 63) (by decide +kernel))
  | 12, _ => exact hs _ (List.mem_of_getElem? (i := 151) (by decide +kernel))
  | 13, _ => exact hs _ (List.mem_of_getElem? (i := 85) (by decide +kernel))
  | 14, _ => exact hs _ (List.mem_of_getElem? (i := 57) (by decide +kernel))
  | 15, _ => exact hs _ (List.mem_of_getElem? (i := 99) (by decide +kernel))
  | 16, _ => exact hs _ (List.mem_of_getElem? (i := 77) (by decide +kernel))
  | 17, _ => exact hs _ (List.mem_of_getElem? (i := 11) (by decide +kernel))
  | 18, _ => exact hs _ (List.mem_of_getElem? (i := 71) (by decide +kernel))
  | 19, _ => exact hs _ (List.mem_of_getElem? (i := 49) (by decide +kernel))
  | 20, _ => exact hs _ (List.mem_of_getElem? (i := 25) (by decide +kernel))
  | i + 21, h => exact absurd h (by omega)
theorem tx_le {args : Array Value} {s : State} (hs : ∀ c ∈ nr_L, c.before args s = true) : ∀ i, i < 21 → (Cond.eq (.length (.field (hp_tm i) "java/lang/String" "value" "[B")) (.int (Int32.ofNat (hp_sn.getD i 0)))).before args s = true := by
  intro i hi
  match i, hi with
  | 0, _ => exact hs _ (List.mem_of_getElem? (i := 142) (by decide +kernel))
  | 1, _ => exact hs _ (List.mem_of_getElem? (i := 135) (by decide +kernel))
  | 2, _ => exact hs _ (List.mem_of_getElem? (i := 125) (by decide +kernel))
  | 3, _ => exact hs _ (List.mem_of_getElem? (i := 115) (by decide +kernel))
  | 4, _ => exact hs _ (List.mem_of_getElem? (i := 107) (by decide +kernel))
  | 5, _ => exact hs _ (List.mem_of_getElem? (i := 161) (by decide +kernel))
  | 6, _ => exact hs _ (List.mem_of_getElem? (i := 147) (by decide +kernel))
  | 7, _ => exact hs _ (List.mem_of_getElem? (i := 19) (by decide +kernel))
  | 8, _ => exact hs _ (List.mem_of_getElem? (i := 94) (by decide +kernel))
  | 9, _ => exact hs _ (List.mem_of_getElem? (i := 32) (by decide +kernel))
  | 10, _ => exact hs _ (List.mem_of_getElem? (i := 40) (by decide +kernel))
  | 11, _ => exact hs _ (List.mem_of_getElem? (i := 64) (by decide +kernel))
  | 12, _ => exact hs _ (List.mem_of_getElem? (i := 152) (by decide +kernel))
  | 13, _ => exact hs _ (List.mem_of_getElem? (i := 86) (by decide +kernel))
  | 14, _ => exact hs _ (List.mem_of_getElem? (i := 58) (by decide +kernel))
  | 15, _ => exact hs _ (List.mem_of_getElem? (i := 100) (by decide +kernel))
  | 16, _ => exact hs _ (List.mem_of_getElem? (i := 78) (by decide +kernel))
  | 17, _ => exact hs _ (List.mem_of_getElem? (i := 12) (by decide +kernel))
  | 18, _ => exact hs _ (List.mem_of_getElem? (i := 72) (by decide +kernel))
  | 19, _ => exact hs _ (List.mem_of_getElem? (i := 50) (by decide +kernel))
  | 20, _ => exact hs _ (List.mem_of_getElem? (i := 26) (by decide +kernel))
  | i + 21, h => exact absurd h (by omega)
theorem tx_el0 {args : Array Value} {s : State} (hs : ∀ c ∈ nr_L, c.before args s = true) : ∀ j, j < 1 → (Cond.eq (.elem (.field (hp_tm 0) "java/lang/String" "value" "[B") (.int (Int32.ofNat j))) (.int ((hp_sb.getD 0 []).getD j 0))).before args s = true := by
  intro j hj
  match j, hj with
  | 0, _ => exact hs _ (List.mem_of_getElem? (i := 143) (by decide +kernel))
  | j + 1, h => exact absurd h (by omega)
theorem tx_el1 {args : Array Value} {s : State} (hs : ∀ c ∈ nr_L, c.before args s = true) : ∀ j, j < 3 → (Cond.eq (.elem (.field (hp_tm 1) "java/lang/String" "value" "[B") (.int (Int32.ofNat j))) (.int ((hp_sb.getD 1 []).getD j 0))).before args s = true := by
  intro j hj
  match j, hj with
  | 0, _ => exact hs _ (List.mem_of_getElem? (i := 136) (by decide +kernel))
  | 1, _ => exact hs _ (List.mem_of_getElem? (i := 137) (by decide +kernel))
  | 2, _ => exact hs _ (List.mem_of_getElem? (i := 138) (by decide +kernel))
  | j + 3, h => exact absurd h (by omega)
theorem tx_el2 {args : Array Value} {s : State} (hs : ∀ c ∈ nr_L, c.before args s = true) : ∀ j, j < 6 → (Cond.eq (.elem (.field (hp_tm 2) "java/lang/String" "value" "[B") (.int (Int32.ofNat j))) (.int ((hp_sb.getD 2 []).getD j 0))).before args s = true := by
  intro j hj
  match j, hj with
  | 0, _ => exact hs _ (List.mem_of_getElem? (i := 126) (by decide +kernel))
  | 1, _ => exact hs _ (List.mem_of_getElem? (i := 127) (by decide +kernel))
  | 2, _ => exact hs _ (List.mem_of_getElem? (i := 128) (by decide +kernel))
  | 3, _ => exact hs _ (List.mem_of_getElem? (i := 129) (by decide +kernel))
  | 4, _ => exact hs _ (List.mem_of_getElem? (i := 130) (by decide +kernel))
  | 5, _ => exact hs _ (List.mem_of_getElem? (i := 131) (by decide +kernel))
  | j + 6, h => exact absurd h (by omega)
theorem tx_el3 {args : Array Value} {s : State} (hs : ∀ c ∈ nr_L, c.before args s = true) : ∀ j, j < 6 → (Cond.eq (.elem (.field (hp_tm 3) "java/lang/String" "value" "[B") (.int (Int32.ofNat j))) (.int ((hp_sb.getD 3 []).getD j 0))).before args s = true := by
  intro j hj
  match j, hj with
  | 0, _ => exact hs _ (List.mem_of_getElem? (i := 116) (by decide +kernel))
  | 1, _ => exact hs _ (List.mem_of_getElem? (i := 117) (by decide +kernel))
  | 2, _ => exact hs _ (List.mem_of_getElem? (i := 118) (by decide +kernel))
  | 3, _ => exact hs _ (List.mem_of_getElem? (i := 119) (by decide +kernel))
  | 4, _ => exact hs _ (List.mem_of_getElem? (i := 120) (by decide +kernel))
  | 5, _ => exact hs _ (List.mem_of_getElem? (i := 121) (by decide +kernel))
  | j + 6, h => exact absurd h (by omega)
theorem tx_el4 {args : Array Value} {s : State} (hs : ∀ c ∈ nr_L, c.before args s = true) : ∀ j, j < 4 → (Cond.eq (.elem (.field (hp_tm 4) "java/lang/String" "value" "[B") (.int (Int32.ofNat j))) (.int ((hp_sb.getD 4 []).getD j 0))).before args s = true := by
  intro j hj
  match j, hj with
  | 0, _ => exact hs _ (List.mem_of_getElem? (i := 108) (by decide +kernel))
  | 1, _ => exact hs _ (List.mem_of_getElem? (i := 109) (by decide +kernel))
  | 2, _ => exact hs _ (List.mem_of_getElem? (i := 110) (by decide +kernel))
  | 3, _ => exact hs _ (List.mem_of_getElem? (i := 111) (by decide +kernel))
  | j + 4, h => exact absurd h (by omega)
theorem tx_el5 {args : Array Value} {s : State} (hs : ∀ c ∈ nr_L, c.before args s = true) : ∀ j, j < 4 → (Cond.eq (.elem (.field (hp_tm 5) "java/lang/String" "value" "[B") (.int (Int32.ofNat j))) (.int ((hp_sb.getD 5 []).getD j 0))).before args s = true := by
  intro j hj
  match j, hj with
  | 0, _ => exact hs _ (List.mem_of_getElem? (i := 162) (by decide +kernel))
  | 1, _ => exact hs _ (List.mem_of_getElem? (i := 163) (by decide +kernel))
  | 2, _ => exact hs _ (List.mem_of_getElem? (i := 164) (by decide +kernel))
  | 3, _ => exact hs _ (List.mem_of_getElem? (i := 165) (by decide +kernel))
  | j + 4, h => exact absurd h (by omega)
theorem tx_el6 {args : Array Value} {s : State} (hs : ∀ c ∈ nr_L, c.before args s = true) : ∀ j, j < 1 → (Cond.eq (.elem (.field (hp_tm 6) "java/lang/String" "value" "[B") (.int (Int32.ofNat j))) (.int ((hp_sb.getD 6 []).getD j 0))).before args s = true := by
  intro j hj
  match j, hj with
  | 0, _ => exact hs _ (List.mem_of_getElem? (i := 148) (by decide +kernel))
  | j + 1, h => exact absurd h (by omega)
theorem tx_el7 {args : Array Value} {s : State} (hs : ∀ c ∈ nr_L, c.before args s = true) : ∀ j, j < 3 → (Cond.eq (.elem (.field (hp_tm 7) "java/lang/String" "value" "[B") (.int (Int32.ofNat j))) (.int ((hp_sb.getD 7 []).getD j 0))).before args s = true := by
  intro j hj
  match j, hj with
  | 0, _ => exact hs _ (List.mem_of_getElem? (i := 20) (by decide +kernel))
  | 1, _ => exact hs _ (List.mem_of_getElem? (i := 21) (by decide +kernel))
  | 2, _ => exact hs _ (List.mem_of_getElem? (i := 22) (by decide +kernel))
  | j + 3, h => exact absurd h (by omega)
theorem tx_el8 {args : Array Value} {s : State} (hs : ∀ c ∈ nr_L, c.before args s = true) : ∀ j, j < 2 → (Cond.eq (.elem (.field (hp_tm 8) "java/lang/String" "value" "[B") (.int (Int32.ofNat j))) (.int ((hp_sb.getD 8 []).getD j 0))).before args s = true := by
  intro j hj
  match j, hj with
  | 0, _ => exact hs _ (List.mem_of_getElem? (i := 95) (by decide +kernel))
  | 1, _ => exact hs _ (List.mem_of_getElem? (i := 96) (by decide +kernel))
  | j + 2, h => exact absurd h (by omega)
theorem tx_el9 {args : Array Value} {s : State} (hs : ∀ c ∈ nr_L, c.before args s = true) : ∀ j, j < 4 → (Cond.eq (.elem (.field (hp_tm 9) "java/lang/String" "value" "[B") (.int (Int32.ofNat j))) (.int ((hp_sb.getD 9 []).getD j 0))).before args s = true := by
  intro j hj
  match j, hj with
  | 0, _ => exact hs _ (List.mem_of_getElem? (i := 33) (by decide +kernel))
  | 1, _ => exact hs _ (List.mem_of_getElem? (i := 34) (by decide +kernel))
  | 2, _ => exact hs _ (List.mem_of_getElem? (i := 35) (by decide +kernel))
  | 3, _ => exact hs _ (List.mem_of_getElem? (i := 36) (by decide +kernel))
  | j + 4, h => exact absurd h (by omega)
theorem tx_el10 {args : Array Value} {s : State} (hs : ∀ c ∈ nr_L, c.before args s = true) : ∀ j, j < 6 → (Cond.eq (.elem (.field (hp_tm 10) "java/lang/String" "value" "[B") (.int (Int32.ofNat j))) (.int ((hp_sb.getD 10 []).getD j 0))).before args s = true := by
  intro j hj
  match j, hj with
  | 0, _ => exact hs _ (List.mem_of_getElem? (i := 41) (by decide +kernel))
  | 1, _ => exact hs _ (List.mem_of_getElem? (i := 42) (by decide +kernel))
  | 2, _ => exact hs _ (List.mem_of_getElem? (i := 43) (by decide +kernel))
  | 3, _ => exact hs _ (List.mem_of_getElem? (i := 44) (by decide +kernel))
  | 4, _ => exact hs _ (List.mem_of_getElem? (i := 45) (by decide +kernel))
  | 5, _ => exact hs _ (List.mem_of_getElem? (i := 46) (by decide +kernel))
  | j + 6, h => exact absurd h (by omega)
theorem tx_el11 {args : Array Value} {s : State} (hs : ∀ c ∈ nr_L, c.before args s = true) : ∀ j, j < 4 → (Cond.eq (.elem (.field (hp_tm 11) "java/lang/String" "value" "[B") (.int (Int32.ofNat j))) (.int ((hp_sb.getD 11 []).getD j 0))).before args s = true := by
  intro j hj
  match j, hj with
  | 0, _ => exact hs _ (List.mem_of_getElem? (i := 65) (by decide +kernel))
  | 1, _ => exact hs _ (List.mem_of_getElem? (i := 66) (by decide +kernel))
  | 2, _ => exact hs _ (List.mem_of_getElem? (i := 67) (by decide +kernel))
  | 3, _ => exact hs _ (List.mem_of_getElem? (i := 68) (by decide +kernel))
  | j + 4, h => exact absurd h (by omega)
theorem tx_el12 {args : Array Value} {s : State} (hs : ∀ c ∈ nr_L, c.before args s = true) : ∀ j, j < 5 → (Cond.eq (.elem (.field (hp_tm 12) "java/lang/String" "value" "[B") (.int (Int32.ofNat j))) (.int ((hp_sb.getD 12 []).getD j 0))).before args s = true := by
  intro j hj
  match j, hj with
  | 0, _ => exact hs _ (List.mem_of_getElem? (i := 153) (by decide +kernel))
  | 1, _ => exact hs _ (List.mem_of_getElem? (i := 154) (by decide +kernel))
  | 2, _ => exact hs _ (List.mem_of_getElem? (i := 155) (by decide +kernel))
  | 3, _ => exact hs _ (List.mem_of_getElem? (i := 156) (by decide +kernel))
  | 4, _ => exact hs _ (List.mem_of_getElem? (i := 157) (by decide +kernel))
  | j + 5, h => exact absurd h (by omega)
theorem tx_el13 {args : Array Value} {s : State} (hs : ∀ c ∈ nr_L, c.before args s = true) : ∀ j, j < 4 → (Cond.eq (.elem (.field (hp_tm 13) "java/lang/String" "value" "[B") (.int (Int32.ofNat j))) (.int ((hp_sb.getD 13 []).getD j 0))).before args s = true := by
  intro j hj
  match j, hj with
  | 0, _ => exact hs _ (List.mem_of_getElem? (i := 87) (by decide +kernel))
  | 1, _ => exact hs _ (List.mem_of_getElem? (i := 88) (by decide +kernel))
  | 2, _ => exact hs _ (List.mem_of_getElem? (i := 89) (by decide +kernel))
  | 3, _ => exact hs _ (List.mem_of_getElem? (i := 90) (by decide +kernel))
  | j + 4, h => exact absurd h (by omega)
theorem tx_el14 {args : Array Value} {s : State} (hs : ∀ c ∈ nr_L, c.before args s = true) : ∀ j, j < 2 → (Cond.eq (.elem (.field (hp_tm 14) "java/lang/String" "value" "[B") (.int (Int32.ofNat j))) (.int ((hp_sb.getD 14 []).getD j 0))).before args s = true := by
  intro j hj
  match j, hj with
  | 0, _ => exact hs _ (List.mem_of_getElem? (i := 59) (by decide +kernel))
  | 1, _ => exact hs _ (List.mem_of_getElem? (i := 60) (by decide +kernel))
  | j + 2, h => exact absurd h (by omega)
theorem tx_el15 {args : Array Value} {s : State} (hs : ∀ c ∈ nr_L, c.before args s = true) : ∀ j, j < 3 → (Cond.eq (.elem (.field (hp_tm 15) "java/lang/String" "value" "[B") (.int (Int32.ofNat j))) (.int ((hp_sb.getD 15 []).getD j 0))).before args s = true := by
  intro j hj
  match j, hj with
  | 0, _ => exact hs _ (List.mem_of_getElem? (i := 101) (by decide +kernel))
  | 1, _ => exact hs _ (List.mem_of_getElem? (i := 102) (by decide +kernel))
  | 2, _ => exact hs _ (List.mem_of_getElem? (i := 103) (by decide +kernel))
  | j + 3, h => exact absurd h (by omega)
theorem tx_el16 {args : Array Value} {s : State} (hs : ∀ c ∈ nr_L, c.before args s = true) : ∀ j, j < 4 → (Cond.eq (.elem (.field (hp_tm 16) "java/lang/String" "value" "[B") (.int (Int32.ofNat j))) (.int ((hp_sb.getD 16 []).getD j 0))).before args s = true := by
  intro j hj
  match j, hj with
  | 0, _ => exact hs _ (List.mem_of_getElem? (i := 79) (by decide +kernel))
  | 1, _ => exact hs _ (List.mem_of_getElem? (i := 80) (by decide +kernel))
  | 2, _ => exact hs _ (List.mem_of_getElem? (i := 81) (by decide +kernel))
  | 3, _ => exact hs _ (List.mem_of_getElem? (i := 82) (by decide +kernel))
  | j + 4, h => exact absurd h (by omega)
theorem tx_el17 {args : Array Value} {s : State} (hs : ∀ c ∈ nr_L, c.before args s = true) : ∀ j, j < 3 → (Cond.eq (.elem (.field (hp_tm 17) "java/lang/String" "value" "[B") (.int (Int32.ofNat j))) (.int ((hp_sb.getD 17 []).getD j 0))).before args s = true := by
  intro j hj
  match j, hj with
  | 0, _ => exact hs _ (List.mem_of_getElem? (i := 13) (by decide +kernel))
  | 1, _ => exact hs _ (List.mem_of_getElem? (i := 14) (by decide +kernel))
  | 2, _ => exact hs _ (List.mem_of_getElem? (i := 15) (by decide +kernel))
  | j + 3, h => exact absurd h (by omega)
theorem tx_el18 {args : Array Value} {s : State} (hs : ∀ c ∈ nr_L, c.before args s = true) : ∀ j, j < 2 → (Cond.eq (.elem (.field (hp_tm 18) "java/lang/String" "value" "[B") (.int (Int32.ofNat j))) (.int ((hp_sb.getD 18 []).getD j 0))).before args s = true := by
  intro j hj
  match j, hj with
  | 0, _ => exact hs _ (List.mem_of_getElem? (i := 73) (by decide +kernel))
  | 1, _ => exact hs _ (List.mem_of_getElem? (i := 74) (by decide +kernel))
  | j + 2, h => exact absurd h (by omega)
theorem tx_el19 {args : Array Value} {s : State} (hs : ∀ c ∈ nr_L, c.before args s = true) : ∀ j, j < 4 → (Cond.eq (.elem (.field (hp_tm 19) "java/lang/String" "value" "[B") (.int (Int32.ofNat j))) (.int ((hp_sb.getD 19 []).getD j 0))).before args s = true := by
  intro j hj
  match j, hj with
  | 0, _ => exact hs _ (List.mem_of_getElem? (i := 51) (by decide +kernel))
  | 1, _ => exact hs _ (List.mem_of_getElem? (i := 52) (by decide +kernel))
  | 2, _ => exact hs _ (List.mem_of_getElem? (i := 53) (by decide +kernel))
  | 3, _ => exact hs _ (List.mem_of_getElem? (i := 54) (by decide +kernel))
  | j + 4, h => exact absurd h (by omega)
theorem tx_el20 {args : Array Value} {s : State} (hs : ∀ c ∈ nr_L, c.before args s = true) : ∀ j, j < 2 → (Cond.eq (.elem (.field (hp_tm 20) "java/lang/String" "value" "[B") (.int (Int32.ofNat j))) (.int ((hp_sb.getD 20 []).getD j 0))).before args s = true := by
  intro j hj
  match j, hj with
  | 0, _ => exact hs _ (List.mem_of_getElem? (i := 27) (by decide +kernel))
  | 1, _ => exact hs _ (List.mem_of_getElem? (i := 28) (by decide +kernel))
  | j + 2, h => exact absurd h (by omega)
theorem tx_el {args : Array Value} {s : State} (hs : ∀ c ∈ nr_L, c.before args s = true) : ∀ i, i < 21 → ∀ j, j < hp_sn.getD i 0 → (Cond.eq (.elem (.field (hp_tm i) "java/lang/String" "value" "[B") (.int (Int32.ofNat j))) (.int ((hp_sb.getD i []).getD j 0))).before args s = true := by
  intro i hi
  match i, hi with
  | 0, _ => exact tx_el0 hs
  | 1, _ => exact tx_el1 hs
  | 2, _ => exact tx_el2 hs
  | 3, _ => exact tx_el3 hs
  | 4, _ => exact tx_el4 hs
  | 5, _ => exact tx_el5 hs
  | 6, _ => exact tx_el6 hs
  | 7, _ => exact tx_el7 hs
  | 8, _ => exact tx_el8 hs
  | 9, _ => exact tx_el9 hs
  | 10, _ => exact tx_el10 hs
  | 11, _ => exact tx_el11 hs
  | 12, _ => exact tx_el12 hs
  | 13, _ => exact tx_el13 hs
  | 14, _ => exact tx_el14 hs
  | 15, _ => exact tx_el15 hs
  | 16, _ => exact tx_el16 hs
  | 17, _ => exact tx_el17 hs
  | 18, _ => exact tx_el18 hs
  | 19, _ => exact tx_el19 hs
  | 20, _ => exact tx_el20 hs
  | i + 21, h => exact absurd h (by omega)
theorem tx_df : ∀ i, i < 21 → ∀ j, j < 21 → hp_sn.getD i 0 = hp_sn.getD j 0 → (∀ k, k < hp_sn.getD i 0 → (hp_sb.getD i []).getD k 0 = (hp_sb.getD j []).getD k 0) → i = j := by decide +kernel
theorem tx_n8 : ∀ i, i < 21 → hp_sn.getD i 0 < 8 := by decide +kernel
theorem tx_nn {a b : Nat} (ha : a < 8) (hb : b < 8) (h : Int32.ofNat a = Int32.ofNat b) : a = b := by
  have h1 := congrArg Int32.toInt h
  have e : ∀ n, n < 8 → (Int32.ofNat n).toInt = (n : Int) := by decide +kernel
  rw [e a ha, e b hb] at h1
  omega
theorem tx_all {args : Array Value} {s : State} (hs : ∀ c ∈ nr_L, c.before args s = true) {A : Nat → Prop} (hA : ∀ a : Nat, a < s.heap.size → ¬ A a) : ∃ adK adV : Nat → Nat, vk_S 21 hp_sn hp_sb adK adV A s s.heap ∧ ∀ i : Nat, i < 21 → (hp_tm i).eval args s none [] s = some (.ref (adK i)) := by
  have h0 : ∀ i : Nat, ∃ q : Nat × Nat, i < 21 → (hp_tm i).eval args s none [] s = some (.ref q.1) ∧ va_O "java/lang/String" q.1 A s s.heap ∧ va_OF "java/lang/String" "coder" "B" (.int 0) q.1 A s s.heap ∧ va_OF "java/lang/String" "value" "[B" (.ref q.2) q.1 A s s.heap ∧ va_T .byte q.2 (hp_sn.getD i 0) (fun j => .int ((hp_sb.getD i []).getD j 0)) A s s.heap := by
    intro i
    by_cases hi : i < 21
    · obtain ⟨a, c, cA, kA, q1, q2, q3, q4, q5, q6, -⟩ := Cond.exactly_spec (args := args) (first := s) (o := none) (s := s) (idx := []) (t := hp_tm i) (cls := "java/lang/String") (tx_ex hs i hi)
      obtain ⟨t, ht, hT⟩ := va_Tof (f := fun j => .int ((hp_sb.getD i []).getD j 0)) (A := A) (Nat.lt_of_lt_of_le (tx_n8 i hi) (by decide)) (tx_ar hs i hi) (va_eqt (tx_le hs i hi)) (fun j hj => va_eqt (tx_el hs i hi j hj)) hA
      exact ⟨(a, t), fun _ => ⟨q1, ⟨cA, q3, q5, by rw [q6]; exact q2, hA a (Array.getElem?_eq_some_iff.mp q3).1⟩, vk_OFof q1 (va_eqt (tx_co hs i hi)) hA, vk_OFof q1 ht hA, hT⟩⟩
    · exact ⟨(0, 0), fun h => absurd h hi⟩
  obtain ⟨ad, had⟩ := Classical.axiomOfChoice h0
  refine ⟨fun i => (ad i).1, fun i => (ad i).2, ⟨fun i hi => (had i hi).2, fun i j hi hj e => ?_⟩, fun i hi => (had i hi).1⟩
  obtain ⟨-, -, -, ⟨c1, k1, f1, d1, l1, a1, a2, a3, a4, a5, -⟩, ⟨t1, u1, u2, u3, u4, u5, u6, u7⟩⟩ := had i hi
  obtain ⟨-, -, -, ⟨c2, k2, f2, d2, l2, b1, b2, b3, b4, b5, -⟩, ⟨t2, v1, v2, v3, v4, v5, v6, v7⟩⟩ := had j hj
  dsimp only at e
  rw [e] at a3
  have e1 : l1 = l2 := Option.some.inj (a3.symm.trans b3)
  have e2 : (c1, k1, f1, d1) = (c2, k2, f2, d2) := Option.some.inj (a1.symm.trans b1)
  have e3 : d1 = d2 := by injection e2 with _ q; injection q with _ q; injection q with _ q
  subst e1; subst e3
  have e4 : (ad i).2 = (ad j).2 := by
    have := Option.some.inj (a5.symm.trans b5)
    injection this
  rw [e4] at u1
  have e5 : t1 = t2 := Option.some.inj (u1.symm.trans v1)
  subst e5
  have e6 : hp_sn.getD i 0 = hp_sn.getD j 0 := tx_nn (tx_n8 i hi) (tx_n8 j hj) (u5.symm.trans v5)
  refine tx_df i hi j hj e6 (fun k hk => ?_)
  have := Option.some.inj ((u6 k hk).symm.trans (v6 k (by omega)))
  injection this
theorem tx_R {args : Array Value} {s : State} (hs : ∀ c ∈ nr_L, c.before args s = true) {adK : Nat → Nat} (hts : ∀ w ∈ lw_tbl, w.before args s = true) (he : ∀ i : Nat, i < 21 → (hp_tm i).eval args s none [] s = some (.ref (adK i))) : ∀ q ∈ hp_sl, vk_R q.1 q.2.1 q.2.2.1 (adK q.2.2.2) s := by
  intro q hq
  unfold hp_sl at hq
  simp only [List.mem_cons, List.not_mem_nil, or_false] at hq
  rcases hq with rfl | rfl | rfl | rfl | rfl | rfl | rfl | rfl | rfl | rfl | rfl | rfl | rfl | rfl | rfl | rfl | rfl | rfl | rfl | rfl | rfl | rfl | rfl | rfl | rfl | rfl | rfl
  · exact vk_R.of (A := args) (hts _ (tm_6_4 (List.mem_of_getElem? (i := 6) rfl))) (he 15 (by decide))
  · exact vk_R.of (A := args) (hts _ (tm_6_5 (List.mem_of_getElem? (i := 5) rfl))) (he 4 (by decide))
  · exact vk_R.of (A := args) (hts _ (tm_6_5 (List.mem_of_getElem? (i := 6) rfl))) (he 3 (by decide))
  · exact vk_R.of (A := args) (hts _ (tm_6_5 (List.mem_of_getElem? (i := 7) rfl))) (he 2 (by decide))
  · exact vk_R.of (A := args) (hts _ (tm_6_6 (List.mem_of_getElem? (i := 3) rfl))) (he 12 (by decide))
  · exact vk_R.of (A := args) (hts _ (tm_6_6 (List.mem_of_getElem? (i := 4) rfl))) (he 5 (by decide))
  · exact vk_R.of (A := args) (hts _ (tm_6_5 (List.mem_of_getElem? (i := 12) rfl))) (he 1 (by decide))
  · exact vk_R.of (A := args) (hts _ (tm_6_5 (List.mem_of_getElem? (i := 13) rfl))) (he 0 (by decide))
  · exact vk_R.of (A := args) (hts _ (tm_6_5 (List.mem_of_getElem? (i := 14) rfl))) (he 6 (by decide))
  · exact vk_R.of (A := args) (hts _ (tm_3_5 (List.mem_of_getElem? (i := 4) rfl))) (he 10 (by decide))
  · exact vk_R.of (A := args) (hts _ (tm_3_5 (List.mem_of_getElem? (i := 5) rfl))) (he 19 (by decide))
  · exact vk_R.of (A := args) (hts _ (tb_4 (List.mem_of_getElem? (i := 4) rfl))) (he 14 (by decide))
  · exact vk_R.of (A := args) (hts _ (tb_4 (List.mem_of_getElem? (i := 5) rfl))) (he 11 (by decide))
  · exact vk_R.of (A := args) (hts _ (tb_4 (List.mem_of_getElem? (i := 11) rfl))) (he 18 (by decide))
  · exact vk_R.of (A := args) (hts _ (tm_4_1 (List.mem_of_getElem? (i := 0) rfl))) (he 16 (by decide))
  · exact vk_R.of (A := args) (hts _ (tm_4_1 (List.mem_of_getElem? (i := 5) rfl))) (he 13 (by decide))
  · exact vk_R.of (A := args) (hts _ (tm_4_1 (List.mem_of_getElem? (i := 10) rfl))) (he 8 (by decide))
  · exact vk_R.of (A := args) (hts _ (tm_2_13 (List.mem_of_getElem? (i := 14) rfl))) (he 17 (by decide))
  · exact vk_R.of (A := args) (hts _ (tm_3_3 (List.mem_of_getElem? (i := 12) rfl))) (he 7 (by decide))
  · exact vk_R.of (A := args) (hts _ (tm_3_5 (List.mem_of_getElem? (i := 2) rfl))) (he 20 (by decide))
  · exact vk_R.of (A := args) (hts _ (tm_3_5 (List.mem_of_getElem? (i := 3) rfl))) (he 9 (by decide))
  · exact vk_R.of (A := args) (hts _ (tm_9_4 (List.mem_of_getElem? (i := 11) rfl))) (va_eqR (hs _ (List.mem_of_getElem? (i := 172) (by decide +kernel))) (he 14 (by decide)))
  · exact vk_R.of (A := args) (hts _ (tm_9_5 (List.mem_of_getElem? (i := 10) rfl))) (va_eqR (hs _ (List.mem_of_getElem? (i := 179) (by decide +kernel))) (he 18 (by decide)))
  · exact vk_R.of (A := args) (hts _ (tm_9_5 (List.mem_of_getElem? (i := 11) rfl))) (va_eqR (hs _ (List.mem_of_getElem? (i := 188) (by decide +kernel))) (he 16 (by decide)))
  · exact vk_R.of (A := args) (hts _ (tm_9_5 (List.mem_of_getElem? (i := 12) rfl))) (va_eqR (hs _ (List.mem_of_getElem? (i := 197) (by decide +kernel))) (he 13 (by decide)))
  · exact vk_R.of (A := args) (hts _ (tm_9_6 (List.mem_of_getElem? (i := 5) rfl))) (va_eqR (hs _ (List.mem_of_getElem? (i := 206) (by decide +kernel))) (he 11 (by decide)))
  · exact vk_R.of (A := args) (hts _ (tm_9_6 (List.mem_of_getElem? (i := 6) rfl))) (va_eqR (hs _ (List.mem_of_getElem? (i := 213) (by decide +kernel))) (he 20 (by decide)))
theorem st_cls {args : Array Value} {s : State} (hts : ∀ w ∈ lw_u, w.before args s = true) : ∃ (dC : Nat → ClassId) (dI : Nat → Nat → Nat), ∀ (k : Nat) (q : vw_C), vwCl[k]? = some q → u_Kn s q.1 q.2.1 q.2.2 (dC k) (dI k) := by
  have h0 : ∀ k : Nat, ∃ r : ClassId × (Nat → Nat), ∀ q : vw_C, vwCl[k]? = some q → u_Kn s q.1 q.2.1 q.2.2 r.1 r.2 := by
    intro k
    match k with
    | 0 =>
      obtain ⟨c, i, h⟩ := u_known (C := (hp_q 1).1) (T := (hp_q 1).2.1) (N := (hp_q 1).2.2) hts in_1 (hts _ it_X0)
      exact ⟨(c, i), fun q hq => by cases hq; exact h⟩
    | 1 =>
      obtain ⟨c, i, h⟩ := u_known (C := (hp_q 2).1) (T := (hp_q 2).2.1) (N := (hp_q 2).2.2) hts in_2 (hts _ it_X1)
      exact ⟨(c, i), fun q hq => by cases hq; exact h⟩
    | 2 =>
      obtain ⟨c, i, h⟩ := u_known (C := (hp_q 3).1) (T := (hp_q 3).2.1) (N := (hp_q 3).2.2) hts in_3 (hts _ it_X2)
      exact ⟨(c, i), fun q hq => by cases hq; exact h⟩
    | 3 =>
      obtain ⟨c, i, h⟩ := u_known (C := (hp_q 4).1) (T := (hp_q 4).2.1) (N := (hp_q 4).2.2) hts in_4 (hts _ it_X3)
      exact ⟨(c, i), fun q hq => by cases hq; exact h⟩
    | 4 =>
      obtain ⟨c, i, h⟩ := u_known (C := (hp_q 5).1) (T := (hp_q 5).2.1) (N := (hp_q 5).2.2) hts in_5 (hts _ it_X4)
      exact ⟨(c, i), fun q hq => by cases hq; exact h⟩
    | 5 =>
      obtain ⟨c, i, h⟩ := u_known (C := (hp_q 6).1) (T := (hp_q 6).2.1) (N := (hp_q 6).2.2) hts in_6 (hts _ it_X5)
      exact ⟨(c, i), fun q hq => by cases hq; exact h⟩
    | 6 =>
      obtain ⟨c, i, h⟩ := u_known (C := (hp_q 7).1) (T := (hp_q 7).2.1) (N := (hp_q 7).2.2) hts in_7 (hts _ it_X6)
      exact ⟨(c, i), fun q hq => by cases hq; exact h⟩
    | 7 =>
      obtain ⟨c, i, h⟩ := u_known (C := (hp_q 8).1) (T := (hp_q 8).2.1) (N := (hp_q 8).2.2) hts in_8 (hts _ it_X7)
      exact ⟨(c, i), fun q hq => by cases hq; exact h⟩
    | 8 =>
      obtain ⟨c, i, h⟩ := u_known (C := (hp_q 9).1) (T := (hp_q 9).2.1) (N := (hp_q 9).2.2) hts in_9 (hts _ it_X8)
      exact ⟨(c, i), fun q hq => by cases hq; exact h⟩
    | 9 =>
      obtain ⟨c, i, h⟩ := u_known (C := (hp_q 10).1) (T := (hp_q 10).2.1) (N := (hp_q 10).2.2) hts in_10 (hts _ it_X9)
      exact ⟨(c, i), fun q hq => by cases hq; exact h⟩
    | 10 =>
      obtain ⟨c, i, h⟩ := u_known (C := (hp_q 11).1) (T := (hp_q 11).2.1) (N := (hp_q 11).2.2) hts in_11 (hts _ it_X10)
      exact ⟨(c, i), fun q hq => by cases hq; exact h⟩
    | 11 =>
      obtain ⟨c, i, h⟩ := u_known (C := (hp_q 12).1) (T := (hp_q 12).2.1) (N := (hp_q 12).2.2) hts in_12 (hts _ it_X11)
      exact ⟨(c, i), fun q hq => by cases hq; exact h⟩
    | 12 =>
      obtain ⟨c, i, h⟩ := u_known (C := (hp_q 13).1) (T := (hp_q 13).2.1) (N := (hp_q 13).2.2) hts in_13 (hts _ it_X12)
      exact ⟨(c, i), fun q hq => by cases hq; exact h⟩
    | k + 13 => exact ⟨(0, fun _ => 0), fun q hq => by simp [vwCl] at hq⟩
  obtain ⟨f, hf⟩ := Classical.axiomOfChoice h0
  exact ⟨fun k => (f k).1, fun k => (f k).2, hf⟩
theorem st_prim {args : Array Value} {s : State} {ty : FieldType} (h : (Cond.arrayClass ty).before args s = true) (hRA : ∀ (U : State) (cA : ClassId), U.vm.findClass ("[" ++ ty.toString) = some cA → va_RA U cA ty) : ∃ cA : ClassId, ArrOfT s cA ty ∧ va_RA s cA ty := by
  obtain ⟨c, k, comp, h1, h2, h3⟩ := Cond.arrayClass_spec h
  exact ⟨c, fun N z => ⟨(fun k h => by cases h), k, h2, comp, h3⟩, hRA s c h1⟩
theorem st_obj {s : State} {C : String} (h : va_Nw (.arrayOver (.object C)) s) : ∃ cA : ClassId, ArrOfT s cA (.object C) ∧ va_RA s cA (.object C) := by
  obtain ⟨comp, c, k, h1, -, h3, h4, h5⟩ := Cond.arrayOver_spec h
  exact ⟨c, fun N z => ⟨(fun k h => by cases h), k, h3, comp, h4⟩, k, comp, h3, h4, h1, h5⟩
theorem st_row {args : Array Value} {s : State} (hts : ∀ w ∈ lw_u, w.before args s = true) (hN : ∀ w ∈ hp_nest, va_Nw w s) : ∃ dA : Nat → ClassId, ∀ (k : Nat) (q : ClassId × FieldType), (hp_tys dA)[k]? = some q → ArrOfT s q.1 q.2 ∧ va_RA s q.1 q.2 := by
  obtain ⟨c0, h0⟩ := st_prim (hts _ ac_int) (fun _ _ h => h)
  obtain ⟨c1, h1⟩ := st_prim (hts _ ac_byte) (fun _ _ h => h)
  obtain ⟨c2, h2⟩ := st_prim (hts _ ac_boolean) (fun _ _ h => h)
  obtain ⟨c3, h3⟩ := st_prim (hts _ ac_long) (fun _ _ h => h)
  obtain ⟨c4, h4⟩ := st_obj (hN _ ao_X2)
  obtain ⟨c5, h5⟩ := st_obj (hN _ ao_X1)
  obtain ⟨c6, h6⟩ := st_obj (hN _ ao_X7)
  obtain ⟨c7, h7⟩ := st_obj (hN _ ao_X9)
  refine ⟨fun t => ([c0, c1, c2, c3, c4, c5, c6, c7] : List ClassId).getD t 0, fun k q hq => ?_⟩
  match k, hq with
  | 0, hq => cases hq; exact h0
  | 1, hq => cases hq; exact h1
  | 2, hq => cases hq; exact h2
  | 3, hq => cases hq; exact h3
  | 4, hq => cases hq; exact h4
  | 5, hq => cases hq; exact h5
  | 6, hq => cases hq; exact h6
  | 7, hq => cases hq; exact h7
  | k + 8, hq => simp [hp_tys] at hq
theorem st_tab {args : Array Value} {s : State} (hts : ∀ w ∈ lw_tbl, w.before args s = true) : (∀ w ∈ lw_u, w.before args s = true) ∧ ∀ w ∈ hp_nest, va_Nw w s := by
  refine ⟨fun w hw => hts w (List.mem_filter.mp hw).1, fun w hw => ?_⟩
  have h1 := hts w (List.mem_filter.mp hw).1
  have h2 := (List.mem_filter.mp hw).2
  cases w with
  | methodLinkNest a b c d => exact va_tabs rfl rfl h1
  | arrayOver ty =>
    cases ty with
    | object C => exact h1
    | _ => cases h2
  | _ => cases h2
/-- what holds at the law's entry -/
theorem st_KK {args : Array Value} {s : State} (hts : ∀ w ∈ lw_tbl, w.before args s = true) (hgv : (Jvm.Cond.and given_1 narrow_1).before args s = true) : ∃ Γ : hp_G, Γ.1 = s.heap ∧ hp_KK Γ s := by
  have hs : ∀ c ∈ nr_L, c.before args s = true := flat_of_before _ hgv
  obtain ⟨hu, hN⟩ := st_tab hts
  obtain ⟨dC, dI, hc⟩ := st_cls hu
  obtain ⟨dA, hr⟩ := st_row hu hN
  have hA : ∀ a : Nat, a < s.heap.size → ¬ (fun q : Nat => s.heap.size ≤ q) a := fun a h q => Nat.not_le.mpr h q
  obtain ⟨adK, adV, hS, hE⟩ := tx_all hs (A := fun q : Nat => s.heap.size ≤ q) hA
  refine ⟨(s.heap, dC, dI, dA, adK, adV), rfl, ⟨hc, hr⟩, hN, tx_R hs hts hE, hS, va_Zof (hts _ (tm_2_14 (List.mem_of_getElem? (i := 12) rfl))) (hts _ (tb_1 (List.mem_of_getElem? (i := 14) rfl))) (va_eqt (hs _ (List.mem_of_getElem? (i := 4) (by decide +kernel)))) hA, va_Zqof (hts _ (tb_3 (List.mem_of_getElem? (i := 12) rfl))) (hts _ (tm_1_1 (List.mem_of_getElem? (i := 0) rfl))) (hs _ (List.mem_of_getElem? (i := 5) (by decide +kernel))) hA⟩
