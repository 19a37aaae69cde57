/-! THE CONSTANTS AT THE LAW'S START -/
abbrev nwL : List Cond := flatC (Jvm.Cond.and given_1 narrow_1)
def kSt (i : Nat) : Nat := [55, 61, 64, 67, 70, 73, 76, 79, 82].getD i 0
def kNm (i : Nat) : String := ["PREMISE", "CONCLUSION", "CART", "ROAD", "LOAD", "UNLOAD", "SWAP", "TRIP", "GREASE"].getD i ""
abbrev tSt (i : Nat) : Term := .string "CartArguments$Command" (kSt i)
abbrev tCm (i : Nat) : Term := .static "CartArguments$Command" (kNm i) "LCartArguments$Command;"
abbrev tCs : Term := .static "CartArguments$Input" "COMMANDS" "[LCartArguments$Command;"
abbrev tSw : Term := .static "CartArguments$1" "$SwitchMap$CartArguments$Command" "[I"
abbrev tDo : Term := .static "java/lang/Integer" "DigitOnes" "[B"
abbrev tDt : Term := .static "java/lang/Integer" "DigitTens" "[B"
def pS (i : Nat) : Nat := [304, 317, 334, 346, 363, 380, 397, 416, 435].getD i 0
def pE (i : Nat) : Nat := [4, 244, 248, 253, 259, 266, 274, 283, 293].getD i 0
def pO (i : Nat) : Nat := [5, 245, 249, 254, 260, 267, 275, 284, 294].getD i 0
def pF (i : Nat) : Nat := [6, 246, 250, 255, 261, 268, 276, 285, 295].getD i 0
def pQ (i j : Nat) : Nat := ([[0, 333, 344, 360, 376, 392, 410, 428, 447], [0, 0, 345, 361, 377, 393, 411, 429, 448], [0, 0, 0, 362, 378, 394, 412, 430, 449], [0, 0, 0, 0, 379, 395, 413, 431, 450], [0, 0, 0, 0, 0, 396, 414, 432, 451], [0, 0, 0, 0, 0, 0, 415, 433, 452], [0, 0, 0, 0, 0, 0, 0, 434, 453], [0, 0, 0, 0, 0, 0, 0, 0, 454], [0, 0, 0, 0, 0, 0, 0, 0, 0]].getD i []).getD j 0
theorem nw_at {args : Array Value} {s : State} (h : (Jvm.Cond.and given_1 narrow_1).before args s = true) {w : Cond} (n : Nat) (hn : nwL[n]? = some w) : w.before args s = true := flat_of_before _ h w (List.mem_of_getElem? hn)
theorem z_ex : ∀ i : Fin 9, nwL[pS i.val]? = some (Cond.exactly (tSt i.val) "java/lang/String") := by decide +kernel
theorem z_co : ∀ i : Fin 9, nwL[pS i.val + 1]? = some (Cond.eq (.field (tSt i.val) "java/lang/String" "coder" "B") (.int 0)) := by decide +kernel
theorem z_ar : ∀ i : Fin 9, nwL[pS i.val + 2]? = some (Cond.arrayOf (.field (tSt i.val) "java/lang/String" "value" "[B") .byte) := by decide +kernel
theorem z_le : ∀ i : Fin 9, nwL[pS i.val + 3]? = some (Cond.eq (.length (.field (tSt i.val) "java/lang/String" "value" "[B")) (.int (Int32.ofNat (xLen.getD i.val 0)))) := by decide +kernel
theorem z_el : ∀ i : Fin 9, ∀ j : Fin 12, j.val < xLen.getD i.val 0 → nwL[pS i.val + 4 + j.val]? = some (Cond.eq (.elem (.field (tSt i.val) "java/lang/String" "value" "[B") (.int (Int32.ofNat j.val))) (.int ((xBy.getD i.val []).getD j.val 0))) := by decide +kernel
theorem z_ne : ∀ i j : Fin 9, i.val < j.val → nwL[pQ i.val j.val]? = some (Cond.not (Cond.eq (tSt i.val) (tSt j.val))) := by decide +kernel
theorem z_12 : ∀ i : Fin 9, xLen.getD i.val 0 ≤ 12 := by decide +kernel
theorem z_cm : ∀ i : Fin 9, nwL[pE i.val]? = some (Cond.exactly (tCm i.val) RX2) ∧ nwL[pO i.val]? = some (Cond.eq (.field (tCm i.val) "java/lang/Enum" "ordinal" "I") (.int (nI i.val))) ∧ nwL[pF i.val]? = some (Cond.eq (.field (tCm i.val) RX2 "form" "Ljava/lang/String;") (tSt i.val)) ∧ nwL[13 + i.val]? = some (Cond.eq (.elem tCs (.int (Int32.ofNat i.val))) (tCm i.val)) ∧ nwL[29 + i.val]? = some (Cond.eq (.elem tSw (.int (Int32.ofNat i.val))) (.int (nI (i.val + 1)))) := by decide +kernel
theorem z_do : ∀ i : Fin 100, nwL[41 + i.val]? = some (Cond.eq (.elem tDo (.int (Int32.ofNat i.val))) (.int (nI (48 + i.val % 10)))) := by decide +kernel
theorem z_dt : ∀ i : Fin 100, nwL[144 + i.val]? = some (Cond.eq (.elem tDt (.int (Int32.ofNat i.val))) (.int (nI (48 + i.val / 10)))) := by decide +kernel
theorem law_zX {args : Array Value} {s : State} (hgv : (Jvm.Cond.and given_1 narrow_1).before args s = true) (hts : ∀ w ∈ lw_tbl, w.before args s = true) : ∃ g : XG, zX g (AD s) s s.heap := by
  have hA : ∀ a : Nat, a < s.heap.size → ¬ AD s a := fun a h => Nat.not_le.mpr h
  obtain ⟨adK, adV, hS, hSt⟩ := vk_Sof (args := args) (s := s) (N := 9) (tm := tSt) (len := xLen) (byt := xBy) (A := AD s) (fun i hi => Nat.lt_of_le_of_lt (z_12 ⟨i, hi⟩) (by decide)) (fun i hi => nw_at hgv _ (z_ex ⟨i, hi⟩)) (fun i hi => nw_at hgv _ (z_co ⟨i, hi⟩)) (fun i hi => nw_at hgv _ (z_ar ⟨i, hi⟩)) (fun i hi => nw_at hgv _ (z_le ⟨i, hi⟩)) (fun i hi j hj => nw_at hgv _ (z_el ⟨i, hi⟩ ⟨j, Nat.lt_of_lt_of_le hj (z_12 ⟨i, hi⟩)⟩ hj)) (fun i j hi hj hij => by
    rcases Nat.lt_or_gt_of_ne hij with h | h
    · exact Or.inl (nw_at hgv _ (z_ne ⟨i, hi⟩ ⟨j, hj⟩ h))
    · exact Or.inr (nw_at hgv _ (z_ne ⟨j, hj⟩ ⟨i, hi⟩ h))) hA
  have h0 : ∀ i : Nat, ∃ a : Nat, i < 9 → (tCm i).eval args s none [] s = some (.ref a) ∧ va_O RX2 a (AD s) s s.heap := by
    intro i
    by_cases hi : i < 9
    · have hex := nw_at hgv _ (z_cm ⟨i, hi⟩).1
      obtain ⟨a, c, cA, kA, q1, q2, q3, q4, q5, q6, -⟩ := Cond.exactly_spec (args := args) (first := s) (o := none) (s := s) (idx := []) (t := tCm i) (cls := RX2) hex
      exact ⟨a, fun _ => ⟨q1, va_Oof hex q1 hA⟩⟩
    · exact ⟨0, fun h => absurd h hi⟩
  obtain ⟨ad, had⟩ := Classical.axiomOfChoice h0
  obtain ⟨tC, eC, hTC⟩ := va_Tof (args := args) (s := s) (tm := tCs) (ty := .object RX2) (N := 9) (f := fun k => .ref (ad k)) (A := AD s) (by decide) (nw_at hgv 10 (by decide +kernel)) (va_eqt (nw_at hgv 11 (by decide +kernel))) (fun j hj => va_eqv (nw_at hgv _ (z_cm ⟨j, hj⟩).2.2.2.1) (had j hj).1) hA
  obtain ⟨tS, eS, hTS⟩ := va_Tof (args := args) (s := s) (tm := tSw) (ty := .int) (N := 9) (f := fun k => .int (nI (k + 1))) (A := AD s) (by decide) (nw_at hgv 27 (by decide +kernel)) (va_eqt (nw_at hgv 28 (by decide +kernel))) (fun j hj => va_eqt (nw_at hgv _ (z_cm ⟨j, hj⟩).2.2.2.2)) hA
  obtain ⟨tO, eO, hTO⟩ := va_Tof (args := args) (s := s) (tm := tDo) (ty := .byte) (N := 100) (f := fun k => .int (nI (48 + k % 10))) (A := AD s) (by decide) (nw_at hgv 39 (by decide +kernel)) (va_eqt (nw_at hgv 40 (by decide +kernel))) (fun j hj => va_eqt (nw_at hgv _ (z_do ⟨j, hj⟩))) hA
  obtain ⟨tD, eD, hTD⟩ := va_Tof (args := args) (s := s) (tm := tDt) (ty := .byte) (N := 100) (f := fun k => .int (nI (48 + k / 10))) (A := AD s) (by decide) (nw_at hgv 142 (by decide +kernel)) (va_eqt (nw_at hgv 143 (by decide +kernel))) (fun j hj => va_eqt (nw_at hgv _ (z_dt ⟨j, hj⟩))) hA
  refine ⟨(ad, adK, adV, tC, tS, tO, tD), hS, fun i hi => ⟨(had i hi).2, vk_OFof (had i hi).1 (va_eqv (nw_at hgv _ (z_cm ⟨i, hi⟩).2.2.1) (hSt i hi)) hA, vk_OFof (had i hi).1 (va_eqt (nw_at hgv _ (z_cm ⟨i, hi⟩).2.1)) hA⟩, ?_, hTC, ?_, ?_, hTS, ?_, ?_, hTO, ?_, hTD, ?_⟩
  · exact va_Zof (hts _ (List.mem_of_getElem? (i := 622) (by decide +kernel))) (hts _ (List.mem_of_getElem? (i := 73) (by decide +kernel))) eC hA
  · exact va_Zof (hts _ (List.mem_of_getElem? (i := 318) (by decide +kernel))) (hts _ (List.mem_of_getElem? (i := 75) (by decide +kernel))) (had 0 (by decide)).1 hA
  · exact va_Zof (hts _ (List.mem_of_getElem? (i := 699) (by decide +kernel))) (hts _ (List.mem_of_getElem? (i := 85) (by decide +kernel))) eS hA
  · exact va_Zof (hts _ (List.mem_of_getElem? (i := 350) (by decide +kernel))) (hts _ (List.mem_of_getElem? (i := 78) (by decide +kernel))) (va_eqi (nw_at hgv 7 (by decide +kernel))) hA
  · exact va_Zof (hts _ (List.mem_of_getElem? (i := 950) (by decide +kernel))) (hts _ (List.mem_of_getElem? (i := 88) (by decide +kernel))) eO hA
  · exact va_Zof (hts _ (List.mem_of_getElem? (i := 952) (by decide +kernel))) (hts _ (List.mem_of_getElem? (i := 88) (by decide +kernel))) eD hA
  · exact va_Zqof (hts _ (List.mem_of_getElem? (i := 651) (by decide +kernel))) (hts _ (List.mem_of_getElem? (i := 84) (by decide +kernel))) (nw_at hgv 22 (by decide +kernel)) hA
