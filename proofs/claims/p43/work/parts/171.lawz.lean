/-! THE CONSTANTS AT THE LAW'S START -/
abbrev AD (s : State) : Nat → Prop := fun q => s.heap.size ≤ q
abbrev nwL : List Cond := flatC (Jvm.Cond.and given_1 narrow_1)
def kSt (i : Nat) : Nat := [111, 120, 122, 124, 126, 128, 169, 171, 173].getD i 0
abbrev tSt (i : Nat) : Term := .string "CartArgumentsLaw" (kSt i)
abbrev tDo : Term := .static "java/lang/Integer" "DigitOnes" "[B"
abbrev tDt : Term := .static "java/lang/Integer" "DigitTens" "[B"
def pS (i : Nat) : Nat := [217, 222, 228, 234, 242, 251, 261, 272, 284].getD i 0
def pQ (i j : Nat) : Nat := ([[0, 227, 232, 239, 247, 256, 266, 277, 289], [0, 0, 233, 240, 248, 257, 267, 278, 290], [0, 0, 0, 241, 249, 258, 268, 279, 291], [0, 0, 0, 0, 250, 259, 269, 280, 292], [0, 0, 0, 0, 0, 260, 270, 281, 293], [0, 0, 0, 0, 0, 0, 271, 282, 294], [0, 0, 0, 0, 0, 0, 0, 283, 295], [0, 0, 0, 0, 0, 0, 0, 0, 296], [0, 0, 0, 0, 0, 0, 0, 0, 0]].getD i []).getD j 0
theorem nw_at {args : Array Value} {s : State} (h : (Jvm.Cond.and given_1 narrow_1).before args s = true) {w : Cond} (n : Nat) (hn : nwL[n]? = some w) : w.before args s = true := flat_of_before _ h w (List.mem_of_getElem? hn)
theorem z_ex : ∀ i : Fin 9, nwL[pS i.val]? = some (Cond.exactly (tSt i.val) "java/lang/String") := by decide +kernel
theorem z_co : ∀ i : Fin 9, nwL[pS i.val + 1]? = some (Cond.eq (.field (tSt i.val) "java/lang/String" "coder" "B") (.int 0)) := by decide +kernel
theorem z_ar : ∀ i : Fin 9, nwL[pS i.val + 2]? = some (Cond.arrayOf (.field (tSt i.val) "java/lang/String" "value" "[B") .byte) := by decide +kernel
theorem z_le : ∀ i : Fin 9, nwL[pS i.val + 3]? = some (Cond.eq (.length (.field (tSt i.val) "java/lang/String" "value" "[B")) (.int (Int32.ofNat (xLen.getD i.val 0)))) := by decide +kernel
theorem z_el : ∀ i : Fin 9, ∀ j : Fin 12, j.val < xLen.getD i.val 0 → nwL[pS i.val + 4 + j.val]? = some (Cond.eq (.elem (.field (tSt i.val) "java/lang/String" "value" "[B") (.int (Int32.ofNat j.val))) (.int ((xBy.getD i.val []).getD j.val 0))) := by decide +kernel
theorem z_ne : ∀ i j : Fin 9, i.val < j.val → nwL[pQ i.val j.val]? = some (Cond.not (Cond.eq (tSt i.val) (tSt j.val))) := by decide +kernel
theorem z_12 : ∀ i : Fin 9, xLen.getD i.val 0 ≤ 12 := by decide +kernel
theorem z_do : ∀ i : Fin 100, nwL[10 + i.val]? = some (Cond.eq (.elem tDo (.int (Int32.ofNat i.val))) (.int (nI (48 + i.val % 10)))) := by decide +kernel
theorem z_dt : ∀ i : Fin 100, nwL[113 + i.val]? = some (Cond.eq (.elem tDt (.int (Int32.ofNat i.val))) (.int (nI (48 + i.val / 10)))) := by decide +kernel
theorem va_TX {b L : Nat} {xs : Nat → Int32} {s : State} {A : Nat → Prop} (h : va_X b L xs s s.heap) (hA : ¬ A b) : va_T .int b L (fun k => .int (xs k)) A s s.heap := by
  obtain ⟨scr, h1, h2, h3, h4, h5⟩ := h
  exact ⟨scr, h1, h2, h3, Nat.le_of_eq h4.symm, by rw [h4], h5, hA⟩
theorem law_zX {b L : Nat} {xs : Nat → Int32} {s : State} (hgv : (Jvm.Cond.and given_1 narrow_1).before #[Value.ref b] s = true) (hts : ∀ w ∈ lw_tbl, w.before #[Value.ref b] s = true) (hXs : va_X b L xs s s.heap) (hbl : b < s.heap.size) : ∃ g : XG, zX g (AD s) s s.heap ∧ zT9 g s ∧ xB g = b ∧ xL g = L := by
  have hA : ∀ a : Nat, a < s.heap.size → ¬ AD s a := fun a h => Nat.not_le.mpr h
  obtain ⟨adK, adV, hS, hSt⟩ := vk_Sof (args := #[Value.ref b]) (s := s) (N := 9) (tm := tSt) (len := xLen) (byt := xBy) (A := AD s) (fun i hi => Nat.lt_of_le_of_lt (z_12 ⟨i, hi⟩) (by decide)) (fun i hi => nw_at hgv _ (z_ex ⟨i, hi⟩)) (fun i hi => nw_at hgv _ (z_co ⟨i, hi⟩)) (fun i hi => nw_at hgv _ (z_ar ⟨i, hi⟩)) (fun i hi => nw_at hgv _ (z_le ⟨i, hi⟩)) (fun i hi j hj => nw_at hgv _ (z_el ⟨i, hi⟩ ⟨j, Nat.lt_of_lt_of_le hj (z_12 ⟨i, hi⟩)⟩ hj)) (fun i j hi hj hij => by
    rcases Nat.lt_or_gt_of_ne hij with h | h
    · exact Or.inl (nw_at hgv _ (z_ne ⟨i, hi⟩ ⟨j, hj⟩ h))
    · exact Or.inr (nw_at hgv _ (z_ne ⟨j, hj⟩ ⟨i, hi⟩ h))) hA
  have hex : (Cond.exactly (.static "CartArguments$Command" "PREMISE" "LCartArguments$Command;") RX2).before #[Value.ref b] s = true := nw_at hgv 4 (by decide +kernel)
  obtain ⟨e0, c0, cA0, kA0, q1, -⟩ := Cond.exactly_spec (args := #[Value.ref b]) (first := s) (o := none) (s := s) (idx := []) (t := .static "CartArguments$Command" "PREMISE" "LCartArguments$Command;") (cls := RX2) hex
  obtain ⟨tO, eO, hTO⟩ := va_Tof (args := #[Value.ref b]) (s := s) (tm := tDo) (ty := .byte) (N := 100) (f := fun k => .int (nI (48 + k % 10))) (A := AD s) (by decide) (nw_at hgv 8 (by decide +kernel)) (va_eqt (nw_at hgv 9 (by decide +kernel))) (fun j hj => va_eqt (nw_at hgv _ (z_do ⟨j, hj⟩))) hA
  obtain ⟨tD, eD, hTD⟩ := va_Tof (args := #[Value.ref b]) (s := s) (tm := tDt) (ty := .byte) (N := 100) (f := fun k => .int (nI (48 + k / 10))) (A := AD s) (by decide) (nw_at hgv 111 (by decide +kernel)) (va_eqt (nw_at hgv 112 (by decide +kernel))) (fun j hj => va_eqt (nw_at hgv _ (z_dt ⟨j, hj⟩))) hA
  refine ⟨((fun _ => e0), adK, adV, 0, 0, tO, tD, b, L, xs), ⟨hS, ?_, ?_, ?_, hTO, ?_, hTD, ?_, va_TX hXs (hA b hbl), ?_⟩, ⟨vk_R.of (hts _ (List.mem_of_getElem? (i := 1027) (by decide +kernel))) (hSt 0 (by decide)), vk_R.of (hts _ (List.mem_of_getElem? (i := 1028) (by decide +kernel))) (hSt 1 (by decide)), vk_R.of (hts _ (List.mem_of_getElem? (i := 1029) (by decide +kernel))) (hSt 2 (by decide)), vk_R.of (hts _ (List.mem_of_getElem? (i := 1030) (by decide +kernel))) (hSt 3 (by decide)), vk_R.of (hts _ (List.mem_of_getElem? (i := 1031) (by decide +kernel))) (hSt 4 (by decide)), vk_R.of (hts _ (List.mem_of_getElem? (i := 1032) (by decide +kernel))) (hSt 5 (by decide)), vk_R.of (hts _ (List.mem_of_getElem? (i := 1034) (by decide +kernel))) (hSt 6 (by decide)), vk_R.of (hts _ (List.mem_of_getElem? (i := 1035) (by decide +kernel))) (hSt 7 (by decide)), vk_R.of (hts _ (List.mem_of_getElem? (i := 1036) (by decide +kernel))) (hSt 8 (by decide))⟩, rfl, rfl⟩
  · exact va_Zof (hts _ (List.mem_of_getElem? (i := 258) (by decide +kernel))) (hts _ (List.mem_of_getElem? (i := 22) (by decide +kernel))) q1 hA
  · exact va_Zof (hts _ (List.mem_of_getElem? (i := 285) (by decide +kernel))) (hts _ (List.mem_of_getElem? (i := 25) (by decide +kernel))) (va_eqi (nw_at hgv 6 (by decide +kernel))) hA
  · exact va_Zof (hts _ (List.mem_of_getElem? (i := 620) (by decide +kernel))) (hts _ (List.mem_of_getElem? (i := 29) (by decide +kernel))) eO hA
  · exact va_Zof (hts _ (List.mem_of_getElem? (i := 622) (by decide +kernel))) (hts _ (List.mem_of_getElem? (i := 29) (by decide +kernel))) eD hA
  · exact va_Zqof (hts _ (List.mem_of_getElem? (i := 636) (by decide +kernel))) (hts _ (List.mem_of_getElem? (i := 32) (by decide +kernel))) (nw_at hgv 213 (by decide +kernel)) hA
  · exact va_tabs (c := .castable "[B" "java/lang/Cloneable") rfl rfl (hts _ (List.mem_of_getElem? (i := 582) (by decide +kernel)))
