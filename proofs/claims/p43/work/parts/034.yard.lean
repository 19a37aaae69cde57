/-! THE YARD (rows laid by wip/whole/gen) -/
abbrev rmX9_isThing : Room := { frames := 0, cells := 0, slots := 0, locals := 0 }
theorem in_X9_isThing_X9 : ∀ w ∈ u_ws RX9 TX9 16, w ∈ wsX9_isThing := by decide +kernel
set_option maxHeartbeats 4000000 in
set_option maxRecDepth 100000 in
theorem kX9_isThing {D : va_G} {ct : Nat → ClassId} {l : Launch} (a : Nat → Nat) (y : YS) (R : va_W) (x1 : Int32) : MI D ct l yX9_isThing wsX9_isThing rmX9_isThing (YW ct a y R) [.ref (a 0), .int (x1)] (fun r0 (_ : Unit) => r0 = bI (p_in x1 (y_n y))) (fun _ : Unit => YW ct a y R) := by
  refine MIof (cc := cX9_isThing) (maxL := 2) (ret := (some .boolean)) (by decide) rfl (Nat.le_of_ble_eq_true rfl) ?_
  intro p e s m args below meth c A H locs F hP hK hD hS hA ls hl
  obtain ⟨hx, hb, hr, hlocks, hml, hown, hts, hin⟩ := F
  have hl : lv_has ls 2 [(0, .ref (a 0)), (1, .int (x1))] := hl
  have h_X9 := in_X9_isThing_X9
  have f46 := hts (.fieldLink RX9 46 "CartArguments$Yard" "things" "I") (by decide +kernel)
  refine lv_iload_n hx hb dX9_isThing_0 rfl (lv_at hl 1 rfl) ?_
  refine lv_if_lt (tgt := 16) hx hb dX9_isThing_1 (by decide) (fun c1_1 => ?_) (fun c1_1 => ?_)
  · skip
    refine lv_iconst (v := nI (0)) hx hb dX9_isThing_16 (by decide) ?_
    exact zZret () (by decide) hx hb hr hlocks hK hP hD hS dX9_isThing_17 (show nI (0) = bI (p_in x1 (y_n y)) from (by simp only [bI, c1_1, p_in, p_worn, p_wi, not_true_eq_false, not_false_eq_true, if_true, if_false, and_true, true_and, and_false, false_and, or_true, true_or, or_false, false_or, and_self, or_self, iff_true, true_iff, iff_false, false_iff, decide_eq_true_eq, decide_true, decide_false, Int32.add_zero, Nat.add_zero, ne_eq, Bool.false_eq_true, eq_self]))
  · skip
    refine lv_iload_n hx hb dX9_isThing_4 rfl (lv_at hl 1 rfl) ?_
    refine lv_aload_n hx hb dX9_isThing_5 rfl (lv_at hl 0 rfl) ?_
    refine va_get (ci := 8) (v := .int (nI (y_n y))) hx hb hts h_X9 hown hK hP 0 rfl rfl 0 (by decide) f46 (fun _ h9 => h9) rfl dX9_isThing_6 ?_
    refine lv_icmp_ge (tgt := 16) hx hb dX9_isThing_9 (by decide) (fun c9_2 => ?_) (fun c9_2 => ?_)
    · skip
      refine lv_iconst (v := nI (0)) hx hb dX9_isThing_16 (by decide) ?_
      exact zZret () (by decide) hx hb hr hlocks hK hP hD hS dX9_isThing_17 (show nI (0) = bI (p_in x1 (y_n y)) from (by simp only [bI, c1_1, c9_2, p_in, p_worn, p_wi, not_true_eq_false, not_false_eq_true, if_true, if_false, and_true, true_and, and_false, false_and, or_true, true_or, or_false, false_or, and_self, or_self, iff_true, true_iff, iff_false, false_iff, decide_eq_true_eq, decide_true, decide_false, Int32.add_zero, Nat.add_zero, ne_eq, Bool.false_eq_true, eq_self]))
    · skip
      refine lv_iconst (v := nI (1)) hx hb dX9_isThing_12 (by decide) ?_
      refine lv_goto (tgt := 17) hx hb dX9_isThing_13 (by decide) ?_
      exact zZret () (by decide) hx hb hr hlocks hK hP hD hS dX9_isThing_17 (show nI (1) = bI (p_in x1 (y_n y)) from (by simp only [bI, c1_1, c9_2, p_in, p_worn, p_wi, not_true_eq_false, not_false_eq_true, if_true, if_false, and_true, true_and, and_false, false_and, or_true, true_or, or_false, false_or, and_self, or_self, iff_true, true_iff, iff_false, false_iff, decide_eq_true_eq, decide_true, decide_false, Int32.add_zero, Nat.add_zero, ne_eq, Bool.false_eq_true, eq_self]))
abbrev rmX9_isCart : Room := { frames := 0, cells := 0, slots := 0, locals := 0 }
theorem in_X9_isCart_X9 : ∀ w ∈ u_ws RX9 TX9 16, w ∈ wsX9_isCart := by decide +kernel
set_option maxHeartbeats 4000000 in
set_option maxRecDepth 100000 in
theorem kX9_isCart {D : va_G} {ct : Nat → ClassId} {l : Launch} (a : Nat → Nat) (y : YS) (R : va_W) (x1 : Int32) : MI D ct l yX9_isCart wsX9_isCart rmX9_isCart (YW ct a y R) [.ref (a 0), .int (x1)] (fun r0 (_ : Unit) => r0 = bI (p_in x1 (y_cn y))) (fun _ : Unit => YW ct a y R) := by
  refine MIof (cc := cX9_isCart) (maxL := 2) (ret := (some .boolean)) (by decide) rfl (Nat.le_of_ble_eq_true rfl) ?_
  intro p e s m args below meth c A H locs F hP hK hD hS hA ls hl
  obtain ⟨hx, hb, hr, hlocks, hml, hown, hts, hin⟩ := F
  have hl : lv_has ls 2 [(0, .ref (a 0)), (1, .int (x1))] := hl
  have h_X9 := in_X9_isCart_X9
  have f50 := hts (.fieldLink RX9 50 "CartArguments$Yard" "carts" "I") (by decide +kernel)
  refine lv_iload_n hx hb dX9_isCart_0 rfl (lv_at hl 1 rfl) ?_
  refine lv_if_lt (tgt := 16) hx hb dX9_isCart_1 (by decide) (fun c1_1 => ?_) (fun c1_1 => ?_)
  · skip
    refine lv_iconst (v := nI (0)) hx hb dX9_isCart_16 (by decide) ?_
    exact zZret () (by decide) hx hb hr hlocks hK hP hD hS dX9_isCart_17 (show nI (0) = bI (p_in x1 (y_cn y)) from (by simp only [bI, c1_1, p_in, p_worn, p_wi, not_true_eq_false, not_false_eq_true, if_true, if_false, and_true, true_and, and_false, false_and, or_true, true_or, or_false, false_or, and_self, or_self, iff_true, true_iff, iff_false, false_iff, decide_eq_true_eq, decide_true, decide_false, Int32.add_zero, Nat.add_zero, ne_eq, Bool.false_eq_true, eq_self]))
  · skip
    refine lv_iload_n hx hb dX9_isCart_4 rfl (lv_at hl 1 rfl) ?_
    refine lv_aload_n hx hb dX9_isCart_5 rfl (lv_at hl 0 rfl) ?_
    refine va_get (ci := 8) (v := .int (nI (y_cn y))) hx hb hts h_X9 hown hK hP 0 rfl rfl 5 (by decide) f50 (fun _ h9 => h9) rfl dX9_isCart_6 ?_
    refine lv_icmp_ge (tgt := 16) hx hb dX9_isCart_9 (by decide) (fun c9_2 => ?_) (fun c9_2 => ?_)
    · skip
      refine lv_iconst (v := nI (0)) hx hb dX9_isCart_16 (by decide) ?_
      exact zZret () (by decide) hx hb hr hlocks hK hP hD hS dX9_isCart_17 (show nI (0) = bI (p_in x1 (y_cn y)) from (by simp only [bI, c1_1, c9_2, p_in, p_worn, p_wi, not_true_eq_false, not_false_eq_true, if_true, if_false, and_true, true_and, and_false, false_and, or_true, true_or, or_false, false_or, and_self, or_self, iff_true, true_iff, iff_false, false_iff, decide_eq_true_eq, decide_true, decide_false, Int32.add_zero, Nat.add_zero, ne_eq, Bool.false_eq_true, eq_self]))
    · skip
      refine lv_iconst (v := nI (1)) hx hb dX9_isCart_12 (by decide) ?_
      refine lv_goto (tgt := 17) hx hb dX9_isCart_13 (by decide) ?_
      exact zZret () (by decide) hx hb hr hlocks hK hP hD hS dX9_isCart_17 (show nI (1) = bI (p_in x1 (y_cn y)) from (by simp only [bI, c1_1, c9_2, p_in, p_worn, p_wi, not_true_eq_false, not_false_eq_true, if_true, if_false, and_true, true_and, and_false, false_and, or_true, true_or, or_false, false_or, and_self, or_self, iff_true, true_iff, iff_false, false_iff, decide_eq_true_eq, decide_true, decide_false, Int32.add_zero, Nat.add_zero, ne_eq, Bool.false_eq_true, eq_self]))
abbrev rmX9_isRoad : Room := { frames := 0, cells := 0, slots := 0, locals := 0 }
theorem in_X9_isRoad_X9 : ∀ w ∈ u_ws RX9 TX9 16, w ∈ wsX9_isRoad := by decide +kernel
set_option maxHeartbeats 4000000 in
set_option maxRecDepth 100000 in
theorem kX9_isRoad {D : va_G} {ct : Nat → ClassId} {l : Launch} (a : Nat → Nat) (y : YS) (R : va_W) (x1 : Int32) : MI D ct l yX9_isRoad wsX9_isRoad rmX9_isRoad (YW ct a y R) [.ref (a 0), .int (x1)] (fun r0 (_ : Unit) => r0 = bI (p_in x1 (y_rn y))) (fun _ : Unit => YW ct a y R) := by
  refine MIof (cc := cX9_isRoad) (maxL := 2) (ret := (some .boolean)) (by decide) rfl (Nat.le_of_ble_eq_true rfl) ?_
  intro p e s m args below meth c A H locs F hP hK hD hS hA ls hl
  obtain ⟨hx, hb, hr, hlocks, hml, hown, hts, hin⟩ := F
  have hl : lv_has ls 2 [(0, .ref (a 0)), (1, .int (x1))] := hl
  have h_X9 := in_X9_isRoad_X9
  have f53 := hts (.fieldLink RX9 53 "CartArguments$Yard" "roads" "I") (by decide +kernel)
  refine lv_iload_n hx hb dX9_isRoad_0 rfl (lv_at hl 1 rfl) ?_
  refine lv_if_lt (tgt := 16) hx hb dX9_isRoad_1 (by decide) (fun c1_1 => ?_) (fun c1_1 => ?_)
  · skip
    refine lv_iconst (v := nI (0)) hx hb dX9_isRoad_16 (by decide) ?_
    exact zZret () (by decide) hx hb hr hlocks hK hP hD hS dX9_isRoad_17 (show nI (0) = bI (p_in x1 (y_rn y)) from (by simp only [bI, c1_1, p_in, p_worn, p_wi, not_true_eq_false, not_false_eq_true, if_true, if_false, and_true, true_and, and_false, false_and, or_true, true_or, or_false, false_or, and_self, or_self, iff_true, true_iff, iff_false, false_iff, decide_eq_true_eq, decide_true, decide_false, Int32.add_zero, Nat.add_zero, ne_eq, Bool.false_eq_true, eq_self]))
  · skip
    refine lv_iload_n hx hb dX9_isRoad_4 rfl (lv_at hl 1 rfl) ?_
    refine lv_aload_n hx hb dX9_isRoad_5 rfl (lv_at hl 0 rfl) ?_
    refine va_get (ci := 8) (v := .int (nI (y_rn y))) hx hb hts h_X9 hown hK hP 0 rfl rfl 9 (by decide) f53 (fun _ h9 => h9) rfl dX9_isRoad_6 ?_
    refine lv_icmp_ge (tgt := 16) hx hb dX9_isRoad_9 (by decide) (fun c9_2 => ?_) (fun c9_2 => ?_)
    · skip
      refine lv_iconst (v := nI (0)) hx hb dX9_isRoad_16 (by decide) ?_
      exact zZret () (by decide) hx hb hr hlocks hK hP hD hS dX9_isRoad_17 (show nI (0) = bI (p_in x1 (y_rn y)) from (by simp only [bI, c1_1, c9_2, p_in, p_worn, p_wi, not_true_eq_false, not_false_eq_true, if_true, if_false, and_true, true_and, and_false, false_and, or_true, true_or, or_false, false_or, and_self, or_self, iff_true, true_iff, iff_false, false_iff, decide_eq_true_eq, decide_true, decide_false, Int32.add_zero, Nat.add_zero, ne_eq, Bool.false_eq_true, eq_self]))
    · skip
      refine lv_iconst (v := nI (1)) hx hb dX9_isRoad_12 (by decide) ?_
      refine lv_goto (tgt := 17) hx hb dX9_isRoad_13 (by decide) ?_
      exact zZret () (by decide) hx hb hr hlocks hK hP hD hS dX9_isRoad_17 (show nI (1) = bI (p_in x1 (y_rn y)) from (by simp only [bI, c1_1, c9_2, p_in, p_worn, p_wi, not_true_eq_false, not_false_eq_true, if_true, if_false, and_true, true_and, and_false, false_and, or_true, true_or, or_false, false_or, and_self, or_self, iff_true, true_iff, iff_false, false_iff, decide_eq_true_eq, decide_true, decide_false, Int32.add_zero, Nat.add_zero, ne_eq, Bool.false_eq_true, eq_self]))
abbrev rmX9_thingAt : Room := { frames := 0, cells := 0, slots := 0, locals := 0 }
theorem in_X9_thingAt_X9 : ∀ w ∈ u_ws RX9 TX9 16, w ∈ wsX9_thingAt := by decide +kernel
set_option maxHeartbeats 4000000 in
set_option maxRecDepth 100000 in
theorem kX9_thingAt {D : va_G} {ct : Nat → ClassId} {l : Launch} (a : Nat → Nat) (y : YS) (R : va_W) (x1 : Int32) (x2 : Int32) (hn : y_n y ≤ 12) : MI D ct l yX9_thingAt wsX9_thingAt rmX9_thingAt (YW ct a y R) [.ref (a 0), .int (x1), .int (x2)] (fun r0 (_ : Unit) => r0 = t_at y x1 x2) (fun _ : Unit => YW ct a y R) := by
  refine MIof (cc := cX9_thingAt) (maxL := 4) (ret := (some .int)) (by decide) rfl (Nat.le_of_ble_eq_true rfl) ?_
  intro p e s m args below meth c A H locs F hP hK hD hS hA ls hl
  obtain ⟨hx, hb, hr, hlocks, hml, hown, hts, hin⟩ := F
  have hl : lv_has ls 4 [(0, .ref (a 0)), (1, .int (x1)), (2, .int (x2))] := hl
  have h_X9 := in_X9_thingAt_X9
  have f18 := hts (.fieldLink RX9 18 "CartArguments$Yard" "cartsUnder" "[I") (by decide +kernel)
  have f21 := hts (.fieldLink RX9 21 "CartArguments$Yard" "places" "[I") (by decide +kernel)
  have f46 := hts (.fieldLink RX9 46 "CartArguments$Yard" "things" "I") (by decide +kernel)
  refine lv_iconst (v := nI (0)) hx hb dX9_thingAt_0 (by decide) ?_
  refine lv_istore_n (lv' := [(3, .int (nI (0))), (0, .ref (a 0)), (1, .int (x1)), (2, .int (x2))]) hx hb dX9_thingAt_1 rfl hl (by decide) rfl (fun ls hl => ?_)
  have lp2 : ∀ (fu : Nat) (k : Nat) (H : Heap) (locs : List Loc) (ls : Array Slot), (k ≤ y_n y) → (∀ j, j < k → (fun k => decide (y_cu y k = x1 ∧ y_pl y k = x2)) j = false) → y_n y - k < fu → va_P D vwCl (YW ct a y R) H → va_D A (YW ct a y R) → va_S A s.heap H locs → lv_has ls 4 [(0, .ref (a 0)), (1, .int (x1)), (2, .int (x2)), (3, .int (nI (k)))] → W p l e rmX9_thingAt s m args below meth c H locs 0 0 (MQ below (va_Qi (fun r0 (_ : Unit) => r0 = t_at y x1 x2) (zB D ct A (fun _ : Unit => YW ct a y R)) A) args s rmX9_thingAt.cells rmX9_thingAt.slots A) (F0 m 2 ls []) := by
    intro fu
    induction fu with
    | zero => intro k H locs ls hk hno hfu; exact absurd hfu (Nat.not_lt_zero _)
    | succ fu ih2 =>
      intro k H locs ls hk hno hfu hP hD hS hl
      refine lv_iload_n hx hb dX9_thingAt_2 rfl (lv_at hl 3 rfl) ?_
      refine lv_aload_n hx hb dX9_thingAt_3 rfl (lv_at hl 0 rfl) ?_
      refine va_get (ci := 8) (v := .int (nI (y_n y))) hx hb hts h_X9 hown hK hP 0 rfl rfl 0 (by decide) f46 (fun _ h9 => h9) rfl dX9_thingAt_4 ?_
      refine zN_icmp_ge (tgt := 38) hx hb (by omega) (by omega) dX9_thingAt_7 (by decide) (fun c7_1 => ?_) (fun c7_1 => ?_)
      · skip
        refine lv_bipush (v := (-4)) hx hb dX9_thingAt_38 (by decide) ?_
        exact zIret () hx hb hr hlocks hK hP hD hS dX9_thingAt_40 (show (-4) = t_at y x1 x2 from (atI_none (fun j hj => hno j (by omega))).symm)
      · skip
        refine lv_aload_n hx hb dX9_thingAt_10 rfl (lv_at hl 0 rfl) ?_
        refine va_get (ci := 8) (v := .ref (a 3)) hx hb hts h_X9 hown hK hP 0 rfl rfl 3 (by decide) f18 (fun _ h9 => h9) rfl dX9_thingAt_11 ?_
        refine lv_iload_n hx hb dX9_thingAt_14 rfl (lv_at hl 3 rfl) ?_
        refine zIald (n := 12) (f := y_cu y) (i := k) hx hb hK hP 3 rfl (by omega) (by decide) dX9_thingAt_15 ?_
        refine lv_iload_n hx hb dX9_thingAt_16 rfl (lv_at hl 1 rfl) ?_
        refine lv_icmp_ne (tgt := 32) hx hb dX9_thingAt_17 (by decide) (fun c17_2 => ?_) (fun c17_2 => ?_)
        · skip
          refine lv_iinc (v := nI ((k + 1))) (lv' := [(3, .int (nI ((k + 1)))), (0, .ref (a 0)), (1, .int (x1)), (2, .int (x2))]) hx hb dX9_thingAt_32 hl (k := 3) rfl (zInc _) (by decide) rfl (fun ls hl => ?_)
          refine lv_goto (tgt := 2) hx hb dX9_thingAt_35 (by decide) ?_
          exact ih2 ((k + 1)) H locs ls (by omega) (lt_s hno (by simp only [c7_1, c17_2, p_in, p_worn, p_wi, not_true_eq_false, not_false_eq_true, if_true, if_false, and_true, true_and, and_false, false_and, or_true, true_or, or_false, false_or, and_self, or_self, iff_true, true_iff, iff_false, false_iff, decide_eq_true_eq, decide_true, decide_false, Int32.add_zero, Nat.add_zero, ne_eq, Bool.false_eq_true, eq_self])) (by omega) hP hD hS (lv_sub hl [1, 2, 3, 0] rfl)
        · skip
          refine lv_aload_n hx hb dX9_thingAt_20 rfl (lv_at hl 0 rfl) ?_
          refine va_get (ci := 8) (v := .ref (a 4)) hx hb hts h_X9 hown hK hP 0 rfl rfl 4 (by decide) f21 (fun _ h9 => h9) rfl dX9_thingAt_21 ?_
          refine lv_iload_n hx hb dX9_thingAt_24 rfl (lv_at hl 3 rfl) ?_
          refine zIald (n := 12) (f := y_pl y) (i := k) hx hb hK hP 4 rfl (by omega) (by decide) dX9_thingAt_25 ?_
          refine lv_iload_n hx hb dX9_thingAt_26 rfl (lv_at hl 2 rfl) ?_
          refine lv_icmp_ne (tgt := 32) hx hb dX9_thingAt_27 (by decide) (fun c27_3 => ?_) (fun c27_3 => ?_)
          · skip
            refine lv_iinc (v := nI ((k + 1))) (lv' := [(3, .int (nI ((k + 1)))), (0, .ref (a 0)), (1, .int (x1)), (2, .int (x2))]) hx hb dX9_thingAt_32 hl (k := 3) rfl (zInc _) (by decide) rfl (fun ls hl => ?_)
            refine lv_goto (tgt := 2) hx hb dX9_thingAt_35 (by decide) ?_
            exact ih2 ((k + 1)) H locs ls (by omega) (lt_s hno (by simp only [c7_1, eq_true c17_2, c27_3, p_in, p_worn, p_wi, not_true_eq_false, not_false_eq_true, if_true, if_false, and_true, true_and, and_false, false_and, or_true, true_or, or_false, false_or, and_self, or_self, iff_true, true_iff, iff_false, false_iff, decide_eq_true_eq, decide_true, decide_false, Int32.add_zero, Nat.add_zero, ne_eq, Bool.false_eq_true, eq_self])) (by omega) hP hD hS (lv_sub hl [1, 2, 3, 0] rfl)
          · skip
            refine lv_iload_n hx hb dX9_thingAt_30 rfl (lv_at hl 3 rfl) ?_
            exact zIret () hx hb hr hlocks hK hP hD hS dX9_thingAt_31 (show nI (k) = t_at y x1 x2 from (atI_some (by simp only [c7_1, eq_true c17_2, eq_true c27_3, p_in, p_worn, p_wi, not_true_eq_false, not_false_eq_true, if_true, if_false, and_true, true_and, and_false, false_and, or_true, true_or, or_false, false_or, and_self, or_self, iff_true, true_iff, iff_false, false_iff, decide_eq_true_eq, decide_true, decide_false, Int32.add_zero, Nat.add_zero, ne_eq, Bool.false_eq_true, eq_self]) hno (by omega)).symm)
  exact lp2 ((y_n y - (0)) + 1) (0) H locs ls (by omega) (fun j hj => absurd hj (Nat.not_lt_zero j)) (Nat.lt_succ_self _) hP hD hS (lv_sub hl [1, 2, 3, 0] rfl)
abbrev rmX9_premisesOn : Room := { frames := 0, cells := 0, slots := 0, locals := 0 }
theorem in_X9_premisesOn_X9 : ∀ w ∈ u_ws RX9 TX9 16, w ∈ wsX9_premisesOn := by decide +kernel
set_option maxHeartbeats 4000000 in
set_option maxRecDepth 100000 in
theorem kX9_premisesOn {D : va_G} {ct : Nat → ClassId} {l : Launch} (a : Nat → Nat) (y : YS) (R : va_W) (x1 : Int32) (hn : y_n y ≤ 12) : MI D ct l yX9_premisesOn wsX9_premisesOn rmX9_premisesOn (YW ct a y R) [.ref (a 0), .int (x1)] (fun r0 (_ : Unit) => r0 = nI (t_pn y x1)) (fun _ : Unit => YW ct a y R) := by
  refine MIof (cc := cX9_premisesOn) (maxL := 4) (ret := (some .int)) (by decide) rfl (Nat.le_of_ble_eq_true rfl) ?_
  intro p e s m args below meth c A H locs F hP hK hD hS hA ls hl
  obtain ⟨hx, hb, hr, hlocks, hml, hown, hts, hin⟩ := F
  have hl : lv_has ls 4 [(0, .ref (a 0)), (1, .int (x1))] := hl
  have h_X9 := in_X9_premisesOn_X9
  have f9 := hts (.fieldLink RX9 9 "CartArguments$Yard" "kinds" "[I") (by decide +kernel)
  have f18 := hts (.fieldLink RX9 18 "CartArguments$Yard" "cartsUnder" "[I") (by decide +kernel)
  have f46 := hts (.fieldLink RX9 46 "CartArguments$Yard" "things" "I") (by decide +kernel)
  refine lv_iconst (v := nI (0)) hx hb dX9_premisesOn_0 (by decide) ?_
  refine lv_istore_n (lv' := [(2, .int (nI (0))), (0, .ref (a 0)), (1, .int (x1))]) hx hb dX9_premisesOn_1 rfl hl (by decide) rfl (fun ls hl => ?_)
  refine lv_iconst (v := nI (0)) hx hb dX9_premisesOn_2 (by decide) ?_
  refine lv_istore_n (lv' := [(3, .int (nI (0))), (2, .int (nI (0))), (0, .ref (a 0)), (1, .int (x1))]) hx hb dX9_premisesOn_3 rfl hl (by decide) rfl (fun ls hl => ?_)
  have lp4 : ∀ (fu : Nat) (k : Nat) (acc : Nat) (H : Heap) (locs : List Loc) (ls : Array Slot), (k ≤ y_n y) → (acc = cN (fun k => decide (y_cu y k = x1 ∧ y_kd y k = 0)) k) → y_n y - k < fu → va_P D vwCl (YW ct a y R) H → va_D A (YW ct a y R) → va_S A s.heap H locs → lv_has ls 4 [(0, .ref (a 0)), (1, .int (x1)), (2, .int (nI (acc))), (3, .int (nI (k)))] → W p l e rmX9_premisesOn s m args below meth c H locs 0 0 (MQ below (va_Qi (fun r0 (_ : Unit) => r0 = nI (t_pn y x1)) (zB D ct A (fun _ : Unit => YW ct a y R)) A) args s rmX9_premisesOn.cells rmX9_premisesOn.slots A) (F0 m 4 ls []) := by
    intro fu
    induction fu with
    | zero => intro k acc H locs ls hk hacc hfu; exact absurd hfu (Nat.not_lt_zero _)
    | succ fu ih4 =>
      intro k acc H locs ls hk hacc hfu hP hD hS hl
      refine lv_iload_n hx hb dX9_premisesOn_4 rfl (lv_at hl 3 rfl) ?_
      refine lv_aload_n hx hb dX9_premisesOn_5 rfl (lv_at hl 0 rfl) ?_
      refine va_get (ci := 8) (v := .int (nI (y_n y))) hx hb hts h_X9 hown hK hP 0 rfl rfl 0 (by decide) f46 (fun _ h9 => h9) rfl dX9_premisesOn_6 ?_
      refine zN_icmp_ge (tgt := 40) hx hb (by omega) (by omega) dX9_premisesOn_9 (by decide) (fun c9_1 => ?_) (fun c9_1 => ?_)
      · skip
        refine lv_iload_n hx hb dX9_premisesOn_40 rfl (lv_at hl 2 rfl) ?_
        exact zIret () hx hb hr hlocks hK hP hD hS dX9_premisesOn_41 (show nI (acc) = nI (t_pn y x1) from (by rw [hacc, t_pn]; congr 2; omega))
      · skip
        refine lv_aload_n hx hb dX9_premisesOn_12 rfl (lv_at hl 0 rfl) ?_
        refine va_get (ci := 8) (v := .ref (a 3)) hx hb hts h_X9 hown hK hP 0 rfl rfl 3 (by decide) f18 (fun _ h9 => h9) rfl dX9_premisesOn_13 ?_
        refine lv_iload_n hx hb dX9_premisesOn_16 rfl (lv_at hl 3 rfl) ?_
        refine zIald (n := 12) (f := y_cu y) (i := k) hx hb hK hP 3 rfl (by omega) (by decide) dX9_premisesOn_17 ?_
        refine lv_iload_n hx hb dX9_premisesOn_18 rfl (lv_at hl 1 rfl) ?_
        refine lv_icmp_ne (tgt := 34) hx hb dX9_premisesOn_19 (by decide) (fun c19_2 => ?_) (fun c19_2 => ?_)
        · skip
          refine lv_iinc (v := nI ((k + 1))) (lv' := [(3, .int (nI ((k + 1)))), (0, .ref (a 0)), (1, .int (x1)), (2, .int (nI (acc)))]) hx hb dX9_premisesOn_34 hl (k := 3) rfl (zInc _) (by decide) rfl (fun ls hl => ?_)
          refine lv_goto (tgt := 4) hx hb dX9_premisesOn_37 (by decide) ?_
          exact ih4 ((k + 1)) (acc) H locs ls (by omega) (by simp only [cN, hacc, c9_1, c19_2, p_in, p_worn, p_wi, not_true_eq_false, not_false_eq_true, if_true, if_false, and_true, true_and, and_false, false_and, or_true, true_or, or_false, false_or, and_self, or_self, iff_true, true_iff, iff_false, false_iff, decide_eq_true_eq, decide_true, decide_false, Int32.add_zero, Nat.add_zero, ne_eq, Bool.false_eq_true, eq_self]) (by omega) hP hD hS (lv_sub hl [1, 2, 3, 0] rfl)
        · skip
          refine lv_aload_n hx hb dX9_premisesOn_22 rfl (lv_at hl 0 rfl) ?_
          refine va_get (ci := 8) (v := .ref (a 1)) hx hb hts h_X9 hown hK hP 0 rfl rfl 1 (by decide) f9 (fun _ h9 => h9) rfl dX9_premisesOn_23 ?_
          refine lv_iload_n hx hb dX9_premisesOn_26 rfl (lv_at hl 3 rfl) ?_
          refine zIald (n := 12) (f := y_kd y) (i := k) hx hb hK hP 1 rfl (by omega) (by decide) dX9_premisesOn_27 ?_
          refine lv_if_ne (tgt := 34) hx hb dX9_premisesOn_28 (by decide) (fun c28_3 => ?_) (fun c28_3 => ?_)
          · skip
            refine lv_iinc (v := nI ((k + 1))) (lv' := [(3, .int (nI ((k + 1)))), (0, .ref (a 0)), (1, .int (x1)), (2, .int (nI (acc)))]) hx hb dX9_premisesOn_34 hl (k := 3) rfl (zInc _) (by decide) rfl (fun ls hl => ?_)
            refine lv_goto (tgt := 4) hx hb dX9_premisesOn_37 (by decide) ?_
            exact ih4 ((k + 1)) (acc) H locs ls (by omega) (by simp only [cN, hacc, c9_1, eq_true c19_2, c28_3, p_in, p_worn, p_wi, not_true_eq_false, not_false_eq_true, if_true, if_false, and_true, true_and, and_false, false_and, or_true, true_or, or_false, false_or, and_self, or_self, iff_true, true_iff, iff_false, false_iff, decide_eq_true_eq, decide_true, decide_false, Int32.add_zero, Nat.add_zero, ne_eq, Bool.false_eq_true, eq_self]) (by omega) hP hD hS (lv_sub hl [1, 2, 3, 0] rfl)
          · skip
            refine lv_iinc (v := nI ((acc + 1))) (lv' := [(2, .int (nI ((acc + 1)))), (0, .ref (a 0)), (1, .int (x1)), (3, .int (nI (k)))]) hx hb dX9_premisesOn_31 hl (k := 2) rfl (zInc _) (by decide) rfl (fun ls hl => ?_)
            refine lv_iinc (v := nI ((k + 1))) (lv' := [(3, .int (nI ((k + 1)))), (2, .int (nI ((acc + 1)))), (0, .ref (a 0)), (1, .int (x1))]) hx hb dX9_premisesOn_34 hl (k := 3) rfl (zInc _) (by decide) rfl (fun ls hl => ?_)
            refine lv_goto (tgt := 4) hx hb dX9_premisesOn_37 (by decide) ?_
            exact ih4 ((k + 1)) ((acc + 1)) H locs ls (by omega) (by simp only [cN, hacc, c9_1, eq_true c19_2, eq_true c28_3, p_in, p_worn, p_wi, not_true_eq_false, not_false_eq_true, if_true, if_false, and_true, true_and, and_false, false_and, or_true, true_or, or_false, false_or, and_self, or_self, iff_true, true_iff, iff_false, false_iff, decide_eq_true_eq, decide_true, decide_false, Int32.add_zero, Nat.add_zero, ne_eq, Bool.false_eq_true, eq_self]) (by omega) hP hD hS (lv_sub hl [2, 3, 1, 0] rfl)
  exact lp4 ((y_n y - (0)) + 1) (0) (0) H locs ls (by omega) rfl (Nat.lt_succ_self _) hP hD hS (lv_sub hl [2, 3, 1, 0] rfl)
abbrev rmX9_weightOn : Room := { frames := 0, cells := 0, slots := 0, locals := 0 }
theorem in_X9_weightOn_X9 : ∀ w ∈ u_ws RX9 TX9 16, w ∈ wsX9_weightOn := by decide +kernel
set_option maxHeartbeats 4000000 in
set_option maxRecDepth 100000 in
theorem kX9_weightOn {D : va_G} {ct : Nat → ClassId} {l : Launch} (a : Nat → Nat) (y : YS) (R : va_W) (x1 : Int32) (x2 : Int32) (hn : y_n y ≤ 12) : MI D ct l yX9_weightOn wsX9_weightOn rmX9_weightOn (YW ct a y R) [.ref (a 0), .int (x1), .int (x2)] (fun r0 (_ : Unit) => r0 = t_wo y x1 x2) (fun _ : Unit => YW ct a y R) := by
  refine MIof (cc := cX9_weightOn) (maxL := 5) (ret := (some .int)) (by decide) rfl (Nat.le_of_ble_eq_true rfl) ?_
  intro p e s m args below meth c A H locs F hP hK hD hS hA ls hl
  obtain ⟨hx, hb, hr, hlocks, hml, hown, hts, hin⟩ := F
  have hl : lv_has ls 5 [(0, .ref (a 0)), (1, .int (x1)), (2, .int (x2))] := hl
  have h_X9 := in_X9_weightOn_X9
  have f9 := hts (.fieldLink RX9 9 "CartArguments$Yard" "kinds" "[I") (by decide +kernel)
  have f15 := hts (.fieldLink RX9 15 "CartArguments$Yard" "weights" "[I") (by decide +kernel)
  have f18 := hts (.fieldLink RX9 18 "CartArguments$Yard" "cartsUnder" "[I") (by decide +kernel)
  have f46 := hts (.fieldLink RX9 46 "CartArguments$Yard" "things" "I") (by decide +kernel)
  refine lv_iconst (v := nI (0)) hx hb dX9_weightOn_0 (by decide) ?_
  refine lv_istore_n (lv' := [(3, .int (nI (0))), (0, .ref (a 0)), (1, .int (x1)), (2, .int (x2))]) hx hb dX9_weightOn_1 rfl hl (by decide) rfl (fun ls hl => ?_)
  refine lv_iconst (v := nI (0)) hx hb dX9_weightOn_2 (by decide) ?_
  refine lv_istore (lv' := [(4, .int (nI (0))), (3, .int (nI (0))), (0, .ref (a 0)), (1, .int (x1)), (2, .int (x2))]) hx hb dX9_weightOn_3 hl (by decide) rfl (fun ls hl => ?_)
  have lp5 : ∀ (fu : Nat) (k : Nat) (acc : Int32) (H : Heap) (locs : List Loc) (ls : Array Slot), (k ≤ y_n y) → (acc = sI (fun k => if y_cu y k = x1 ∧ y_kd y k = x2 then y_w y k else 0) k) → y_n y - k < fu → va_P D vwCl (YW ct a y R) H → va_D A (YW ct a y R) → va_S A s.heap H locs → lv_has ls 5 [(0, .ref (a 0)), (1, .int (x1)), (2, .int (x2)), (3, .int (acc)), (4, .int (nI (k)))] → W p l e rmX9_weightOn s m args below meth c H locs 0 0 (MQ below (va_Qi (fun r0 (_ : Unit) => r0 = t_wo y x1 x2) (zB D ct A (fun _ : Unit => YW ct a y R)) A) args s rmX9_weightOn.cells rmX9_weightOn.slots A) (F0 m 5 ls []) := by
    intro fu
    induction fu with
    | zero => intro k acc H locs ls hk hacc hfu; exact absurd hfu (Nat.not_lt_zero _)
    | succ fu ih5 =>
      intro k acc H locs ls hk hacc hfu hP hD hS hl
      refine lv_iload hx hb dX9_weightOn_5 (lv_at hl 4 rfl) ?_
      refine lv_aload_n hx hb dX9_weightOn_7 rfl (lv_at hl 0 rfl) ?_
      refine va_get (ci := 8) (v := .int (nI (y_n y))) hx hb hts h_X9 hown hK hP 0 rfl rfl 0 (by decide) f46 (fun _ h9 => h9) rfl dX9_weightOn_8 ?_
      refine zN_icmp_ge (tgt := 52) hx hb (by omega) (by omega) dX9_weightOn_11 (by decide) (fun c11_1 => ?_) (fun c11_1 => ?_)
      · skip
        refine lv_iload_n hx hb dX9_weightOn_52 rfl (lv_at hl 3 rfl) ?_
        exact zIret () hx hb hr hlocks hK hP hD hS dX9_weightOn_53 (show acc = t_wo y x1 x2 from (by rw [hacc, t_wo]; congr 1; omega))
      · skip
        refine lv_aload_n hx hb dX9_weightOn_14 rfl (lv_at hl 0 rfl) ?_
        refine va_get (ci := 8) (v := .ref (a 3)) hx hb hts h_X9 hown hK hP 0 rfl rfl 3 (by decide) f18 (fun _ h9 => h9) rfl dX9_weightOn_15 ?_
        refine lv_iload hx hb dX9_weightOn_18 (lv_at hl 4 rfl) ?_
        refine zIald (n := 12) (f := y_cu y) (i := k) hx hb hK hP 3 rfl (by omega) (by decide) dX9_weightOn_20 ?_
        refine lv_iload_n hx hb dX9_weightOn_21 rfl (lv_at hl 1 rfl) ?_
        refine lv_icmp_ne (tgt := 46) hx hb dX9_weightOn_22 (by decide) (fun c22_2 => ?_) (fun c22_2 => ?_)
        · skip
          refine lv_iinc (v := nI ((k + 1))) (lv' := [(4, .int (nI ((k + 1)))), (0, .ref (a 0)), (1, .int (x1)), (2, .int (x2)), (3, .int (acc))]) hx hb dX9_weightOn_46 hl (k := 4) rfl (zInc _) (by decide) rfl (fun ls hl => ?_)
          refine lv_goto (tgt := 5) hx hb dX9_weightOn_49 (by decide) ?_
          exact ih5 ((k + 1)) (acc) H locs ls (by omega) (by simp only [sI, hacc, c11_1, c22_2, p_in, p_worn, p_wi, not_true_eq_false, not_false_eq_true, if_true, if_false, and_true, true_and, and_false, false_and, or_true, true_or, or_false, false_or, and_self, or_self, iff_true, true_iff, iff_false, false_iff, decide_eq_true_eq, decide_true, decide_false, Int32.add_zero, Nat.add_zero, ne_eq, Bool.false_eq_true, eq_self]) (by omega) hP hD hS (lv_sub hl [1, 2, 3, 4, 0] rfl)
        · skip
          refine lv_aload_n hx hb dX9_weightOn_25 rfl (lv_at hl 0 rfl) ?_
          refine va_get (ci := 8) (v := .ref (a 1)) hx hb hts h_X9 hown hK hP 0 rfl rfl 1 (by decide) f9 (fun _ h9 => h9) rfl dX9_weightOn_26 ?_
          refine lv_iload hx hb dX9_weightOn_29 (lv_at hl 4 rfl) ?_
          refine zIald (n := 12) (f := y_kd y) (i := k) hx hb hK hP 1 rfl (by omega) (by decide) dX9_weightOn_31 ?_
          refine lv_iload_n hx hb dX9_weightOn_32 rfl (lv_at hl 2 rfl) ?_
          refine lv_icmp_ne (tgt := 46) hx hb dX9_weightOn_33 (by decide) (fun c33_3 => ?_) (fun c33_3 => ?_)
          · skip
            refine lv_iinc (v := nI ((k + 1))) (lv' := [(4, .int (nI ((k + 1)))), (0, .ref (a 0)), (1, .int (x1)), (2, .int (x2)), (3, .int (acc))]) hx hb dX9_weightOn_46 hl (k := 4) rfl (zInc _) (by decide) rfl (fun ls hl => ?_)
            refine lv_goto (tgt := 5) hx hb dX9_weightOn_49 (by decide) ?_
            exact ih5 ((k + 1)) (acc) H locs ls (by omega) (by simp only [sI, hacc, c11_1, eq_true c22_2, c33_3, p_in, p_worn, p_wi, not_true_eq_false, not_false_eq_true, if_true, if_false, and_true, true_and, and_false, false_and, or_true, true_or, or_false, false_or, and_self, or_self, iff_true, true_iff, iff_false, false_iff, decide_eq_true_eq, decide_true, decide_false, Int32.add_zero, Nat.add_zero, ne_eq, Bool.false_eq_true, eq_self]) (by omega) hP hD hS (lv_sub hl [1, 2, 3, 4, 0] rfl)
          · skip
            refine lv_iload_n hx hb dX9_weightOn_36 rfl (lv_at hl 3 rfl) ?_
            refine lv_aload_n hx hb dX9_weightOn_37 rfl (lv_at hl 0 rfl) ?_
            refine va_get (ci := 8) (v := .ref (a 2)) hx hb hts h_X9 hown hK hP 0 rfl rfl 2 (by decide) f15 (fun _ h9 => h9) rfl dX9_weightOn_38 ?_
            refine lv_iload hx hb dX9_weightOn_41 (lv_at hl 4 rfl) ?_
            refine zIald (n := 12) (f := y_w y) (i := k) hx hb hK hP 2 rfl (by omega) (by decide) dX9_weightOn_43 ?_
            refine lv_iadd hx hb dX9_weightOn_44 ?_
            refine lv_istore_n (lv' := [(3, .int ((acc + (y_w y (k))))), (0, .ref (a 0)), (1, .int (x1)), (2, .int (x2)), (4, .int (nI (k)))]) hx hb dX9_weightOn_45 rfl hl (by decide) rfl (fun ls hl => ?_)
            refine lv_iinc (v := nI ((k + 1))) (lv' := [(4, .int (nI ((k + 1)))), (3, .int ((acc + (y_w y (k))))), (0, .ref (a 0)), (1, .int (x1)), (2, .int (x2))]) hx hb dX9_weightOn_46 hl (k := 4) rfl (zInc _) (by decide) rfl (fun ls hl => ?_)
            refine lv_goto (tgt := 5) hx hb dX9_weightOn_49 (by decide) ?_
            exact ih5 ((k + 1)) ((acc + (y_w y (k)))) H locs ls (by omega) (by simp only [sI, hacc, c11_1, eq_true c22_2, eq_true c33_3, p_in, p_worn, p_wi, not_true_eq_false, not_false_eq_true, if_true, if_false, and_true, true_and, and_false, false_and, or_true, true_or, or_false, false_or, and_self, or_self, iff_true, true_iff, iff_false, false_iff, decide_eq_true_eq, decide_true, decide_false, Int32.add_zero, Nat.add_zero, ne_eq, Bool.false_eq_true, eq_self]) (by omega) hP hD hS (lv_sub hl [2, 3, 4, 1, 0] rfl)
  exact lp5 ((y_n y - (0)) + 1) (0) (nI 0) H locs ls (by omega) rfl (Nat.lt_succ_self _) hP hD hS (lv_sub hl [2, 3, 4, 1, 0] rfl)
abbrev rmX9_weightOfAllOn : Room := { frames := 1, cells := 0, slots := 0, locals := 24 }
set_option maxHeartbeats 4000000 in
set_option maxRecDepth 100000 in
theorem kX9_weightOfAllOn {D : va_G} {ct : Nat → ClassId} {l : Launch} (a : Nat → Nat) (y : YS) (R : va_W) (x1 : Int32) (hn : y_n y ≤ 12) : MI D ct l yX9_weightOfAllOn wsX9_weightOfAllOn rmX9_weightOfAllOn (YW ct a y R) [.ref (a 0), .int (x1)] (fun r0 (_ : Unit) => r0 = t_all y x1) (fun _ : Unit => YW ct a y R) := by
  refine MIof (cc := cX9_weightOfAllOn) (maxL := 2) (ret := (some .int)) (by decide) rfl (Nat.le_of_ble_eq_true rfl) ?_
  intro p e s m args below meth c A H locs F hP hK hD hS hA ls hl
  obtain ⟨hx, hb, hr, hlocks, hml, hown, hts, hin⟩ := F
  have hl : lv_has ls 2 [(0, .ref (a 0)), (1, .int (x1))] := hl
  refine lv_aload_n hx hb dX9_weightOfAllOn_0 rfl (lv_at hl 0 rfl) ?_
  refine lv_iload_n hx hb dX9_weightOfAllOn_1 rfl (lv_at hl 1 rfl) ?_
  refine lv_iconst (v := nI (0)) hx hb dX9_weightOfAllOn_2 (by decide) ?_
  refine zVI [.int (x1), .int (nI (0))] [] (kX9_weightOn (a) (y) (R) (x1) (nI (0)) (show y_n y ≤ 12 from by omega)) hx hb hml hown hts (cwV 2 hts gX9_weightOfAllOn_X9_weightOn rfl rfl rfl (by decide +kernel) ⟨(Nat.le_of_ble_eq_true rfl), (Nat.le_of_ble_eq_true rfl)⟩) hK hP hD hS hA (va_recv hK hP (ci := 8) (q0 := 0) rfl rfl) rfl hl.1 rfl (Nat.le_of_ble_eq_true rfl) dX9_weightOfAllOn_3 ⟨(Nat.le_of_ble_eq_true rfl), (Nat.le_of_ble_eq_true rfl)⟩ (fun r_3 _ H locs hr_3 hP hD hS => ?_)
  subst hr_3
  have hP : va_P D vwCl (YW ct a y R) H := hP
  have hD : va_D A (YW ct a y R) := hD
  refine lv_aload_n hx hb dX9_weightOfAllOn_6 rfl (lv_at hl 0 rfl) ?_
  refine lv_iload_n hx hb dX9_weightOfAllOn_7 rfl (lv_at hl 1 rfl) ?_
  refine lv_iconst (v := nI (1)) hx hb dX9_weightOfAllOn_8 (by decide) ?_
  refine zVI [.int (x1), .int (nI (1))] [.int ((t_wo y (x1) (nI (0))))] (kX9_weightOn (a) (y) (R) (x1) (nI (1)) (show y_n y ≤ 12 from by omega)) hx hb hml hown hts (cwV 2 hts gX9_weightOfAllOn_X9_weightOn rfl rfl rfl (by decide +kernel) ⟨(Nat.le_of_ble_eq_true rfl), (Nat.le_of_ble_eq_true rfl)⟩) hK hP hD hS hA (va_recv hK hP (ci := 8) (q0 := 0) rfl rfl) rfl hl.1 rfl (Nat.le_of_ble_eq_true rfl) dX9_weightOfAllOn_9 ⟨(Nat.le_of_ble_eq_true rfl), (Nat.le_of_ble_eq_true rfl)⟩ (fun r_9 _ H locs hr_9 hP hD hS => ?_)
  subst hr_9
  have hP : va_P D vwCl (YW ct a y R) H := hP
  have hD : va_D A (YW ct a y R) := hD
  refine lv_iadd hx hb dX9_weightOfAllOn_12 ?_
  exact zIret () hx hb hr hlocks hK hP hD hS dX9_weightOfAllOn_13 (show ((t_wo y (x1) (nI (0))) + (t_wo y (x1) (nI (1)))) = t_all y x1 from rfl)
abbrev rmX9_weightOnCarts : Room := { frames := 2, cells := 0, slots := 0, locals := 45 }
theorem in_X9_weightOnCarts_X9 : ∀ w ∈ u_ws RX9 TX9 16, w ∈ wsX9_weightOnCarts := by decide +kernel
set_option maxHeartbeats 4000000 in
set_option maxRecDepth 100000 in
theorem kX9_weightOnCarts {D : va_G} {ct : Nat → ClassId} {l : Launch} (a : Nat → Nat) (y : YS) (R : va_W)  (hn : y_n y ≤ 12) (hc : y_cn y ≤ 4) : MI D ct l yX9_weightOnCarts wsX9_weightOnCarts rmX9_weightOnCarts (YW ct a y R) [.ref (a 0)] (fun r0 (_ : Unit) => r0 = t_wcs y) (fun _ : Unit => YW ct a y R) := by
  refine MIof (cc := cX9_weightOnCarts) (maxL := 3) (ret := (some .int)) (by decide) rfl (Nat.le_of_ble_eq_true rfl) ?_
  intro p e s m args below meth c A H locs F hP hK hD hS hA ls hl
  obtain ⟨hx, hb, hr, hlocks, hml, hown, hts, hin⟩ := F
  have hl : lv_has ls 3 [(0, .ref (a 0))] := hl
  have h_X9 := in_X9_weightOnCarts_X9
  have f50 := hts (.fieldLink RX9 50 "CartArguments$Yard" "carts" "I") (by decide +kernel)
  refine lv_iconst (v := nI (0)) hx hb dX9_weightOnCarts_0 (by decide) ?_
  refine lv_istore_n (lv' := [(1, .int (nI (0))), (0, .ref (a 0))]) hx hb dX9_weightOnCarts_1 rfl hl (by decide) rfl (fun ls hl => ?_)
  refine lv_iconst (v := nI (0)) hx hb dX9_weightOnCarts_2 (by decide) ?_
  refine lv_istore_n (lv' := [(2, .int (nI (0))), (1, .int (nI (0))), (0, .ref (a 0))]) hx hb dX9_weightOnCarts_3 rfl hl (by decide) rfl (fun ls hl => ?_)
  have lp4 : ∀ (fu : Nat) (k : Nat) (acc : Int32) (H : Heap) (locs : List Loc) (ls : Array Slot), (k ≤ y_cn y) → (acc = sI (fun k => t_all y (nI k)) k) → y_cn y - k < fu → va_P D vwCl (YW ct a y R) H → va_D A (YW ct a y R) → va_S A s.heap H locs → lv_has ls 3 [(0, .ref (a 0)), (1, .int (acc)), (2, .int (nI (k)))] → W p l e rmX9_weightOnCarts s m args below meth c H locs 0 0 (MQ below (va_Qi (fun r0 (_ : Unit) => r0 = t_wcs y) (zB D ct A (fun _ : Unit => YW ct a y R)) A) args s rmX9_weightOnCarts.cells rmX9_weightOnCarts.slots A) (F0 m 4 ls []) := by
    intro fu
    induction fu with
    | zero => intro k acc H locs ls hk hacc hfu; exact absurd hfu (Nat.not_lt_zero _)
    | succ fu ih4 =>
      intro k acc H locs ls hk hacc hfu hP hD hS hl
      refine lv_iload_n hx hb dX9_weightOnCarts_4 rfl (lv_at hl 2 rfl) ?_
      refine lv_aload_n hx hb dX9_weightOnCarts_5 rfl (lv_at hl 0 rfl) ?_
      refine va_get (ci := 8) (v := .int (nI (y_cn y))) hx hb hts h_X9 hown hK hP 0 rfl rfl 5 (by decide) f50 (fun _ h9 => h9) rfl dX9_weightOnCarts_6 ?_
      refine zN_icmp_ge (tgt := 26) hx hb (by omega) (by omega) dX9_weightOnCarts_9 (by decide) (fun c9_1 => ?_) (fun c9_1 => ?_)
      · skip
        refine lv_iload_n hx hb dX9_weightOnCarts_26 rfl (lv_at hl 1 rfl) ?_
        exact zIret () hx hb hr hlocks hK hP hD hS dX9_weightOnCarts_27 (show acc = t_wcs y from (by rw [hacc, t_wcs]; congr 1; omega))
      · skip
        refine lv_iload_n hx hb dX9_weightOnCarts_12 rfl (lv_at hl 1 rfl) ?_
        refine lv_aload_n hx hb dX9_weightOnCarts_13 rfl (lv_at hl 0 rfl) ?_
        refine lv_iload_n hx hb dX9_weightOnCarts_14 rfl (lv_at hl 2 rfl) ?_
        refine zVI [.int (nI (k))] [.int (acc)] (kX9_weightOfAllOn (a) (y) (R) (nI (k)) (show y_n y ≤ 12 from by omega)) hx hb hml hown hts (cwV 1 hts gX9_weightOnCarts_X9_weightOfAllOn rfl rfl rfl (by decide +kernel) ⟨(Nat.le_of_ble_eq_true rfl), (Nat.le_of_ble_eq_true rfl)⟩) hK hP hD hS hA (va_recv hK hP (ci := 8) (q0 := 0) rfl rfl) rfl hl.1 rfl (Nat.le_of_ble_eq_true rfl) dX9_weightOnCarts_15 ⟨(Nat.le_of_ble_eq_true rfl), (Nat.le_of_ble_eq_true rfl)⟩ (fun r_15 _ H locs hr_15 hP hD hS => ?_)
        subst hr_15
        have hP : va_P D vwCl (YW ct a y R) H := hP
        have hD : va_D A (YW ct a y R) := hD
        refine lv_iadd hx hb dX9_weightOnCarts_18 ?_
        refine lv_istore_n (lv' := [(1, .int ((acc + (t_all y (nI (k)))))), (0, .ref (a 0)), (2, .int (nI (k)))]) hx hb dX9_weightOnCarts_19 rfl hl (by decide) rfl (fun ls hl => ?_)
        refine lv_iinc (v := nI ((k + 1))) (lv' := [(2, .int (nI ((k + 1)))), (1, .int ((acc + (t_all y (nI (k)))))), (0, .ref (a 0))]) hx hb dX9_weightOnCarts_20 hl (k := 2) rfl (zInc _) (by decide) rfl (fun ls hl => ?_)
        refine lv_goto (tgt := 4) hx hb dX9_weightOnCarts_23 (by decide) ?_
        exact ih4 ((k + 1)) ((acc + (t_all y (nI (k))))) H locs ls (by omega) (by simp only [sI, hacc, c9_1, p_in, p_worn, p_wi, not_true_eq_false, not_false_eq_true, if_true, if_false, and_true, true_and, and_false, false_and, or_true, true_or, or_false, false_or, and_self, or_self, iff_true, true_iff, iff_false, false_iff, decide_eq_true_eq, decide_true, decide_false, Int32.add_zero, Nat.add_zero, ne_eq, Bool.false_eq_true, eq_self]) (by omega) hP hD hS (lv_sub hl [2, 1, 0] rfl)
  exact lp4 ((y_cn y - (0)) + 1) (0) (nI 0) H locs ls (by omega) rfl (Nat.lt_succ_self _) hP hD hS (lv_sub hl [2, 1, 0] rfl)
abbrev rmX9_thingsOfKind : Room := { frames := 0, cells := 0, slots := 0, locals := 0 }
theorem in_X9_thingsOfKind_X9 : ∀ w ∈ u_ws RX9 TX9 16, w ∈ wsX9_thingsOfKind := by decide +kernel
set_option maxHeartbeats 4000000 in
set_option maxRecDepth 100000 in
theorem kX9_thingsOfKind {D : va_G} {ct : Nat → ClassId} {l : Launch} (a : Nat → Nat) (y : YS) (R : va_W) (x1 : Int32) (hn : y_n y ≤ 12) : MI D ct l yX9_thingsOfKind wsX9_thingsOfKind rmX9_thingsOfKind (YW ct a y R) [.ref (a 0), .int (x1)] (fun r0 (_ : Unit) => r0 = nI (t_tk y x1)) (fun _ : Unit => YW ct a y R) := by
  refine MIof (cc := cX9_thingsOfKind) (maxL := 4) (ret := (some .int)) (by decide) rfl (Nat.le_of_ble_eq_true rfl) ?_
  intro p e s m args below meth c A H locs F hP hK hD hS hA ls hl
  obtain ⟨hx, hb, hr, hlocks, hml, hown, hts, hin⟩ := F
  have hl : lv_has ls 4 [(0, .ref (a 0)), (1, .int (x1))] := hl
  have h_X9 := in_X9_thingsOfKind_X9
  have f9 := hts (.fieldLink RX9 9 "CartArguments$Yard" "kinds" "[I") (by decide +kernel)
  have f46 := hts (.fieldLink RX9 46 "CartArguments$Yard" "things" "I") (by decide +kernel)
  refine lv_iconst (v := nI (0)) hx hb dX9_thingsOfKind_0 (by decide) ?_
  refine lv_istore_n (lv' := [(2, .int (nI (0))), (0, .ref (a 0)), (1, .int (x1))]) hx hb dX9_thingsOfKind_1 rfl hl (by decide) rfl (fun ls hl => ?_)
  refine lv_iconst (v := nI (0)) hx hb dX9_thingsOfKind_2 (by decide) ?_
  refine lv_istore_n (lv' := [(3, .int (nI (0))), (2, .int (nI (0))), (0, .ref (a 0)), (1, .int (x1))]) hx hb dX9_thingsOfKind_3 rfl hl (by decide) rfl (fun ls hl => ?_)
  have lp4 : ∀ (fu : Nat) (k : Nat) (acc : Nat) (H : Heap) (locs : List Loc) (ls : Array Slot), (k ≤ y_n y) → (acc = cN (fun k => decide (y_kd y k = x1)) k) → y_n y - k < fu → va_P D vwCl (YW ct a y R) H → va_D A (YW ct a y R) → va_S A s.heap H locs → lv_has ls 4 [(0, .ref (a 0)), (1, .int (x1)), (2, .int (nI (acc))), (3, .int (nI (k)))] → W p l e rmX9_thingsOfKind s m args below meth c H locs 0 0 (MQ below (va_Qi (fun r0 (_ : Unit) => r0 = nI (t_tk y x1)) (zB D ct A (fun _ : Unit => YW ct a y R)) A) args s rmX9_thingsOfKind.cells rmX9_thingsOfKind.slots A) (F0 m 4 ls []) := by
    intro fu
    induction fu with
    | zero => intro k acc H locs ls hk hacc hfu; exact absurd hfu (Nat.not_lt_zero _)
    | succ fu ih4 =>
      intro k acc H locs ls hk hacc hfu hP hD hS hl
      refine lv_iload_n hx hb dX9_thingsOfKind_4 rfl (lv_at hl 3 rfl) ?_
      refine lv_aload_n hx hb dX9_thingsOfKind_5 rfl (lv_at hl 0 rfl) ?_
      refine va_get (ci := 8) (v := .int (nI (y_n y))) hx hb hts h_X9 hown hK hP 0 rfl rfl 0 (by decide) f46 (fun _ h9 => h9) rfl dX9_thingsOfKind_6 ?_
      refine zN_icmp_ge (tgt := 31) hx hb (by omega) (by omega) dX9_thingsOfKind_9 (by decide) (fun c9_1 => ?_) (fun c9_1 => ?_)
      · skip
        refine lv_iload_n hx hb dX9_thingsOfKind_31 rfl (lv_at hl 2 rfl) ?_
        exact zIret () hx hb hr hlocks hK hP hD hS dX9_thingsOfKind_32 (show nI (acc) = nI (t_tk y x1) from (by rw [hacc, t_tk]; congr 2; omega))
      · skip
        refine lv_aload_n hx hb dX9_thingsOfKind_12 rfl (lv_at hl 0 rfl) ?_
        refine va_get (ci := 8) (v := .ref (a 1)) hx hb hts h_X9 hown hK hP 0 rfl rfl 1 (by decide) f9 (fun _ h9 => h9) rfl dX9_thingsOfKind_13 ?_
        refine lv_iload_n hx hb dX9_thingsOfKind_16 rfl (lv_at hl 3 rfl) ?_
        refine zIald (n := 12) (f := y_kd y) (i := k) hx hb hK hP 1 rfl (by omega) (by decide) dX9_thingsOfKind_17 ?_
        refine lv_iload_n hx hb dX9_thingsOfKind_18 rfl (lv_at hl 1 rfl) ?_
        refine lv_icmp_ne (tgt := 25) hx hb dX9_thingsOfKind_19 (by decide) (fun c19_2 => ?_) (fun c19_2 => ?_)
        · skip
          refine lv_iinc (v := nI ((k + 1))) (lv' := [(3, .int (nI ((k + 1)))), (0, .ref (a 0)), (1, .int (x1)), (2, .int (nI (acc)))]) hx hb dX9_thingsOfKind_25 hl (k := 3) rfl (zInc _) (by decide) rfl (fun ls hl => ?_)
          refine lv_goto (tgt := 4) hx hb dX9_thingsOfKind_28 (by decide) ?_
          exact ih4 ((k + 1)) (acc) H locs ls (by omega) (by simp only [cN, hacc, c9_1, c19_2, p_in, p_worn, p_wi, not_true_eq_false, not_false_eq_true, if_true, if_false, and_true, true_and, and_false, false_and, or_true, true_or, or_false, false_or, and_self, or_self, iff_true, true_iff, iff_false, false_iff, decide_eq_true_eq, decide_true, decide_false, Int32.add_zero, Nat.add_zero, ne_eq, Bool.false_eq_true, eq_self]) (by omega) hP hD hS (lv_sub hl [1, 2, 3, 0] rfl)
        · skip
          refine lv_iinc (v := nI ((acc + 1))) (lv' := [(2, .int (nI ((acc + 1)))), (0, .ref (a 0)), (1, .int (x1)), (3, .int (nI (k)))]) hx hb dX9_thingsOfKind_22 hl (k := 2) rfl (zInc _) (by decide) rfl (fun ls hl => ?_)
          refine lv_iinc (v := nI ((k + 1))) (lv' := [(3, .int (nI ((k + 1)))), (2, .int (nI ((acc + 1)))), (0, .ref (a 0)), (1, .int (x1))]) hx hb dX9_thingsOfKind_25 hl (k := 3) rfl (zInc _) (by decide) rfl (fun ls hl => ?_)
          refine lv_goto (tgt := 4) hx hb dX9_thingsOfKind_28 (by decide) ?_
          exact ih4 ((k + 1)) ((acc + 1)) H locs ls (by omega) (by simp only [cN, hacc, c9_1, eq_true c19_2, p_in, p_worn, p_wi, not_true_eq_false, not_false_eq_true, if_true, if_false, and_true, true_and, and_false, false_and, or_true, true_or, or_false, false_or, and_self, or_self, iff_true, true_iff, iff_false, false_iff, decide_eq_true_eq, decide_true, decide_false, Int32.add_zero, Nat.add_zero, ne_eq, Bool.false_eq_true, eq_self]) (by omega) hP hD hS (lv_sub hl [2, 3, 1, 0] rfl)
  exact lp4 ((y_n y - (0)) + 1) (0) (0) H locs ls (by omega) rfl (Nat.lt_succ_self _) hP hD hS (lv_sub hl [2, 3, 1, 0] rfl)
abbrev rmX9_thingsOnCarts : Room := { frames := 0, cells := 0, slots := 0, locals := 0 }
theorem in_X9_thingsOnCarts_X9 : ∀ w ∈ u_ws RX9 TX9 16, w ∈ wsX9_thingsOnCarts := by decide +kernel
set_option maxHeartbeats 4000000 in
set_option maxRecDepth 100000 in
theorem kX9_thingsOnCarts {D : va_G} {ct : Nat → ClassId} {l : Launch} (a : Nat → Nat) (y : YS) (R : va_W)  (hn : y_n y ≤ 12) : MI D ct l yX9_thingsOnCarts wsX9_thingsOnCarts rmX9_thingsOnCarts (YW ct a y R) [.ref (a 0)] (fun r0 (_ : Unit) => r0 = nI (t_tc y)) (fun _ : Unit => YW ct a y R) := by
  refine MIof (cc := cX9_thingsOnCarts) (maxL := 3) (ret := (some .int)) (by decide) rfl (Nat.le_of_ble_eq_true rfl) ?_
  intro p e s m args below meth c A H locs F hP hK hD hS hA ls hl
  obtain ⟨hx, hb, hr, hlocks, hml, hown, hts, hin⟩ := F
  have hl : lv_has ls 3 [(0, .ref (a 0))] := hl
  have h_X9 := in_X9_thingsOnCarts_X9
  have f18 := hts (.fieldLink RX9 18 "CartArguments$Yard" "cartsUnder" "[I") (by decide +kernel)
  have f46 := hts (.fieldLink RX9 46 "CartArguments$Yard" "things" "I") (by decide +kernel)
  refine lv_iconst (v := nI (0)) hx hb dX9_thingsOnCarts_0 (by decide) ?_
  refine lv_istore_n (lv' := [(1, .int (nI (0))), (0, .ref (a 0))]) hx hb dX9_thingsOnCarts_1 rfl hl (by decide) rfl (fun ls hl => ?_)
  refine lv_iconst (v := nI (0)) hx hb dX9_thingsOnCarts_2 (by decide) ?_
  refine lv_istore_n (lv' := [(2, .int (nI (0))), (1, .int (nI (0))), (0, .ref (a 0))]) hx hb dX9_thingsOnCarts_3 rfl hl (by decide) rfl (fun ls hl => ?_)
  have lp4 : ∀ (fu : Nat) (k : Nat) (acc : Nat) (H : Heap) (locs : List Loc) (ls : Array Slot), (k ≤ y_n y) → (acc = cN (fun k => decide (¬ y_cu y k = -4)) k) → y_n y - k < fu → va_P D vwCl (YW ct a y R) H → va_D A (YW ct a y R) → va_S A s.heap H locs → lv_has ls 3 [(0, .ref (a 0)), (1, .int (nI (acc))), (2, .int (nI (k)))] → W p l e rmX9_thingsOnCarts s m args below meth c H locs 0 0 (MQ below (va_Qi (fun r0 (_ : Unit) => r0 = nI (t_tc y)) (zB D ct A (fun _ : Unit => YW ct a y R)) A) args s rmX9_thingsOnCarts.cells rmX9_thingsOnCarts.slots A) (F0 m 4 ls []) := by
    intro fu
    induction fu with
    | zero => intro k acc H locs ls hk hacc hfu; exact absurd hfu (Nat.not_lt_zero _)
    | succ fu ih4 =>
      intro k acc H locs ls hk hacc hfu hP hD hS hl
      refine lv_iload_n hx hb dX9_thingsOnCarts_4 rfl (lv_at hl 2 rfl) ?_
      refine lv_aload_n hx hb dX9_thingsOnCarts_5 rfl (lv_at hl 0 rfl) ?_
      refine va_get (ci := 8) (v := .int (nI (y_n y))) hx hb hts h_X9 hown hK hP 0 rfl rfl 0 (by decide) f46 (fun _ h9 => h9) rfl dX9_thingsOnCarts_6 ?_
      refine zN_icmp_ge (tgt := 32) hx hb (by omega) (by omega) dX9_thingsOnCarts_9 (by decide) (fun c9_1 => ?_) (fun c9_1 => ?_)
      · skip
        refine lv_iload_n hx hb dX9_thingsOnCarts_32 rfl (lv_at hl 1 rfl) ?_
        exact zIret () hx hb hr hlocks hK hP hD hS dX9_thingsOnCarts_33 (show nI (acc) = nI (t_tc y) from (by rw [hacc, t_tc]; congr 2; omega))
      · skip
        refine lv_aload_n hx hb dX9_thingsOnCarts_12 rfl (lv_at hl 0 rfl) ?_
        refine va_get (ci := 8) (v := .ref (a 3)) hx hb hts h_X9 hown hK hP 0 rfl rfl 3 (by decide) f18 (fun _ h9 => h9) rfl dX9_thingsOnCarts_13 ?_
        refine lv_iload_n hx hb dX9_thingsOnCarts_16 rfl (lv_at hl 2 rfl) ?_
        refine zIald (n := 12) (f := y_cu y) (i := k) hx hb hK hP 3 rfl (by omega) (by decide) dX9_thingsOnCarts_17 ?_
        refine lv_bipush (v := (-4)) hx hb dX9_thingsOnCarts_18 (by decide) ?_
        refine lv_icmp_eq (tgt := 26) hx hb dX9_thingsOnCarts_20 (by decide) (fun c20_2 => ?_) (fun c20_2 => ?_)
        · skip
          refine lv_iinc (v := nI ((k + 1))) (lv' := [(2, .int (nI ((k + 1)))), (0, .ref (a 0)), (1, .int (nI (acc)))]) hx hb dX9_thingsOnCarts_26 hl (k := 2) rfl (zInc _) (by decide) rfl (fun ls hl => ?_)
          refine lv_goto (tgt := 4) hx hb dX9_thingsOnCarts_29 (by decide) ?_
          exact ih4 ((k + 1)) (acc) H locs ls (by omega) (by simp only [cN, hacc, c9_1, eq_true c20_2, p_in, p_worn, p_wi, not_true_eq_false, not_false_eq_true, if_true, if_false, and_true, true_and, and_false, false_and, or_true, true_or, or_false, false_or, and_self, or_self, iff_true, true_iff, iff_false, false_iff, decide_eq_true_eq, decide_true, decide_false, Int32.add_zero, Nat.add_zero, ne_eq, Bool.false_eq_true, eq_self]) (by omega) hP hD hS (lv_sub hl [1, 2, 0] rfl)
        · skip
          refine lv_iinc (v := nI ((acc + 1))) (lv' := [(1, .int (nI ((acc + 1)))), (0, .ref (a 0)), (2, .int (nI (k)))]) hx hb dX9_thingsOnCarts_23 hl (k := 1) rfl (zInc _) (by decide) rfl (fun ls hl => ?_)
          refine lv_iinc (v := nI ((k + 1))) (lv' := [(2, .int (nI ((k + 1)))), (1, .int (nI ((acc + 1)))), (0, .ref (a 0))]) hx hb dX9_thingsOnCarts_26 hl (k := 2) rfl (zInc _) (by decide) rfl (fun ls hl => ?_)
          refine lv_goto (tgt := 4) hx hb dX9_thingsOnCarts_29 (by decide) ?_
          exact ih4 ((k + 1)) ((acc + 1)) H locs ls (by omega) (by simp only [cN, hacc, c9_1, c20_2, p_in, p_worn, p_wi, not_true_eq_false, not_false_eq_true, if_true, if_false, and_true, true_and, and_false, false_and, or_true, true_or, or_false, false_or, and_self, or_self, iff_true, true_iff, iff_false, false_iff, decide_eq_true_eq, decide_true, decide_false, Int32.add_zero, Nat.add_zero, ne_eq, Bool.false_eq_true, eq_self]) (by omega) hP hD hS (lv_sub hl [2, 1, 0] rfl)
  exact lp4 ((y_n y - (0)) + 1) (0) (0) H locs ls (by omega) rfl (Nat.lt_succ_self _) hP hD hS (lv_sub hl [2, 1, 0] rfl)
abbrev rmX9_isWithinLimit : Room := { frames := 2, cells := 0, slots := 0, locals := 45 }
theorem in_X9_isWithinLimit_X9 : ∀ w ∈ u_ws RX9 TX9 16, w ∈ wsX9_isWithinLimit := by decide +kernel
set_option maxHeartbeats 4000000 in
set_option maxRecDepth 100000 in
theorem kX9_isWithinLimit {D : va_G} {ct : Nat → ClassId} {l : Launch} (a : Nat → Nat) (y : YS) (R : va_W) (x1 : Int32) (k : Nat) (hn : y_n y ≤ 12) (hk : k < 5) : MI D ct l yX9_isWithinLimit wsX9_isWithinLimit rmX9_isWithinLimit (YW ct a y R) [.ref (a 0), .int (x1), .int (nI (k))] (fun r0 (_ : Unit) => r0 = bI (p_wi y x1 k)) (fun _ : Unit => YW ct a y R) := by
  refine MIof (cc := cX9_isWithinLimit) (maxL := 3) (ret := (some .boolean)) (by decide) rfl (Nat.le_of_ble_eq_true rfl) ?_
  intro p e s m args below meth c A H locs F hP hK hD hS hA ls hl
  obtain ⟨hx, hb, hr, hlocks, hml, hown, hts, hin⟩ := F
  have hl : lv_has ls 3 [(0, .ref (a 0)), (1, .int (x1)), (2, .int (nI (k)))] := hl
  have h_X9 := in_X9_isWithinLimit_X9
  have f34 := hts (.fieldLink RX9 34 "CartArguments$Yard" "limits" "[I") (by decide +kernel)
  refine lv_aload_n hx hb dX9_isWithinLimit_0 rfl (lv_at hl 0 rfl) ?_
  refine lv_iload_n hx hb dX9_isWithinLimit_1 rfl (lv_at hl 1 rfl) ?_
  refine zVI [.int (x1)] [] (kX9_weightOfAllOn (a) (y) (R) (x1) (show y_n y ≤ 12 from by omega)) hx hb hml hown hts (cwV 1 hts gX9_isWithinLimit_X9_weightOfAllOn rfl rfl rfl (by decide +kernel) ⟨(Nat.le_of_ble_eq_true rfl), (Nat.le_of_ble_eq_true rfl)⟩) hK hP hD hS hA (va_recv hK hP (ci := 8) (q0 := 0) rfl rfl) rfl hl.1 rfl (Nat.le_of_ble_eq_true rfl) dX9_isWithinLimit_2 ⟨(Nat.le_of_ble_eq_true rfl), (Nat.le_of_ble_eq_true rfl)⟩ (fun r_2 _ H locs hr_2 hP hD hS => ?_)
  subst hr_2
  have hP : va_P D vwCl (YW ct a y R) H := hP
  have hD : va_D A (YW ct a y R) := hD
  refine lv_aload_n hx hb dX9_isWithinLimit_5 rfl (lv_at hl 0 rfl) ?_
  refine va_get (ci := 8) (v := .ref (a 8)) hx hb hts h_X9 hown hK hP 0 rfl rfl 10 (by decide) f34 (fun _ h9 => h9) rfl dX9_isWithinLimit_6 ?_
  refine lv_iload_n hx hb dX9_isWithinLimit_9 rfl (lv_at hl 2 rfl) ?_
  refine zIald (n := 5) (f := y_li y) (i := k) hx hb hK hP 8 rfl (by omega) (by decide) dX9_isWithinLimit_10 ?_
  refine lv_icmp_gt (tgt := 18) hx hb dX9_isWithinLimit_11 (by decide) (fun c11_1 => ?_) (fun c11_1 => ?_)
  · skip
    refine lv_iconst (v := nI (0)) hx hb dX9_isWithinLimit_18 (by decide) ?_
    exact zZret () (by decide) hx hb hr hlocks hK hP hD hS dX9_isWithinLimit_19 (show nI (0) = bI (p_wi y x1 k) from (by simp only [bI, c11_1, p_in, p_worn, p_wi, not_true_eq_false, not_false_eq_true, if_true, if_false, and_true, true_and, and_false, false_and, or_true, true_or, or_false, false_or, and_self, or_self, iff_true, true_iff, iff_false, false_iff, decide_eq_true_eq, decide_true, decide_false, Int32.add_zero, Nat.add_zero, ne_eq, Bool.false_eq_true, eq_self]))
  · skip
    refine lv_iconst (v := nI (1)) hx hb dX9_isWithinLimit_14 (by decide) ?_
    refine lv_goto (tgt := 19) hx hb dX9_isWithinLimit_15 (by decide) ?_
    exact zZret () (by decide) hx hb hr hlocks hK hP hD hS dX9_isWithinLimit_19 (show nI (1) = bI (p_wi y x1 k) from (by simp only [bI, c11_1, p_in, p_worn, p_wi, not_true_eq_false, not_false_eq_true, if_true, if_false, and_true, true_and, and_false, false_and, or_true, true_or, or_false, false_or, and_self, or_self, iff_true, true_iff, iff_false, false_iff, decide_eq_true_eq, decide_true, decide_false, Int32.add_zero, Nat.add_zero, ne_eq, Bool.false_eq_true, eq_self]))
abbrev rmX9_wearIndex : Room := { frames := 0, cells := 0, slots := 0, locals := 0 }
set_option maxHeartbeats 4000000 in
set_option maxRecDepth 100000 in
theorem kX9_wearIndex {D : va_G} {ct : Nat → ClassId} {l : Launch} (a : Nat → Nat) (y : YS) (R : va_W) (k : Nat) (x2 : Int32) : MI D ct l yX9_wearIndex wsX9_wearIndex rmX9_wearIndex (YW ct a y R) [.int (nI (k)), .int (x2)] (fun r0 (_ : Unit) => r0 = nI (wix k x2)) (fun _ : Unit => YW ct a y R) := by
  refine MIof (cc := cX9_wearIndex) (maxL := 2) (ret := (some .int)) (by decide) rfl (Nat.le_of_ble_eq_true rfl) ?_
  intro p e s m args below meth c A H locs F hP hK hD hS hA ls hl
  obtain ⟨hx, hb, hr, hlocks, hml, hown, hts, hin⟩ := F
  have hl : lv_has ls 2 [(0, .int (nI (k))), (1, .int (x2))] := hl
  refine lv_iload_n hx hb dX9_wearIndex_0 rfl (lv_at hl 1 rfl) ?_
  refine lv_if_eq (tgt := 12) hx hb dX9_wearIndex_1 (by decide) (fun c1_1 => ?_) (fun c1_1 => ?_)
  · skip
    refine lv_iconst (v := nI (2)) hx hb dX9_wearIndex_12 (by decide) ?_
    refine lv_iload_n hx hb dX9_wearIndex_13 rfl (lv_at hl 0 rfl) ?_
    refine zNmul hx hb dX9_wearIndex_14 ?_
    exact zIret () hx hb hr hlocks hK hP hD hS dX9_wearIndex_15 (show nI ((2 * k)) = nI (wix k x2) from (by simp only [wix, eq_true c1_1, p_in, p_worn, p_wi, not_true_eq_false, not_false_eq_true, if_true, if_false, and_true, true_and, and_false, false_and, or_true, true_or, or_false, false_or, and_self, or_self, iff_true, true_iff, iff_false, false_iff, decide_eq_true_eq, decide_true, decide_false, Int32.add_zero, Nat.add_zero, ne_eq, Bool.false_eq_true, eq_self]))
  · skip
    refine lv_iconst (v := nI (2)) hx hb dX9_wearIndex_4 (by decide) ?_
    refine lv_iload_n hx hb dX9_wearIndex_5 rfl (lv_at hl 0 rfl) ?_
    refine zNmul hx hb dX9_wearIndex_6 ?_
    refine lv_iconst (v := nI (1)) hx hb dX9_wearIndex_7 (by decide) ?_
    refine zNadd hx hb dX9_wearIndex_8 ?_
    refine lv_goto (tgt := 15) hx hb dX9_wearIndex_9 (by decide) ?_
    exact zIret () hx hb hr hlocks hK hP hD hS dX9_wearIndex_15 (show nI (((2 * k) + 1)) = nI (wix k x2) from (by simp only [wix, c1_1, p_in, p_worn, p_wi, not_true_eq_false, not_false_eq_true, if_true, if_false, and_true, true_and, and_false, false_and, or_true, true_or, or_false, false_or, and_self, or_self, iff_true, true_iff, iff_false, false_iff, decide_eq_true_eq, decide_true, decide_false, Int32.add_zero, Nat.add_zero, ne_eq, Bool.false_eq_true, eq_self]))
abbrev rmX9_wearOf : Room := { frames := 1, cells := 0, slots := 0, locals := 21 }
theorem in_X9_wearOf_X9 : ∀ w ∈ u_ws RX9 TX9 16, w ∈ wsX9_wearOf := by decide +kernel
set_option maxHeartbeats 4000000 in
set_option maxRecDepth 100000 in
theorem kX9_wearOf {D : va_G} {ct : Nat → ClassId} {l : Launch} (a : Nat → Nat) (y : YS) (R : va_W) (k : Nat) (x2 : Int32) (hk : k < 4) : MF D ct l yX9_wearOf wsX9_wearOf rmX9_wearOf (YW ct a y R) [.ref (a 0), .int (nI (k)), .int (x2)] (fun r0 (_ : Unit) => r0 = y_wr y (wix k x2)) (fun _ : Unit => YW ct a y R) := by
  refine MFof (cc := cX9_wearOf) (maxL := 3) (ret := (some .float)) (by decide) rfl (Nat.le_of_ble_eq_true rfl) ?_
  intro p e s m args below meth c A H locs F hP hK hD hS hA ls hl
  obtain ⟨hx, hb, hr, hlocks, hml, hown, hts, hin⟩ := F
  have hl : lv_has ls 3 [(0, .ref (a 0)), (1, .int (nI (k))), (2, .int (x2))] := hl
  have h_X9 := in_X9_wearOf_X9
  have f27 := hts (.fieldLink RX9 27 "CartArguments$Yard" "wears" "[F") (by decide +kernel)
  refine lv_aload_n hx hb dX9_wearOf_0 rfl (lv_at hl 0 rfl) ?_
  refine va_get (ci := 8) (v := .ref (a 6)) hx hb hts h_X9 hown hK hP 0 rfl rfl 7 (by decide) f27 (fun _ h9 => h9) rfl dX9_wearOf_1 ?_
  refine lv_iload_n hx hb dX9_wearOf_4 rfl (lv_at hl 1 rfl) ?_
  refine lv_iload_n hx hb dX9_wearOf_5 rfl (lv_at hl 2 rfl) ?_
  refine zSI [.int (nI (k)), .int (x2)] [.ref (a 6)] (kX9_wearIndex (a) (y) (R) (k) (x2)) hx hb hml hown hts (va_cwS 2 hts gX9_wearOf_X9_wearIndex rfl rfl rfl (by decide +kernel) ⟨(Nat.le_of_ble_eq_true rfl), (Nat.le_of_ble_eq_true rfl)⟩) hK hP hD hS hA rfl hl.1 rfl (Nat.le_of_ble_eq_true rfl) dX9_wearOf_6 ⟨(Nat.le_of_ble_eq_true rfl), (Nat.le_of_ble_eq_true rfl)⟩ (fun r_6 _ H locs hr_6 hP hD hS => ?_)
  subst hr_6
  have hP : va_P D vwCl (YW ct a y R) H := hP
  have hD : va_D A (YW ct a y R) := hD
  refine zFald (n := 8) (f := y_wr y) (i := wix (k) (x2)) hx hb hK hP 6 rfl (wix_lt hk) (by decide) dX9_wearOf_9 ?_
  exact zFret () hx hb hr hlocks hK hP hD hS dX9_wearOf_10 (show (y_wr y (wix (k) (x2))) = y_wr y (wix k x2) from rfl)
abbrev rmX9_setWear : Room := { frames := 1, cells := 0, slots := 0, locals := 21 }
theorem in_X9_setWear_X9 : ∀ w ∈ u_ws RX9 TX9 16, w ∈ wsX9_setWear := by decide +kernel
set_option maxHeartbeats 4000000 in
set_option maxRecDepth 100000 in
theorem kX9_setWear {D : va_G} {ct : Nat → ClassId} {l : Launch} (a : Nat → Nat) (y : YS) (R : va_W) (k : Nat) (x2 : Int32) (v : UInt32) (hk : k < 4) : MV D ct l yX9_setWear wsX9_setWear rmX9_setWear (YW ct a y R) [.ref (a 0), .int (nI (k)), .int (x2), .float (v)] (fun _ : Unit => True) (fun _ : Unit => YW ct a (y_n y, y_kd y, y_w y, y_cu y, y_pl y, y_cn y, y_st y, (vf_upd (y_wr y) (wix k x2) v), y_tr y, y_rn y, y_li y, y_mi y, y_ra y, y_rt y, y_tl y, y_mm y) R) := by
  refine MVof (cc := cX9_setWear) (maxL := 4) (ret := none) (by decide) rfl (Nat.le_of_ble_eq_true rfl) ?_
  intro p e s m args below meth c A H locs F hP hK hD hS hA ls hl
  obtain ⟨hx, hb, hr, hlocks, hml, hown, hts, hin⟩ := F
  have hl : lv_has ls 4 [(0, .ref (a 0)), (1, .int (nI (k))), (2, .int (x2)), (3, .float (v))] := hl
  have h_X9 := in_X9_setWear_X9
  have f27 := hts (.fieldLink RX9 27 "CartArguments$Yard" "wears" "[F") (by decide +kernel)
  refine lv_aload_n hx hb dX9_setWear_0 rfl (lv_at hl 0 rfl) ?_
  refine va_get (ci := 8) (v := .ref (a 6)) hx hb hts h_X9 hown hK hP 0 rfl rfl 7 (by decide) f27 (fun _ h9 => h9) rfl dX9_setWear_1 ?_
  refine lv_iload_n hx hb dX9_setWear_4 rfl (lv_at hl 1 rfl) ?_
  refine lv_iload_n hx hb dX9_setWear_5 rfl (lv_at hl 2 rfl) ?_
  refine zSI [.int (nI (k)), .int (x2)] [.ref (a 6)] (kX9_wearIndex (a) (y) (R) (k) (x2)) hx hb hml hown hts (va_cwS 2 hts gX9_setWear_X9_wearIndex rfl rfl rfl (by decide +kernel) ⟨(Nat.le_of_ble_eq_true rfl), (Nat.le_of_ble_eq_true rfl)⟩) hK hP hD hS hA rfl hl.1 rfl (Nat.le_of_ble_eq_true rfl) dX9_setWear_6 ⟨(Nat.le_of_ble_eq_true rfl), (Nat.le_of_ble_eq_true rfl)⟩ (fun r_6 _ H locs hr_6 hP hD hS => ?_)
  subst hr_6
  have hP : va_P D vwCl (YW ct a y R) H := hP
  have hD : va_D A (YW ct a y R) := hD
  refine lv_fload_n hx hb dX9_setWear_9 rfl (lv_at hl 3 rfl) ?_
  refine zFast (n := 8) (f := y_wr y) (i := wix (k) (x2)) hx hb hK hP hD hS 6 rfl (wix_lt hk) (by decide) dX9_setWear_10 (fun H locs hP hD hS => ?_)
  have hP : va_P D vwCl (YW ct a (y_n y, y_kd y, y_w y, y_cu y, y_pl y, y_cn y, y_st y, (vf_upd (y_wr y) (wix (k) (x2)) (v)), y_tr y, y_rn y, y_li y, y_mi y, y_ra y, y_rt y, y_tl y, y_mm y) R) H := hP
  have hD : va_D A (YW ct a (y_n y, y_kd y, y_w y, y_cu y, y_pl y, y_cn y, y_st y, (vf_upd (y_wr y) (wix (k) (x2)) (v)), y_tr y, y_rn y, y_li y, y_mi y, y_ra y, y_rt y, y_tl y, y_mm y) R) := hD
  exact zVret () hx hb hr hlocks hK hP hD hS dX9_setWear_11 trivial
abbrev rmX9_isWornOut : Room := { frames := 2, cells := 0, slots := 0, locals := 43 }
set_option maxHeartbeats 4000000 in
set_option maxRecDepth 100000 in
theorem kX9_isWornOut {D : va_G} {ct : Nat → ClassId} {l : Launch} (a : Nat → Nat) (y : YS) (R : va_W) (k : Nat) (x2 : Int32) (hk : k < 4) : MI D ct l yX9_isWornOut wsX9_isWornOut rmX9_isWornOut (YW ct a y R) [.ref (a 0), .int (nI (k)), .int (x2)] (fun r0 (_ : Unit) => r0 = bI (p_worn (y_wr y (wix k x2)))) (fun _ : Unit => YW ct a y R) := by
  refine MIof (cc := cX9_isWornOut) (maxL := 3) (ret := (some .boolean)) (by decide) rfl (Nat.le_of_ble_eq_true rfl) ?_
  intro p e s m args below meth c A H locs F hP hK hD hS hA ls hl
  obtain ⟨hx, hb, hr, hlocks, hml, hown, hts, hin⟩ := F
  have hl : lv_has ls 3 [(0, .ref (a 0)), (1, .int (nI (k))), (2, .int (x2))] := hl
  refine lv_aload_n hx hb dX9_isWornOut_0 rfl (lv_at hl 0 rfl) ?_
  refine lv_iload_n hx hb dX9_isWornOut_1 rfl (lv_at hl 1 rfl) ?_
  refine lv_iload_n hx hb dX9_isWornOut_2 rfl (lv_at hl 2 rfl) ?_
  refine zVF [.int (nI (k)), .int (x2)] [] (kX9_wearOf (a) (y) (R) (k) (x2) (show (k) < 4 from by omega)) hx hb hml hown hts (cwV 2 hts gX9_isWornOut_X9_wearOf rfl rfl rfl (by decide +kernel) ⟨(Nat.le_of_ble_eq_true rfl), (Nat.le_of_ble_eq_true rfl)⟩) hK hP hD hS hA (va_recv hK hP (ci := 8) (q0 := 0) rfl rfl) rfl hl.1 rfl (Nat.le_of_ble_eq_true rfl) dX9_isWornOut_3 ⟨(Nat.le_of_ble_eq_true rfl), (Nat.le_of_ble_eq_true rfl)⟩ (fun r_3 _ H locs hr_3 hP hD hS => ?_)
  subst hr_3
  have hP : va_P D vwCl (YW ct a y R) H := hP
  have hD : va_D A (YW ct a y R) := hD
  refine lv_fconst1 hx hb dX9_isWornOut_6 ?_
  refine lv_fcmp hx hb dX9_isWornOut_7 ?_
  refine lv_if_lt (tgt := 15) hx hb dX9_isWornOut_8 (by decide) (fun c8_1 => ?_) (fun c8_1 => ?_)
  · skip
    refine lv_iconst (v := nI (0)) hx hb dX9_isWornOut_15 (by decide) ?_
    exact zZret () (by decide) hx hb hr hlocks hK hP hD hS dX9_isWornOut_16 (show nI (0) = bI (p_worn (y_wr y (wix k x2))) from (by simp only [bI, c8_1, p_in, p_worn, p_wi, not_true_eq_false, not_false_eq_true, if_true, if_false, and_true, true_and, and_false, false_and, or_true, true_or, or_false, false_or, and_self, or_self, iff_true, true_iff, iff_false, false_iff, decide_eq_true_eq, decide_true, decide_false, Int32.add_zero, Nat.add_zero, ne_eq, Bool.false_eq_true, eq_self]))
  · skip
    refine lv_iconst (v := nI (1)) hx hb dX9_isWornOut_11 (by decide) ?_
    refine lv_goto (tgt := 16) hx hb dX9_isWornOut_12 (by decide) ?_
    exact zZret () (by decide) hx hb hr hlocks hK hP hD hS dX9_isWornOut_16 (show nI (1) = bI (p_worn (y_wr y (wix k x2))) from (by simp only [bI, c8_1, p_in, p_worn, p_wi, not_true_eq_false, not_false_eq_true, if_true, if_false, and_true, true_and, and_false, false_and, or_true, true_or, or_false, false_or, and_self, or_self, iff_true, true_iff, iff_false, false_iff, decide_eq_true_eq, decide_true, decide_false, Int32.add_zero, Nat.add_zero, ne_eq, Bool.false_eq_true, eq_self]))
abbrev rmX9_wornOutAxles : Room := { frames := 3, cells := 0, slots := 0, locals := 65 }
set_option maxHeartbeats 4000000 in
set_option maxRecDepth 100000 in
theorem kX9_wornOutAxles {D : va_G} {ct : Nat → ClassId} {l : Launch} (a : Nat → Nat) (y : YS) (R : va_W) (k : Nat) (hk : k < 4) : MI D ct l yX9_wornOutAxles wsX9_wornOutAxles rmX9_wornOutAxles (YW ct a y R) [.ref (a 0), .int (nI (k))] (fun r0 (_ : Unit) => r0 = nI (t_wn y k)) (fun _ : Unit => YW ct a y R) := by
  refine MIof (cc := cX9_wornOutAxles) (maxL := 2) (ret := (some .int)) (by decide) rfl (Nat.le_of_ble_eq_true rfl) ?_
  intro p e s m args below meth c A H locs F hP hK hD hS hA ls hl
  obtain ⟨hx, hb, hr, hlocks, hml, hown, hts, hin⟩ := F
  have hl : lv_has ls 2 [(0, .ref (a 0)), (1, .int (nI (k)))] := hl
  refine lv_aload_n hx hb dX9_wornOutAxles_0 rfl (lv_at hl 0 rfl) ?_
  refine lv_iload_n hx hb dX9_wornOutAxles_1 rfl (lv_at hl 1 rfl) ?_
  refine lv_iconst (v := nI (0)) hx hb dX9_wornOutAxles_2 (by decide) ?_
  refine zVI [.int (nI (k)), .int (nI (0))] [] (kX9_isWornOut (a) (y) (R) (k) (nI (0)) (show (k) < 4 from by omega)) hx hb hml hown hts (cwV 2 hts gX9_wornOutAxles_X9_isWornOut rfl rfl rfl (by decide +kernel) ⟨(Nat.le_of_ble_eq_true rfl), (Nat.le_of_ble_eq_true rfl)⟩) hK hP hD hS hA (va_recv hK hP (ci := 8) (q0 := 0) rfl rfl) rfl hl.1 rfl (Nat.le_of_ble_eq_true rfl) dX9_wornOutAxles_3 ⟨(Nat.le_of_ble_eq_true rfl), (Nat.le_of_ble_eq_true rfl)⟩ (fun r_3 _ H locs hr_3 hP hD hS => ?_)
  subst hr_3
  have hP : va_P D vwCl (YW ct a y R) H := hP
  have hD : va_D A (YW ct a y R) := hD
  refine zB_if_eq (tgt := 13) hx hb dX9_wornOutAxles_6 (by decide) (fun c6_1 => ?_) (fun c6_1 => ?_)
  · skip
    refine lv_iconst (v := nI (0)) hx hb dX9_wornOutAxles_13 (by decide) ?_
    refine lv_aload_n hx hb dX9_wornOutAxles_14 rfl (lv_at hl 0 rfl) ?_
    refine lv_iload_n hx hb dX9_wornOutAxles_15 rfl (lv_at hl 1 rfl) ?_
    refine lv_iconst (v := nI (1)) hx hb dX9_wornOutAxles_16 (by decide) ?_
    refine zVI [.int (nI (k)), .int (nI (1))] [.int (nI (0))] (kX9_isWornOut (a) (y) (R) (k) (nI (1)) (show (k) < 4 from by omega)) hx hb hml hown hts (cwV 2 hts gX9_wornOutAxles_X9_isWornOut rfl rfl rfl (by decide +kernel) ⟨(Nat.le_of_ble_eq_true rfl), (Nat.le_of_ble_eq_true rfl)⟩) hK hP hD hS hA (va_recv hK hP (ci := 8) (q0 := 0) rfl rfl) rfl hl.1 rfl (Nat.le_of_ble_eq_true rfl) dX9_wornOutAxles_17 ⟨(Nat.le_of_ble_eq_true rfl), (Nat.le_of_ble_eq_true rfl)⟩ (fun r_17 _ H locs hr_17 hP hD hS => ?_)
    subst hr_17
    have hP : va_P D vwCl (YW ct a y R) H := hP
    have hD : va_D A (YW ct a y R) := hD
    refine zB_if_eq (tgt := 27) hx hb dX9_wornOutAxles_20 (by decide) (fun c20_2 => ?_) (fun c20_2 => ?_)
    · skip
      refine lv_iconst (v := nI (0)) hx hb dX9_wornOutAxles_27 (by decide) ?_
      refine zNadd hx hb dX9_wornOutAxles_28 ?_
      exact zIret () hx hb hr hlocks hK hP hD hS dX9_wornOutAxles_29 (show nI ((0 + 0)) = nI (t_wn y k) from (by simp only [t_wn, c6_1, c20_2, p_in, p_worn, p_wi, not_true_eq_false, not_false_eq_true, if_true, if_false, and_true, true_and, and_false, false_and, or_true, true_or, or_false, false_or, and_self, or_self, iff_true, true_iff, iff_false, false_iff, decide_eq_true_eq, decide_true, decide_false, Int32.add_zero, Nat.add_zero, ne_eq, Bool.false_eq_true, eq_self]))
    · skip
      refine lv_iconst (v := nI (1)) hx hb dX9_wornOutAxles_23 (by decide) ?_
      refine lv_goto (tgt := 28) hx hb dX9_wornOutAxles_24 (by decide) ?_
      refine zNadd hx hb dX9_wornOutAxles_28 ?_
      exact zIret () hx hb hr hlocks hK hP hD hS dX9_wornOutAxles_29 (show nI ((0 + 1)) = nI (t_wn y k) from (by simp only [t_wn, c6_1, c20_2, p_in, p_worn, p_wi, not_true_eq_false, not_false_eq_true, if_true, if_false, and_true, true_and, and_false, false_and, or_true, true_or, or_false, false_or, and_self, or_self, iff_true, true_iff, iff_false, false_iff, decide_eq_true_eq, decide_true, decide_false, Int32.add_zero, Nat.add_zero, ne_eq, Bool.false_eq_true, eq_self]))
  · skip
    refine lv_iconst (v := nI (1)) hx hb dX9_wornOutAxles_9 (by decide) ?_
    refine lv_goto (tgt := 14) hx hb dX9_wornOutAxles_10 (by decide) ?_
    refine lv_aload_n hx hb dX9_wornOutAxles_14 rfl (lv_at hl 0 rfl) ?_
    refine lv_iload_n hx hb dX9_wornOutAxles_15 rfl (lv_at hl 1 rfl) ?_
    refine lv_iconst (v := nI (1)) hx hb dX9_wornOutAxles_16 (by decide) ?_
    refine zVI [.int (nI (k)), .int (nI (1))] [.int (nI (1))] (kX9_isWornOut (a) (y) (R) (k) (nI (1)) (show (k) < 4 from by omega)) hx hb hml hown hts (cwV 2 hts gX9_wornOutAxles_X9_isWornOut rfl rfl rfl (by decide +kernel) ⟨(Nat.le_of_ble_eq_true rfl), (Nat.le_of_ble_eq_true rfl)⟩) hK hP hD hS hA (va_recv hK hP (ci := 8) (q0 := 0) rfl rfl) rfl hl.1 rfl (Nat.le_of_ble_eq_true rfl) dX9_wornOutAxles_17 ⟨(Nat.le_of_ble_eq_true rfl), (Nat.le_of_ble_eq_true rfl)⟩ (fun r_17 _ H locs hr_17 hP hD hS => ?_)
    subst hr_17
    have hP : va_P D vwCl (YW ct a y R) H := hP
    have hD : va_D A (YW ct a y R) := hD
    refine zB_if_eq (tgt := 27) hx hb dX9_wornOutAxles_20 (by decide) (fun c20_3 => ?_) (fun c20_3 => ?_)
    · skip
      refine lv_iconst (v := nI (0)) hx hb dX9_wornOutAxles_27 (by decide) ?_
      refine zNadd hx hb dX9_wornOutAxles_28 ?_
      exact zIret () hx hb hr hlocks hK hP hD hS dX9_wornOutAxles_29 (show nI ((1 + 0)) = nI (t_wn y k) from (by simp only [t_wn, c6_1, c20_3, p_in, p_worn, p_wi, not_true_eq_false, not_false_eq_true, if_true, if_false, and_true, true_and, and_false, false_and, or_true, true_or, or_false, false_or, and_self, or_self, iff_true, true_iff, iff_false, false_iff, decide_eq_true_eq, decide_true, decide_false, Int32.add_zero, Nat.add_zero, ne_eq, Bool.false_eq_true, eq_self]))
    · skip
      refine lv_iconst (v := nI (1)) hx hb dX9_wornOutAxles_23 (by decide) ?_
      refine lv_goto (tgt := 28) hx hb dX9_wornOutAxles_24 (by decide) ?_
      refine zNadd hx hb dX9_wornOutAxles_28 ?_
      exact zIret () hx hb hr hlocks hK hP hD hS dX9_wornOutAxles_29 (show nI ((1 + 1)) = nI (t_wn y k) from (by simp only [t_wn, c6_1, c20_3, p_in, p_worn, p_wi, not_true_eq_false, not_false_eq_true, if_true, if_false, and_true, true_and, and_false, false_and, or_true, true_or, or_false, false_or, and_self, or_self, iff_true, true_iff, iff_false, false_iff, decide_eq_true_eq, decide_true, decide_false, Int32.add_zero, Nat.add_zero, ne_eq, Bool.false_eq_true, eq_self]))
abbrev rmX9_allWornOutAxles : Room := { frames := 4, cells := 0, slots := 0, locals := 86 }
theorem in_X9_allWornOutAxles_X9 : ∀ w ∈ u_ws RX9 TX9 16, w ∈ wsX9_allWornOutAxles := by decide +kernel
set_option maxHeartbeats 4000000 in
set_option maxRecDepth 100000 in
theorem kX9_allWornOutAxles {D : va_G} {ct : Nat → ClassId} {l : Launch} (a : Nat → Nat) (y : YS) (R : va_W)  (hc : y_cn y ≤ 4) : MI D ct l yX9_allWornOutAxles wsX9_allWornOutAxles rmX9_allWornOutAxles (YW ct a y R) [.ref (a 0)] (fun r0 (_ : Unit) => r0 = nI (t_awn y)) (fun _ : Unit => YW ct a y R) := by
  refine MIof (cc := cX9_allWornOutAxles) (maxL := 3) (ret := (some .int)) (by decide) rfl (Nat.le_of_ble_eq_true rfl) ?_
  intro p e s m args below meth c A H locs F hP hK hD hS hA ls hl
  obtain ⟨hx, hb, hr, hlocks, hml, hown, hts, hin⟩ := F
  have hl : lv_has ls 3 [(0, .ref (a 0))] := hl
  have h_X9 := in_X9_allWornOutAxles_X9
  have f50 := hts (.fieldLink RX9 50 "CartArguments$Yard" "carts" "I") (by decide +kernel)
  refine lv_iconst (v := nI (0)) hx hb dX9_allWornOutAxles_0 (by decide) ?_
  refine lv_istore_n (lv' := [(1, .int (nI (0))), (0, .ref (a 0))]) hx hb dX9_allWornOutAxles_1 rfl hl (by decide) rfl (fun ls hl => ?_)
  refine lv_iconst (v := nI (0)) hx hb dX9_allWornOutAxles_2 (by decide) ?_
  refine lv_istore_n (lv' := [(2, .int (nI (0))), (1, .int (nI (0))), (0, .ref (a 0))]) hx hb dX9_allWornOutAxles_3 rfl hl (by decide) rfl (fun ls hl => ?_)
  have lp4 : ∀ (fu : Nat) (k : Nat) (acc : Nat) (H : Heap) (locs : List Loc) (ls : Array Slot), (k ≤ y_cn y) → (acc = sN (fun k => t_wn y k) k) → y_cn y - k < fu → va_P D vwCl (YW ct a y R) H → va_D A (YW ct a y R) → va_S A s.heap H locs → lv_has ls 3 [(0, .ref (a 0)), (1, .int (nI (acc))), (2, .int (nI (k)))] → W p l e rmX9_allWornOutAxles s m args below meth c H locs 0 0 (MQ below (va_Qi (fun r0 (_ : Unit) => r0 = nI (t_awn y)) (zB D ct A (fun _ : Unit => YW ct a y R)) A) args s rmX9_allWornOutAxles.cells rmX9_allWornOutAxles.slots A) (F0 m 4 ls []) := by
    intro fu
    induction fu with
    | zero => intro k acc H locs ls hk hacc hfu; exact absurd hfu (Nat.not_lt_zero _)
    | succ fu ih4 =>
      intro k acc H locs ls hk hacc hfu hP hD hS hl
      refine lv_iload_n hx hb dX9_allWornOutAxles_4 rfl (lv_at hl 2 rfl) ?_
      refine lv_aload_n hx hb dX9_allWornOutAxles_5 rfl (lv_at hl 0 rfl) ?_
      refine va_get (ci := 8) (v := .int (nI (y_cn y))) hx hb hts h_X9 hown hK hP 0 rfl rfl 5 (by decide) f50 (fun _ h9 => h9) rfl dX9_allWornOutAxles_6 ?_
      refine zN_icmp_ge (tgt := 26) hx hb (by omega) (by omega) dX9_allWornOutAxles_9 (by decide) (fun c9_1 => ?_) (fun c9_1 => ?_)
      · skip
        refine lv_iload_n hx hb dX9_allWornOutAxles_26 rfl (lv_at hl 1 rfl) ?_
        exact zIret () hx hb hr hlocks hK hP hD hS dX9_allWornOutAxles_27 (show nI (acc) = nI (t_awn y) from (by rw [hacc, t_awn]; congr 2; omega))
      · skip
        refine lv_iload_n hx hb dX9_allWornOutAxles_12 rfl (lv_at hl 1 rfl) ?_
        refine lv_aload_n hx hb dX9_allWornOutAxles_13 rfl (lv_at hl 0 rfl) ?_
        refine lv_iload_n hx hb dX9_allWornOutAxles_14 rfl (lv_at hl 2 rfl) ?_
        refine zVI [.int (nI (k))] [.int (nI (acc))] (kX9_wornOutAxles (a) (y) (R) (k) (show (k) < 4 from by omega)) hx hb hml hown hts (cwV 1 hts gX9_allWornOutAxles_X9_wornOutAxles rfl rfl rfl (by decide +kernel) ⟨(Nat.le_of_ble_eq_true rfl), (Nat.le_of_ble_eq_true rfl)⟩) hK hP hD hS hA (va_recv hK hP (ci := 8) (q0 := 0) rfl rfl) rfl hl.1 rfl (Nat.le_of_ble_eq_true rfl) dX9_allWornOutAxles_15 ⟨(Nat.le_of_ble_eq_true rfl), (Nat.le_of_ble_eq_true rfl)⟩ (fun r_15 _ H locs hr_15 hP hD hS => ?_)
        subst hr_15
        have hP : va_P D vwCl (YW ct a y R) H := hP
        have hD : va_D A (YW ct a y R) := hD
        have q15 := t_wn_le y (k)
        refine zNadd hx hb dX9_allWornOutAxles_18 ?_
        refine lv_istore_n (lv' := [(1, .int (nI ((acc + t_wn y (k))))), (0, .ref (a 0)), (2, .int (nI (k)))]) hx hb dX9_allWornOutAxles_19 rfl hl (by decide) rfl (fun ls hl => ?_)
        refine lv_iinc (v := nI ((k + 1))) (lv' := [(2, .int (nI ((k + 1)))), (1, .int (nI ((acc + t_wn y (k))))), (0, .ref (a 0))]) hx hb dX9_allWornOutAxles_20 hl (k := 2) rfl (zInc _) (by decide) rfl (fun ls hl => ?_)
        refine lv_goto (tgt := 4) hx hb dX9_allWornOutAxles_23 (by decide) ?_
        exact ih4 ((k + 1)) ((acc + t_wn y (k))) H locs ls (by omega) (by simp only [sN, hacc, c9_1, p_in, p_worn, p_wi, not_true_eq_false, not_false_eq_true, if_true, if_false, and_true, true_and, and_false, false_and, or_true, true_or, or_false, false_or, and_self, or_self, iff_true, true_iff, iff_false, false_iff, decide_eq_true_eq, decide_true, decide_false, Int32.add_zero, Nat.add_zero, ne_eq, Bool.false_eq_true, eq_self]) (by omega) hP hD hS (lv_sub hl [2, 1, 0] rfl)
  exact lp4 ((y_cn y - (0)) + 1) (0) (0) H locs ls (by omega) rfl (Nat.lt_succ_self _) hP hD hS (lv_sub hl [2, 1, 0] rfl)
abbrev rmX9_tripsSoFar : Room := { frames := 0, cells := 0, slots := 0, locals := 0 }
theorem in_X9_tripsSoFar_X9 : ∀ w ∈ u_ws RX9 TX9 16, w ∈ wsX9_tripsSoFar := by decide +kernel
set_option maxHeartbeats 4000000 in
set_option maxRecDepth 100000 in
theorem kX9_tripsSoFar {D : va_G} {ct : Nat → ClassId} {l : Launch} (a : Nat → Nat) (y : YS) (R : va_W)  (hc : y_cn y ≤ 4) : MI D ct l yX9_tripsSoFar wsX9_tripsSoFar rmX9_tripsSoFar (YW ct a y R) [.ref (a 0)] (fun r0 (_ : Unit) => r0 = t_ts y) (fun _ : Unit => YW ct a y R) := by
  refine MIof (cc := cX9_tripsSoFar) (maxL := 3) (ret := (some .int)) (by decide) rfl (Nat.le_of_ble_eq_true rfl) ?_
  intro p e s m args below meth c A H locs F hP hK hD hS hA ls hl
  obtain ⟨hx, hb, hr, hlocks, hml, hown, hts, hin⟩ := F
  have hl : lv_has ls 3 [(0, .ref (a 0))] := hl
  have h_X9 := in_X9_tripsSoFar_X9
  have f31 := hts (.fieldLink RX9 31 "CartArguments$Yard" "cartTrips" "[I") (by decide +kernel)
  have f50 := hts (.fieldLink RX9 50 "CartArguments$Yard" "carts" "I") (by decide +kernel)
  refine lv_iconst (v := nI (0)) hx hb dX9_tripsSoFar_0 (by decide) ?_
  refine lv_istore_n (lv' := [(1, .int (nI (0))), (0, .ref (a 0))]) hx hb dX9_tripsSoFar_1 rfl hl (by decide) rfl (fun ls hl => ?_)
  refine lv_iconst (v := nI (0)) hx hb dX9_tripsSoFar_2 (by decide) ?_
  refine lv_istore_n (lv' := [(2, .int (nI (0))), (1, .int (nI (0))), (0, .ref (a 0))]) hx hb dX9_tripsSoFar_3 rfl hl (by decide) rfl (fun ls hl => ?_)
  have lp4 : ∀ (fu : Nat) (k : Nat) (acc : Int32) (H : Heap) (locs : List Loc) (ls : Array Slot), (k ≤ y_cn y) → (acc = sI (fun k => y_tr y k) k) → y_cn y - k < fu → va_P D vwCl (YW ct a y R) H → va_D A (YW ct a y R) → va_S A s.heap H locs → lv_has ls 3 [(0, .ref (a 0)), (1, .int (acc)), (2, .int (nI (k)))] → W p l e rmX9_tripsSoFar s m args below meth c H locs 0 0 (MQ below (va_Qi (fun r0 (_ : Unit) => r0 = t_ts y) (zB D ct A (fun _ : Unit => YW ct a y R)) A) args s rmX9_tripsSoFar.cells rmX9_tripsSoFar.slots A) (F0 m 4 ls []) := by
    intro fu
    induction fu with
    | zero => intro k acc H locs ls hk hacc hfu; exact absurd hfu (Nat.not_lt_zero _)
    | succ fu ih4 =>
      intro k acc H locs ls hk hacc hfu hP hD hS hl
      refine lv_iload_n hx hb dX9_tripsSoFar_4 rfl (lv_at hl 2 rfl) ?_
      refine lv_aload_n hx hb dX9_tripsSoFar_5 rfl (lv_at hl 0 rfl) ?_
      refine va_get (ci := 8) (v := .int (nI (y_cn y))) hx hb hts h_X9 hown hK hP 0 rfl rfl 5 (by decide) f50 (fun _ h9 => h9) rfl dX9_tripsSoFar_6 ?_
      refine zN_icmp_ge (tgt := 27) hx hb (by omega) (by omega) dX9_tripsSoFar_9 (by decide) (fun c9_1 => ?_) (fun c9_1 => ?_)
      · skip
        refine lv_iload_n hx hb dX9_tripsSoFar_27 rfl (lv_at hl 1 rfl) ?_
        exact zIret () hx hb hr hlocks hK hP hD hS dX9_tripsSoFar_28 (show acc = t_ts y from (by rw [hacc, t_ts]; congr 1; omega))
      · skip
        refine lv_iload_n hx hb dX9_tripsSoFar_12 rfl (lv_at hl 1 rfl) ?_
        refine lv_aload_n hx hb dX9_tripsSoFar_13 rfl (lv_at hl 0 rfl) ?_
        refine va_get (ci := 8) (v := .ref (a 7)) hx hb hts h_X9 hown hK hP 0 rfl rfl 8 (by decide) f31 (fun _ h9 => h9) rfl dX9_tripsSoFar_14 ?_
        refine lv_iload_n hx hb dX9_tripsSoFar_17 rfl (lv_at hl 2 rfl) ?_
        refine zIald (n := 4) (f := y_tr y) (i := k) hx hb hK hP 7 rfl (by omega) (by decide) dX9_tripsSoFar_18 ?_
        refine lv_iadd hx hb dX9_tripsSoFar_19 ?_
        refine lv_istore_n (lv' := [(1, .int ((acc + (y_tr y (k))))), (0, .ref (a 0)), (2, .int (nI (k)))]) hx hb dX9_tripsSoFar_20 rfl hl (by decide) rfl (fun ls hl => ?_)
        refine lv_iinc (v := nI ((k + 1))) (lv' := [(2, .int (nI ((k + 1)))), (1, .int ((acc + (y_tr y (k))))), (0, .ref (a 0))]) hx hb dX9_tripsSoFar_21 hl (k := 2) rfl (zInc _) (by decide) rfl (fun ls hl => ?_)
        refine lv_goto (tgt := 4) hx hb dX9_tripsSoFar_24 (by decide) ?_
        exact ih4 ((k + 1)) ((acc + (y_tr y (k)))) H locs ls (by omega) (by simp only [sI, hacc, c9_1, p_in, p_worn, p_wi, not_true_eq_false, not_false_eq_true, if_true, if_false, and_true, true_and, and_false, false_and, or_true, true_or, or_false, false_or, and_self, or_self, iff_true, true_iff, iff_false, false_iff, decide_eq_true_eq, decide_true, decide_false, Int32.add_zero, Nat.add_zero, ne_eq, Bool.false_eq_true, eq_self]) (by omega) hP hD hS (lv_sub hl [2, 1, 0] rfl)
  exact lp4 ((y_cn y - (0)) + 1) (0) (nI 0) H locs ls (by omega) rfl (Nat.lt_succ_self _) hP hD hS (lv_sub hl [2, 1, 0] rfl)
