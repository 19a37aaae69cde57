/-! THE REFERENCE: readers -/
abbrev rmX11_in : Room := { frames := 0, cells := 0, slots := 0, locals := 0 }
set_option maxHeartbeats 4000000 in
set_option maxRecDepth 100000 in
theorem kX11_in {D : va_G} {ct : Nat → ClassId} {l : Launch}  (R : va_W) (x1 : Int32) (x2 : Int32) (x3 : Int32) : MI D ct l yX11_in wsX11_in rmX11_in (R) [.int (x1), .int (x2), .int (x3)] (fun r0 (_ : Unit) => r0 = bI (p_rng x1 x2 x3)) (fun _ : Unit => R) := by
  refine MIof (cc := cX11_in) (maxL := 3) (ret := (some .boolean)) (by decide) rfl (Nat.le_of_ble_eq_true rfl) ?_
  intro p e s m args below meth c A H locs F hP hK hD hS hA ls hl
  obtain ⟨hx, hb, hr, hlocks, hml, hown, hts, hin⟩ := F
  have hl : lv_has ls 3 [(0, .int (x1)), (1, .int (x2)), (2, .int (x3))] := hl
  refine lv_iload_n hx hb dX11_in_0 rfl (lv_at hl 0 rfl) ?_
  refine lv_iload_n hx hb dX11_in_1 rfl (lv_at hl 1 rfl) ?_
  refine lv_icmp_lt (tgt := 14) hx hb dX11_in_2 (by decide) (fun c2_1 => ?_) (fun c2_1 => ?_)
  · skip
    refine lv_iconst (v := nI (0)) hx hb dX11_in_14 (by decide) ?_
    exact zZret () (by decide) hx hb hr hlocks hK hP hD hS dX11_in_15 (show nI (0) = bI (p_rng x1 x2 x3) from (by simp only [bI, c2_1, p_in, p_worn, p_wi, p_creak, p_le0, p_lt1, p_rng, not_true_eq_false, not_false_eq_true, if_true, if_false, and_true, true_and, and_false, false_and, or_true, true_or, or_false, false_or, and_self, or_self, iff_true, true_iff, iff_false, false_iff, decide_eq_true_eq, decide_true, decide_false, Int32.add_zero, Nat.add_zero, ne_eq, Bool.false_eq_true, eq_self]))
  · skip
    refine lv_iload_n hx hb dX11_in_5 rfl (lv_at hl 0 rfl) ?_
    refine lv_iload_n hx hb dX11_in_6 rfl (lv_at hl 2 rfl) ?_
    refine lv_icmp_gt (tgt := 14) hx hb dX11_in_7 (by decide) (fun c7_2 => ?_) (fun c7_2 => ?_)
    · skip
      refine lv_iconst (v := nI (0)) hx hb dX11_in_14 (by decide) ?_
      exact zZret () (by decide) hx hb hr hlocks hK hP hD hS dX11_in_15 (show nI (0) = bI (p_rng x1 x2 x3) from (by simp only [bI, c2_1, c7_2, p_in, p_worn, p_wi, p_creak, p_le0, p_lt1, p_rng, not_true_eq_false, not_false_eq_true, if_true, if_false, and_true, true_and, and_false, false_and, or_true, true_or, or_false, false_or, and_self, or_self, iff_true, true_iff, iff_false, false_iff, decide_eq_true_eq, decide_true, decide_false, Int32.add_zero, Nat.add_zero, ne_eq, Bool.false_eq_true, eq_self]))
    · skip
      refine lv_iconst (v := nI (1)) hx hb dX11_in_10 (by decide) ?_
      refine lv_goto (tgt := 15) hx hb dX11_in_11 (by decide) ?_
      exact zZret () (by decide) hx hb hr hlocks hK hP hD hS dX11_in_15 (show nI (1) = bI (p_rng x1 x2 x3) from (by simp only [bI, c2_1, c7_2, p_in, p_worn, p_wi, p_creak, p_le0, p_lt1, p_rng, not_true_eq_false, not_false_eq_true, if_true, if_false, and_true, true_and, and_false, false_and, or_true, true_or, or_false, false_or, and_self, or_self, iff_true, true_iff, iff_false, false_iff, decide_eq_true_eq, decide_true, decide_false, Int32.add_zero, Nat.add_zero, ne_eq, Bool.false_eq_true, eq_self]))
abbrev rmX11_t : Room := { frames := 0, cells := 0, slots := 0, locals := 0 }
theorem in_X11_t_X11 : ∀ w ∈ u_ws RX11 TX11 19, w ∈ wsX11_t := by decide +kernel
set_option maxHeartbeats 4000000 in
set_option maxRecDepth 100000 in
theorem kX11_t {D : va_G} {ct : Nat → ClassId} {l : Launch} (o : Nat → Nat) (v : MS) (R : va_W) (k : Nat) (w : Nat) (hk : k < 12) (hw : w < 4) : MI D ct l yX11_t wsX11_t rmX11_t (MW ct o v R) [.ref (o 0), .int (nI (k)), .int (nI (w))] (fun r0 (_ : Unit) => r0 = m_g v (5 + 4 * k + w)) (fun _ : Unit => MW ct o v R) := by
  refine MIof (cc := cX11_t) (maxL := 3) (ret := (some .int)) (by decide) rfl (Nat.le_of_ble_eq_true rfl) ?_
  intro p e s m args below meth c A H locs F hP hK hD hS hA ls hl
  obtain ⟨hx, hb, hr, hlocks, hml, hown, hts, hin⟩ := F
  have hl : lv_has ls 3 [(0, .ref (o 0)), (1, .int (nI (k))), (2, .int (nI (w)))] := hl
  have h_X11 := in_X11_t_X11
  have f9 := hts (.fieldLink RX11 9 "CartArgumentsModel" "all" "[I") (by decide +kernel)
  refine lv_aload_n hx hb dX11_t_0 rfl (lv_at hl 0 rfl) ?_
  refine va_get (ci := 10) (v := .ref (o 1)) hx hb hts h_X11 hown hK hP 0 rfl rfl 0 (by decide) f9 (fun _ h9 => h9) rfl dX11_t_1 ?_
  refine lv_iconst (v := nI (5)) hx hb dX11_t_4 (by decide) ?_
  refine lv_iconst (v := nI (4)) hx hb dX11_t_5 (by decide) ?_
  refine lv_iload_n hx hb dX11_t_6 rfl (lv_at hl 1 rfl) ?_
  refine zNmul hx hb dX11_t_7 ?_
  refine zNadd hx hb dX11_t_8 ?_
  refine lv_iload_n hx hb dX11_t_9 rfl (lv_at hl 2 rfl) ?_
  refine zNadd hx hb dX11_t_10 ?_
  refine zIald (n := 972) (f := m_g v) (i := ((5 + (4 * k)) + w)) hx hb hK hP 1 rfl (by omega) (by decide) dX11_t_11 ?_
  exact zIret () hx hb hr hlocks hK hP hD hS dX11_t_12 (show (m_g v (((5 + (4 * k)) + w))) = m_g v (5 + 4 * k + w) from rfl)
abbrev rmX11_r : Room := { frames := 0, cells := 0, slots := 0, locals := 0 }
theorem in_X11_r_X11 : ∀ w ∈ u_ws RX11 TX11 19, w ∈ wsX11_r := by decide +kernel
set_option maxHeartbeats 4000000 in
set_option maxRecDepth 100000 in
theorem kX11_r {D : va_G} {ct : Nat → ClassId} {l : Launch} (o : Nat → Nat) (v : MS) (R : va_W) (k : Nat) (w : Nat) (hk : k < 5) (hw : w < 4) : MI D ct l yX11_r wsX11_r rmX11_r (MW ct o v R) [.ref (o 0), .int (nI (k)), .int (nI (w))] (fun r0 (_ : Unit) => r0 = m_g v (61 + 4 * k + w)) (fun _ : Unit => MW ct o v R) := by
  refine MIof (cc := cX11_r) (maxL := 3) (ret := (some .int)) (by decide) rfl (Nat.le_of_ble_eq_true rfl) ?_
  intro p e s m args below meth c A H locs F hP hK hD hS hA ls hl
  obtain ⟨hx, hb, hr, hlocks, hml, hown, hts, hin⟩ := F
  have hl : lv_has ls 3 [(0, .ref (o 0)), (1, .int (nI (k))), (2, .int (nI (w)))] := hl
  have h_X11 := in_X11_r_X11
  have f9 := hts (.fieldLink RX11 9 "CartArgumentsModel" "all" "[I") (by decide +kernel)
  refine lv_aload_n hx hb dX11_r_0 rfl (lv_at hl 0 rfl) ?_
  refine va_get (ci := 10) (v := .ref (o 1)) hx hb hts h_X11 hown hK hP 0 rfl rfl 0 (by decide) f9 (fun _ h9 => h9) rfl dX11_r_1 ?_
  refine lv_bipush (v := nI (61)) hx hb dX11_r_4 (by decide) ?_
  refine lv_iconst (v := nI (4)) hx hb dX11_r_6 (by decide) ?_
  refine lv_iload_n hx hb dX11_r_7 rfl (lv_at hl 1 rfl) ?_
  refine zNmul hx hb dX11_r_8 ?_
  refine zNadd hx hb dX11_r_9 ?_
  refine lv_iload_n hx hb dX11_r_10 rfl (lv_at hl 2 rfl) ?_
  refine zNadd hx hb dX11_r_11 ?_
  refine zIald (n := 972) (f := m_g v) (i := ((61 + (4 * k)) + w)) hx hb hK hP 1 rfl (by omega) (by decide) dX11_r_12 ?_
  exact zIret () hx hb hr hlocks hK hP hD hS dX11_r_13 (show (m_g v (((61 + (4 * k)) + w))) = m_g v (61 + 4 * k + w) from rfl)
abbrev rmX11_isThing : Room := { frames := 1, cells := 0, slots := 0, locals := 22 }
theorem in_X11_isThing_X11 : ∀ w ∈ u_ws RX11 TX11 19, w ∈ wsX11_isThing := by decide +kernel
set_option maxHeartbeats 4000000 in
set_option maxRecDepth 100000 in
theorem kX11_isThing {D : va_G} {ct : Nat → ClassId} {l : Launch} (o : Nat → Nat) (v : MS) (R : va_W) (x1 : Int32) (y : YS) (hB : y_n y ≤ 12 ∧ y_cn y ≤ 4 ∧ y_rn y ≤ 5) (hq : RelI y (m_g v)) : MI D ct l yX11_isThing wsX11_isThing rmX11_isThing (MW ct o v R) [.ref (o 0), .int (x1)] (fun r0 (_ : Unit) => r0 = bI (p_in x1 (y_n y))) (fun _ : Unit => MW ct o v R) := by
  refine MIof (cc := cX11_isThing) (maxL := 2) (ret := (some .boolean)) (by decide) rfl (Nat.le_of_ble_eq_true rfl) ?_
  intro p e s m args below meth c A H locs F hP hK hD hS hA ls hl
  obtain ⟨hx, hb, hr, hlocks, hml, hown, hts, hin⟩ := F
  have hl : lv_has ls 2 [(0, .ref (o 0)), (1, .int (x1))] := hl
  have hn : y_n y ≤ 12 := hB.1
  have hcn : y_cn y ≤ 4 := hB.2.1
  have hrn : y_rn y ≤ 5 := hB.2.2
  have h_X11 := in_X11_isThing_X11
  have f9 := hts (.fieldLink RX11 9 "CartArgumentsModel" "all" "[I") (by decide +kernel)
  refine lv_iload_n hx hb dX11_isThing_0 rfl (lv_at hl 1 rfl) ?_
  refine lv_iconst (v := nI (0)) hx hb dX11_isThing_1 (by decide) ?_
  refine lv_aload_n hx hb dX11_isThing_2 rfl (lv_at hl 0 rfl) ?_
  refine va_get (ci := 10) (v := .ref (o 1)) hx hb hts h_X11 hown hK hP 0 rfl rfl 0 (by decide) f9 (fun _ h9 => h9) rfl dX11_isThing_3 ?_
  refine lv_iconst (v := nI (0)) hx hb dX11_isThing_6 (by decide) ?_
  refine zIald (n := 972) (f := m_g v) (i := 0) hx hb hK hP 1 rfl (by omega) (by decide) dX11_isThing_7 ?_
  refine zTop (y := nI (y_n y)) hq.1 ?_
  refine lv_iconst (v := nI (1)) hx hb dX11_isThing_8 (by decide) ?_
  refine lv_isub hx hb dX11_isThing_9 ?_
  refine zSI [.int (x1), .int (nI (0)), .int ((nI (y_n y) - nI (1)))] [] (kX11_in (MW ct o v R) (x1) (nI (0)) ((nI (y_n y) - nI (1)))) hx hb hml hown hts (va_cwS 3 hts gX11_isThing_X11_in rfl rfl rfl (by decide +kernel) ⟨(Nat.le_of_ble_eq_true rfl), (Nat.le_of_ble_eq_true rfl)⟩) hK hP hD hS hA rfl hl.1 rfl (Nat.le_of_ble_eq_true rfl) dX11_isThing_10 ⟨(Nat.le_of_ble_eq_true rfl), (Nat.le_of_ble_eq_true rfl)⟩ (fun r_10 _ H locs hr_10 hP hD hS => ?_)
  subst hr_10
  have hP : va_P D vwCl (MW ct o v R) H := hP
  have hD : va_D A (MW ct o v R) := hD
  exact zZret () bI_nar hx hb hr hlocks hK hP hD hS dX11_isThing_13 (show bI (p_rng (x1) (nI (0)) ((nI (y_n y) - nI (1)))) = bI (p_in x1 (y_n y)) from (bI_cg (rng_in (by omega))))
abbrev rmX11_isCart : Room := { frames := 1, cells := 0, slots := 0, locals := 22 }
theorem in_X11_isCart_X11 : ∀ w ∈ u_ws RX11 TX11 19, w ∈ wsX11_isCart := by decide +kernel
set_option maxHeartbeats 4000000 in
set_option maxRecDepth 100000 in
theorem kX11_isCart {D : va_G} {ct : Nat → ClassId} {l : Launch} (o : Nat → Nat) (v : MS) (R : va_W) (x1 : Int32) (y : YS) (hB : y_n y ≤ 12 ∧ y_cn y ≤ 4 ∧ y_rn y ≤ 5) (hq : RelI y (m_g v)) : MI D ct l yX11_isCart wsX11_isCart rmX11_isCart (MW ct o v R) [.ref (o 0), .int (x1)] (fun r0 (_ : Unit) => r0 = bI (p_in x1 (y_cn y))) (fun _ : Unit => MW ct o v R) := by
  refine MIof (cc := cX11_isCart) (maxL := 2) (ret := (some .boolean)) (by decide) rfl (Nat.le_of_ble_eq_true rfl) ?_
  intro p e s m args below meth c A H locs F hP hK hD hS hA ls hl
  obtain ⟨hx, hb, hr, hlocks, hml, hown, hts, hin⟩ := F
  have hl : lv_has ls 2 [(0, .ref (o 0)), (1, .int (x1))] := hl
  have hn : y_n y ≤ 12 := hB.1
  have hcn : y_cn y ≤ 4 := hB.2.1
  have hrn : y_rn y ≤ 5 := hB.2.2
  have h_X11 := in_X11_isCart_X11
  have f9 := hts (.fieldLink RX11 9 "CartArgumentsModel" "all" "[I") (by decide +kernel)
  refine lv_iload_n hx hb dX11_isCart_0 rfl (lv_at hl 1 rfl) ?_
  refine lv_iconst (v := nI (0)) hx hb dX11_isCart_1 (by decide) ?_
  refine lv_aload_n hx hb dX11_isCart_2 rfl (lv_at hl 0 rfl) ?_
  refine va_get (ci := 10) (v := .ref (o 1)) hx hb hts h_X11 hown hK hP 0 rfl rfl 0 (by decide) f9 (fun _ h9 => h9) rfl dX11_isCart_3 ?_
  refine lv_iconst (v := nI (1)) hx hb dX11_isCart_6 (by decide) ?_
  refine zIald (n := 972) (f := m_g v) (i := 1) hx hb hK hP 1 rfl (by omega) (by decide) dX11_isCart_7 ?_
  refine zTop (y := nI (y_cn y)) hq.2.1 ?_
  refine lv_iconst (v := nI (1)) hx hb dX11_isCart_8 (by decide) ?_
  refine lv_isub hx hb dX11_isCart_9 ?_
  refine zSI [.int (x1), .int (nI (0)), .int ((nI (y_cn y) - nI (1)))] [] (kX11_in (MW ct o v R) (x1) (nI (0)) ((nI (y_cn y) - nI (1)))) hx hb hml hown hts (va_cwS 3 hts gX11_isCart_X11_in rfl rfl rfl (by decide +kernel) ⟨(Nat.le_of_ble_eq_true rfl), (Nat.le_of_ble_eq_true rfl)⟩) hK hP hD hS hA rfl hl.1 rfl (Nat.le_of_ble_eq_true rfl) dX11_isCart_10 ⟨(Nat.le_of_ble_eq_true rfl), (Nat.le_of_ble_eq_true rfl)⟩ (fun r_10 _ H locs hr_10 hP hD hS => ?_)
  subst hr_10
  have hP : va_P D vwCl (MW ct o v R) H := hP
  have hD : va_D A (MW ct o v R) := hD
  exact zZret () bI_nar hx hb hr hlocks hK hP hD hS dX11_isCart_13 (show bI (p_rng (x1) (nI (0)) ((nI (y_cn y) - nI (1)))) = bI (p_in x1 (y_cn y)) from (bI_cg (rng_in (by omega))))
abbrev rmX11_isRoad : Room := { frames := 1, cells := 0, slots := 0, locals := 22 }
theorem in_X11_isRoad_X11 : ∀ w ∈ u_ws RX11 TX11 19, w ∈ wsX11_isRoad := by decide +kernel
set_option maxHeartbeats 4000000 in
set_option maxRecDepth 100000 in
theorem kX11_isRoad {D : va_G} {ct : Nat → ClassId} {l : Launch} (o : Nat → Nat) (v : MS) (R : va_W) (x1 : Int32) (y : YS) (hB : y_n y ≤ 12 ∧ y_cn y ≤ 4 ∧ y_rn y ≤ 5) (hq : RelI y (m_g v)) : MI D ct l yX11_isRoad wsX11_isRoad rmX11_isRoad (MW ct o v R) [.ref (o 0), .int (x1)] (fun r0 (_ : Unit) => r0 = bI (p_in x1 (y_rn y))) (fun _ : Unit => MW ct o v R) := by
  refine MIof (cc := cX11_isRoad) (maxL := 2) (ret := (some .boolean)) (by decide) rfl (Nat.le_of_ble_eq_true rfl) ?_
  intro p e s m args below meth c A H locs F hP hK hD hS hA ls hl
  obtain ⟨hx, hb, hr, hlocks, hml, hown, hts, hin⟩ := F
  have hl : lv_has ls 2 [(0, .ref (o 0)), (1, .int (x1))] := hl
  have hn : y_n y ≤ 12 := hB.1
  have hcn : y_cn y ≤ 4 := hB.2.1
  have hrn : y_rn y ≤ 5 := hB.2.2
  have h_X11 := in_X11_isRoad_X11
  have f9 := hts (.fieldLink RX11 9 "CartArgumentsModel" "all" "[I") (by decide +kernel)
  refine lv_iload_n hx hb dX11_isRoad_0 rfl (lv_at hl 1 rfl) ?_
  refine lv_iconst (v := nI (0)) hx hb dX11_isRoad_1 (by decide) ?_
  refine lv_aload_n hx hb dX11_isRoad_2 rfl (lv_at hl 0 rfl) ?_
  refine va_get (ci := 10) (v := .ref (o 1)) hx hb hts h_X11 hown hK hP 0 rfl rfl 0 (by decide) f9 (fun _ h9 => h9) rfl dX11_isRoad_3 ?_
  refine lv_iconst (v := nI (2)) hx hb dX11_isRoad_6 (by decide) ?_
  refine zIald (n := 972) (f := m_g v) (i := 2) hx hb hK hP 1 rfl (by omega) (by decide) dX11_isRoad_7 ?_
  refine zTop (y := nI (y_rn y)) hq.2.2.1 ?_
  refine lv_iconst (v := nI (1)) hx hb dX11_isRoad_8 (by decide) ?_
  refine lv_isub hx hb dX11_isRoad_9 ?_
  refine zSI [.int (x1), .int (nI (0)), .int ((nI (y_rn y) - nI (1)))] [] (kX11_in (MW ct o v R) (x1) (nI (0)) ((nI (y_rn y) - nI (1)))) hx hb hml hown hts (va_cwS 3 hts gX11_isRoad_X11_in rfl rfl rfl (by decide +kernel) ⟨(Nat.le_of_ble_eq_true rfl), (Nat.le_of_ble_eq_true rfl)⟩) hK hP hD hS hA rfl hl.1 rfl (Nat.le_of_ble_eq_true rfl) dX11_isRoad_10 ⟨(Nat.le_of_ble_eq_true rfl), (Nat.le_of_ble_eq_true rfl)⟩ (fun r_10 _ H locs hr_10 hP hD hS => ?_)
  subst hr_10
  have hP : va_P D vwCl (MW ct o v R) H := hP
  have hD : va_D A (MW ct o v R) := hD
  exact zZret () bI_nar hx hb hr hlocks hK hP hD hS dX11_isRoad_13 (show bI (p_rng (x1) (nI (0)) ((nI (y_rn y) - nI (1)))) = bI (p_in x1 (y_rn y)) from (bI_cg (rng_in (by omega))))
abbrev rmX11_strength : Room := { frames := 0, cells := 0, slots := 0, locals := 0 }
theorem in_X11_strength_X11 : ∀ w ∈ u_ws RX11 TX11 19, w ∈ wsX11_strength := by decide +kernel
set_option maxHeartbeats 4000000 in
set_option maxRecDepth 100000 in
theorem kX11_strength {D : va_G} {ct : Nat → ClassId} {l : Launch} (o : Nat → Nat) (v : MS) (R : va_W) (k : Nat) (y : YS) (hB : y_n y ≤ 12 ∧ y_cn y ≤ 4 ∧ y_rn y ≤ 5) (hq : RelI y (m_g v)) (hk : k < y_cn y) : MI D ct l yX11_strength wsX11_strength rmX11_strength (MW ct o v R) [.ref (o 0), .int (nI (k))] (fun r0 (_ : Unit) => r0 = y_st y k) (fun _ : Unit => MW ct o v R) := by
  refine MIof (cc := cX11_strength) (maxL := 2) (ret := (some .int)) (by decide) rfl (Nat.le_of_ble_eq_true rfl) ?_
  intro p e s m args below meth c A H locs F hP hK hD hS hA ls hl
  obtain ⟨hx, hb, hr, hlocks, hml, hown, hts, hin⟩ := F
  have hl : lv_has ls 2 [(0, .ref (o 0)), (1, .int (nI (k)))] := hl
  have hn : y_n y ≤ 12 := hB.1
  have hcn : y_cn y ≤ 4 := hB.2.1
  have hrn : y_rn y ≤ 5 := hB.2.2
  have h_X11 := in_X11_strength_X11
  have f9 := hts (.fieldLink RX11 9 "CartArgumentsModel" "all" "[I") (by decide +kernel)
  refine lv_aload_n hx hb dX11_strength_0 rfl (lv_at hl 0 rfl) ?_
  refine va_get (ci := 10) (v := .ref (o 1)) hx hb hts h_X11 hown hK hP 0 rfl rfl 0 (by decide) f9 (fun _ h9 => h9) rfl dX11_strength_1 ?_
  refine lv_bipush (v := nI (53)) hx hb dX11_strength_4 (by decide) ?_
  refine lv_iconst (v := nI (2)) hx hb dX11_strength_6 (by decide) ?_
  refine lv_iload_n hx hb dX11_strength_7 rfl (lv_at hl 1 rfl) ?_
  refine zNmul hx hb dX11_strength_8 ?_
  refine zNadd hx hb dX11_strength_9 ?_
  refine zIald (n := 972) (f := m_g v) (i := (53 + (2 * k))) hx hb hK hP 1 rfl (by omega) (by decide) dX11_strength_10 ?_
  exact zIret () hx hb hr hlocks hK hP hD hS dX11_strength_11 (show (m_g v ((53 + (2 * k)))) = y_st y k from (hq.2.2.2.2.1 k hk))
abbrev rmX11_isOn : Room := { frames := 1, cells := 0, slots := 0, locals := 22 }
set_option maxHeartbeats 4000000 in
set_option maxRecDepth 100000 in
theorem kX11_isOn {D : va_G} {ct : Nat → ClassId} {l : Launch} (o : Nat → Nat) (v : MS) (R : va_W) (k : Nat) (x : Nat) (y : YS) (hB : y_n y ≤ 12 ∧ y_cn y ≤ 4 ∧ y_rn y ≤ 5) (hq : RelI y (m_g v)) (hk : k < y_n y) (hx4 : x < 4) : MI D ct l yX11_isOn wsX11_isOn rmX11_isOn (MW ct o v R) [.ref (o 0), .int (nI (k)), .int (nI (x))] (fun r0 (_ : Unit) => r0 = bI (y_cu y k = nI x)) (fun _ : Unit => MW ct o v R) := by
  refine MIof (cc := cX11_isOn) (maxL := 3) (ret := (some .boolean)) (by decide) rfl (Nat.le_of_ble_eq_true rfl) ?_
  intro p e s m args below meth c A H locs F hP hK hD hS hA ls hl
  obtain ⟨hx, hb, hr, hlocks, hml, hown, hts, hin⟩ := F
  have hl : lv_has ls 3 [(0, .ref (o 0)), (1, .int (nI (k))), (2, .int (nI (x)))] := hl
  have hn : y_n y ≤ 12 := hB.1
  have hcn : y_cn y ≤ 4 := hB.2.1
  have hrn : y_rn y ≤ 5 := hB.2.2
  refine lv_aload_n hx hb dX11_isOn_0 rfl (lv_at hl 0 rfl) ?_
  refine lv_iload_n hx hb dX11_isOn_1 rfl (lv_at hl 1 rfl) ?_
  refine lv_iconst (v := nI (2)) hx hb dX11_isOn_2 (by decide) ?_
  refine zVI [.int (nI (k)), .int (nI (2))] [] (kX11_t (o) (v) (R) (k) (2) (show (k) < 12 from by omega) (show (2) < 4 from by omega)) hx hb hml hown hts (cwV 2 hts gX11_isOn_X11_t rfl rfl rfl (by decide +kernel) ⟨(Nat.le_of_ble_eq_true rfl), (Nat.le_of_ble_eq_true rfl)⟩) hK hP hD hS hA (va_recv hK hP (ci := 10) (q0 := 0) rfl rfl) rfl hl.1 rfl (Nat.le_of_ble_eq_true rfl) dX11_isOn_3 ⟨(Nat.le_of_ble_eq_true rfl), (Nat.le_of_ble_eq_true rfl)⟩ (fun r_3 _ H locs hr_3 hP hD hS => ?_)
  subst hr_3
  have hP : va_P D vwCl (MW ct o v R) H := hP
  have hD : va_D A (MW ct o v R) := hD
  refine lv_iload_n hx hb dX11_isOn_6 rfl (lv_at hl 2 rfl) ?_
  refine lv_iconst (v := nI (1)) hx hb dX11_isOn_7 (by decide) ?_
  refine zNadd hx hb dX11_isOn_8 ?_
  refine lv_icmp_ne (tgt := 16) hx hb dX11_isOn_9 (by decide) (fun c9_1 => ?_) (fun c9_1 => ?_)
  · skip
    refine lv_iconst (v := nI (0)) hx hb dX11_isOn_16 (by decide) ?_
    exact zZret () (by decide) hx hb hr hlocks hK hP hD hS dX11_isOn_17 (show nI (0) = bI (y_cu y k = nI x) from (by rw [bI_f (fun q => c9_1 ((rel_on hq hk hx4).mpr q))]))
  · skip
    refine lv_iconst (v := nI (1)) hx hb dX11_isOn_12 (by decide) ?_
    refine lv_goto (tgt := 17) hx hb dX11_isOn_13 (by decide) ?_
    exact zZret () (by decide) hx hb hr hlocks hK hP hD hS dX11_isOn_17 (show nI (1) = bI (y_cu y k = nI x) from (by rw [bI_t ((rel_on hq hk hx4).mp c9_1)]))
abbrev rmX11_thingAt : Room := { frames := 2, cells := 0, slots := 0, locals := 44 }
theorem in_X11_thingAt_X11 : ∀ w ∈ u_ws RX11 TX11 19, w ∈ wsX11_thingAt := by decide +kernel
set_option maxHeartbeats 4000000 in
set_option maxRecDepth 100000 in
theorem kX11_thingAt {D : va_G} {ct : Nat → ClassId} {l : Launch} (o : Nat → Nat) (v : MS) (R : va_W) (x : Nat) (x2 : Int32) (y : YS) (hB : y_n y ≤ 12 ∧ y_cn y ≤ 4 ∧ y_rn y ≤ 5) (hq : RelI y (m_g v)) (hx4 : x < 4) : MI D ct l yX11_thingAt wsX11_thingAt rmX11_thingAt (MW ct o v R) [.ref (o 0), .int (nI (x)), .int (x2)] (fun r0 (_ : Unit) => r0 = t_at y (nI x) x2) (fun _ : Unit => MW ct o v R) := by
  refine MIof (cc := cX11_thingAt) (maxL := 4) (ret := (some .int)) (by decide) rfl (Nat.le_of_ble_eq_true rfl) ?_
  intro p e s m args below meth c A H locs F hP hK hD hS hA ls hl
  obtain ⟨hx, hb, hr, hlocks, hml, hown, hts, hin⟩ := F
  have hl : lv_has ls 4 [(0, .ref (o 0)), (1, .int (nI (x))), (2, .int (x2))] := hl
  have hn : y_n y ≤ 12 := hB.1
  have hcn : y_cn y ≤ 4 := hB.2.1
  have hrn : y_rn y ≤ 5 := hB.2.2
  have h_X11 := in_X11_thingAt_X11
  have f9 := hts (.fieldLink RX11 9 "CartArgumentsModel" "all" "[I") (by decide +kernel)
  refine lv_iconst (v := nI (0)) hx hb dX11_thingAt_0 (by decide) ?_
  refine lv_istore_n (lv' := [(3, .int (nI (0))), (0, .ref (o 0)), (1, .int (nI (x))), (2, .int (x2))]) hx hb dX11_thingAt_1 rfl hl (by decide) rfl (fun ls hl => ?_)
  have lp2 : ∀ (fu : Nat) (k : Nat) (H : Heap) (locs : List Loc) (ls : Array Slot), (k ≤ y_n y) → (∀ j, j < k → (fun k => decide (y_cu y k = nI x ∧ y_pl y k = x2)) j = false) → y_n y - k < fu → va_P D vwCl (MW ct o v R) H → va_D A (MW ct o v R) → va_S A s.heap H locs → lv_has ls 4 [(0, .ref (o 0)), (1, .int (nI (x))), (2, .int (x2)), (3, .int (nI (k)))] → W p l e rmX11_thingAt s m args below meth c H locs 0 0 (MQ below (va_Qi (fun r0 (_ : Unit) => r0 = t_at y (nI x) x2) (zB D ct A (fun _ : Unit => MW ct o v R)) A) args s rmX11_thingAt.cells rmX11_thingAt.slots A) (F0 m 2 ls []) := by
    intro fu
    induction fu with
    | zero => intro k H locs ls hk hno hfu; exact absurd hfu (Nat.not_lt_zero _)
    | succ fu ih2 =>
      intro k H locs ls hk hno hfu hP hD hS hl
      refine lv_iload_n hx hb dX11_thingAt_2 rfl (lv_at hl 3 rfl) ?_
      refine lv_aload_n hx hb dX11_thingAt_3 rfl (lv_at hl 0 rfl) ?_
      refine va_get (ci := 10) (v := .ref (o 1)) hx hb hts h_X11 hown hK hP 0 rfl rfl 0 (by decide) f9 (fun _ h9 => h9) rfl dX11_thingAt_4 ?_
      refine lv_iconst (v := nI (0)) hx hb dX11_thingAt_7 (by decide) ?_
      refine zIald (n := 972) (f := m_g v) (i := 0) hx hb hK hP 1 rfl (by omega) (by decide) dX11_thingAt_8 ?_
      refine zTop (y := nI (y_n y)) hq.1 ?_
      refine zN_icmp_ge (tgt := 39) hx hb (by omega) (by omega) dX11_thingAt_9 (by decide) (fun c9_1 => ?_) (fun c9_1 => ?_)
      · skip
        refine lv_bipush (v := (-4)) hx hb dX11_thingAt_39 (by decide) ?_
        exact zIret () hx hb hr hlocks hK hP hD hS dX11_thingAt_41 (show (-4) = t_at y (nI x) x2 from (atI_none (fun j hj => hno j (by omega))).symm)
      · skip
        refine lv_aload_n hx hb dX11_thingAt_12 rfl (lv_at hl 0 rfl) ?_
        refine lv_iload_n hx hb dX11_thingAt_13 rfl (lv_at hl 3 rfl) ?_
        refine lv_iload_n hx hb dX11_thingAt_14 rfl (lv_at hl 1 rfl) ?_
        refine zVI [.int (nI (k)), .int (nI (x))] [] (kX11_isOn (o) (v) (R) (k) (x) (y) (show y_n (y) ≤ 12 ∧ y_cn (y) ≤ 4 ∧ y_rn (y) ≤ 5 from hB) (show RelI (y) (m_g v) from hq) (show (k) < y_n (y) from by omega) (show (x) < 4 from by omega)) hx hb hml hown hts (cwV 2 hts gX11_thingAt_X11_isOn rfl rfl rfl (by decide +kernel) ⟨(Nat.le_of_ble_eq_true rfl), (Nat.le_of_ble_eq_true rfl)⟩) hK hP hD hS hA (va_recv hK hP (ci := 10) (q0 := 0) rfl rfl) rfl hl.1 rfl (Nat.le_of_ble_eq_true rfl) dX11_thingAt_15 ⟨(Nat.le_of_ble_eq_true rfl), (Nat.le_of_ble_eq_true rfl)⟩ (fun r_15 _ H locs hr_15 hP hD hS => ?_)
        subst hr_15
        have hP : va_P D vwCl (MW ct o v R) H := hP
        have hD : va_D A (MW ct o v R) := hD
        refine zB_if_eq (tgt := 33) hx hb dX11_thingAt_18 (by decide) (fun c18_2 => ?_) (fun c18_2 => ?_)
        · skip
          refine lv_iinc (v := nI ((k + 1))) (lv' := [(3, .int (nI ((k + 1)))), (0, .ref (o 0)), (1, .int (nI (x))), (2, .int (x2))]) hx hb dX11_thingAt_33 hl (k := 3) rfl (zInc _) (by decide) rfl (fun ls hl => ?_)
          refine lv_goto (tgt := 2) hx hb dX11_thingAt_36 (by decide) ?_
          exact ih2 ((k + 1)) H locs ls (by omega) (lt_s hno (by simp only [c9_1, c18_2, p_in, p_worn, p_wi, p_creak, p_le0, p_lt1, p_rng, not_true_eq_false, not_false_eq_true, if_true, if_false, and_true, true_and, and_false, false_and, or_true, true_or, or_false, false_or, and_self, or_self, iff_true, true_iff, iff_false, false_iff, decide_eq_true_eq, decide_true, decide_false, Int32.add_zero, Nat.add_zero, ne_eq, Bool.false_eq_true, eq_self])) (by omega) hP hD hS (lv_sub hl [1, 2, 3, 0] rfl)
        · skip
          refine lv_aload_n hx hb dX11_thingAt_21 rfl (lv_at hl 0 rfl) ?_
          refine lv_iload_n hx hb dX11_thingAt_22 rfl (lv_at hl 3 rfl) ?_
          refine lv_iconst (v := nI (3)) hx hb dX11_thingAt_23 (by decide) ?_
          refine zVI [.int (nI (k)), .int (nI (3))] [] (kX11_t (o) (v) (R) (k) (3) (show (k) < 12 from by omega) (show (3) < 4 from by omega)) hx hb hml hown hts (cwV 2 hts gX11_thingAt_X11_t rfl rfl rfl (by decide +kernel) ⟨(Nat.le_of_ble_eq_true rfl), (Nat.le_of_ble_eq_true rfl)⟩) hK hP hD hS hA (va_recv hK hP (ci := 10) (q0 := 0) rfl rfl) rfl hl.1 rfl (Nat.le_of_ble_eq_true rfl) dX11_thingAt_24 ⟨(Nat.le_of_ble_eq_true rfl), (Nat.le_of_ble_eq_true rfl)⟩ (fun r_24 _ H locs hr_24 hP hD hS => ?_)
          subst hr_24
          have hP : va_P D vwCl (MW ct o v R) H := hP
          have hD : va_D A (MW ct o v R) := hD
          refine zTop (y := (y_pl y (k))) (rel_pl hq (k := k) (by omega) c18_2 hx4) ?_
          refine lv_iload_n hx hb dX11_thingAt_27 rfl (lv_at hl 2 rfl) ?_
          refine lv_icmp_ne (tgt := 33) hx hb dX11_thingAt_28 (by decide) (fun c28_3 => ?_) (fun c28_3 => ?_)
          · skip
            refine lv_iinc (v := nI ((k + 1))) (lv' := [(3, .int (nI ((k + 1)))), (0, .ref (o 0)), (1, .int (nI (x))), (2, .int (x2))]) hx hb dX11_thingAt_33 hl (k := 3) rfl (zInc _) (by decide) rfl (fun ls hl => ?_)
            refine lv_goto (tgt := 2) hx hb dX11_thingAt_36 (by decide) ?_
            exact ih2 ((k + 1)) H locs ls (by omega) (lt_s hno (by simp only [c9_1, c18_2, c28_3, p_in, p_worn, p_wi, p_creak, p_le0, p_lt1, p_rng, not_true_eq_false, not_false_eq_true, if_true, if_false, and_true, true_and, and_false, false_and, or_true, true_or, or_false, false_or, and_self, or_self, iff_true, true_iff, iff_false, false_iff, decide_eq_true_eq, decide_true, decide_false, Int32.add_zero, Nat.add_zero, ne_eq, Bool.false_eq_true, eq_self])) (by omega) hP hD hS (lv_sub hl [1, 2, 3, 0] rfl)
          · skip
            refine lv_iload_n hx hb dX11_thingAt_31 rfl (lv_at hl 3 rfl) ?_
            exact zIret () hx hb hr hlocks hK hP hD hS dX11_thingAt_32 (show nI (k) = t_at y (nI x) x2 from (atI_some (by simp only [c9_1, c18_2, eq_true c28_3, p_in, p_worn, p_wi, p_creak, p_le0, p_lt1, p_rng, not_true_eq_false, not_false_eq_true, if_true, if_false, and_true, true_and, and_false, false_and, or_true, true_or, or_false, false_or, and_self, or_self, iff_true, true_iff, iff_false, false_iff, decide_eq_true_eq, decide_true, decide_false, Int32.add_zero, Nat.add_zero, ne_eq, Bool.false_eq_true, eq_self]) hno (by omega)).symm)
  exact lp2 ((y_n y - (0)) + 1) (0) H locs ls (by omega) (fun j hj => absurd hj (Nat.not_lt_zero j)) (Nat.lt_succ_self _) hP hD hS (lv_sub hl [1, 2, 3, 0] rfl)
abbrev rmX11_onCart_w : Room := { frames := 2, cells := 0, slots := 0, locals := 44 }
theorem in_X11_onCart_w_X11 : ∀ w ∈ u_ws RX11 TX11 19, w ∈ wsX11_onCart := by decide +kernel
set_option maxHeartbeats 4000000 in
set_option maxRecDepth 100000 in
theorem kX11_onCart_w {D : va_G} {ct : Nat → ClassId} {l : Launch} (o : Nat → Nat) (v : MS) (R : va_W) (x : Nat) (x2 : Int32) (y : YS) (hB : y_n y ≤ 12 ∧ y_cn y ≤ 4 ∧ y_rn y ≤ 5) (hq : RelI y (m_g v)) (hx4 : x < 4) : MI D ct l yX11_onCart wsX11_onCart rmX11_onCart_w (MW ct o v R) [.ref (o 0), .int (nI (x)), .int (x2), .int (nI (1))] (fun r0 (_ : Unit) => r0 = t_wo y (nI x) x2) (fun _ : Unit => MW ct o v R) := by
  refine MIof (cc := cX11_onCart) (maxL := 6) (ret := (some .int)) (by decide) rfl (Nat.le_of_ble_eq_true rfl) ?_
  intro p e s m args below meth c A H locs F hP hK hD hS hA ls hl
  obtain ⟨hx, hb, hr, hlocks, hml, hown, hts, hin⟩ := F
  have hl : lv_has ls 6 [(0, .ref (o 0)), (1, .int (nI (x))), (2, .int (x2)), (3, .int (nI (1)))] := hl
  have hn : y_n y ≤ 12 := hB.1
  have hcn : y_cn y ≤ 4 := hB.2.1
  have hrn : y_rn y ≤ 5 := hB.2.2
  have h_X11 := in_X11_onCart_w_X11
  have f9 := hts (.fieldLink RX11 9 "CartArgumentsModel" "all" "[I") (by decide +kernel)
  refine lv_iconst (v := nI (0)) hx hb dX11_onCart_0 (by decide) ?_
  refine lv_istore (lv' := [(4, .int (nI (0))), (0, .ref (o 0)), (1, .int (nI (x))), (2, .int (x2)), (3, .int (nI (1)))]) hx hb dX11_onCart_1 hl (by decide) rfl (fun ls hl => ?_)
  refine lv_iconst (v := nI (0)) hx hb dX11_onCart_3 (by decide) ?_
  refine lv_istore (lv' := [(5, .int (nI (0))), (4, .int (nI (0))), (0, .ref (o 0)), (1, .int (nI (x))), (2, .int (x2)), (3, .int (nI (1)))]) hx hb dX11_onCart_4 hl (by decide) rfl (fun ls hl => ?_)
  have lp6 : ∀ (fu : Nat) (k : Nat) (acc : Int32) (H : Heap) (locs : List Loc) (ls : Array Slot), (k ≤ y_n y) → (acc = sI (fun k => if y_cu y k = nI x ∧ y_kd y k = x2 then y_w y k else 0) k) → y_n y - k < fu → va_P D vwCl (MW ct o v R) H → va_D A (MW ct o v R) → va_S A s.heap H locs → lv_has ls 6 [(0, .ref (o 0)), (1, .int (nI (x))), (2, .int (x2)), (3, .int (nI (1))), (4, .int (acc)), (5, .int (nI (k)))] → W p l e rmX11_onCart_w s m args below meth c H locs 0 0 (MQ below (va_Qi (fun r0 (_ : Unit) => r0 = t_wo y (nI x) x2) (zB D ct A (fun _ : Unit => MW ct o v R)) A) args s rmX11_onCart_w.cells rmX11_onCart_w.slots A) (F0 m 6 ls []) := by
    intro fu
    induction fu with
    | zero => intro k acc H locs ls hk hacc hfu; exact absurd hfu (Nat.not_lt_zero _)
    | succ fu ih6 =>
      intro k acc H locs ls hk hacc hfu hP hD hS hl
      refine lv_iload hx hb dX11_onCart_6 (lv_at hl 5 rfl) ?_
      refine lv_aload_n hx hb dX11_onCart_8 rfl (lv_at hl 0 rfl) ?_
      refine va_get (ci := 10) (v := .ref (o 1)) hx hb hts h_X11 hown hK hP 0 rfl rfl 0 (by decide) f9 (fun _ h9 => h9) rfl dX11_onCart_9 ?_
      refine lv_iconst (v := nI (0)) hx hb dX11_onCart_12 (by decide) ?_
      refine zIald (n := 972) (f := m_g v) (i := 0) hx hb hK hP 1 rfl (by omega) (by decide) dX11_onCart_13 ?_
      refine zTop (y := nI (y_n y)) hq.1 ?_
      refine zN_icmp_ge (tgt := 68) hx hb (by omega) (by omega) dX11_onCart_14 (by decide) (fun c14_1 => ?_) (fun c14_1 => ?_)
      · skip
        refine lv_iload hx hb dX11_onCart_68 (lv_at hl 4 rfl) ?_
        exact zIret () hx hb hr hlocks hK hP hD hS dX11_onCart_70 (show acc = t_wo y (nI x) x2 from (by rw [hacc, t_wo]; congr 1; omega))
      · skip
        refine lv_iload hx hb dX11_onCart_17 (lv_at hl 4 rfl) ?_
        refine lv_aload_n hx hb dX11_onCart_19 rfl (lv_at hl 0 rfl) ?_
        refine lv_iload hx hb dX11_onCart_20 (lv_at hl 5 rfl) ?_
        refine lv_iload_n hx hb dX11_onCart_22 rfl (lv_at hl 1 rfl) ?_
        refine zVI [.int (nI (k)), .int (nI (x))] [.int (acc)] (kX11_isOn (o) (v) (R) (k) (x) (y) (show y_n (y) ≤ 12 ∧ y_cn (y) ≤ 4 ∧ y_rn (y) ≤ 5 from hB) (show RelI (y) (m_g v) from hq) (show (k) < y_n (y) from by omega) (show (x) < 4 from by omega)) hx hb hml hown hts (cwV 2 hts gX11_onCart_X11_isOn rfl rfl rfl (by decide +kernel) ⟨(Nat.le_of_ble_eq_true rfl), (Nat.le_of_ble_eq_true rfl)⟩) hK hP hD hS hA (va_recv hK hP (ci := 10) (q0 := 0) rfl rfl) rfl hl.1 rfl (Nat.le_of_ble_eq_true rfl) dX11_onCart_23 ⟨(Nat.le_of_ble_eq_true rfl), (Nat.le_of_ble_eq_true rfl)⟩ (fun r_23 _ H locs hr_23 hP hD hS => ?_)
        subst hr_23
        have hP : va_P D vwCl (MW ct o v R) H := hP
        have hD : va_D A (MW ct o v R) := hD
        refine zB_if_eq (tgt := 58) hx hb dX11_onCart_26 (by decide) (fun c26_2 => ?_) (fun c26_2 => ?_)
        · skip
          refine lv_iconst (v := nI (0)) hx hb dX11_onCart_58 (by decide) ?_
          refine lv_iadd hx hb dX11_onCart_59 ?_
          refine lv_istore (lv' := [(4, .int ((acc + nI (0)))), (0, .ref (o 0)), (1, .int (nI (x))), (2, .int (x2)), (3, .int (nI (1))), (5, .int (nI (k)))]) hx hb dX11_onCart_60 hl (by decide) rfl (fun ls hl => ?_)
          refine lv_iinc (v := nI ((k + 1))) (lv' := [(5, .int (nI ((k + 1)))), (4, .int ((acc + nI (0)))), (0, .ref (o 0)), (1, .int (nI (x))), (2, .int (x2)), (3, .int (nI (1)))]) hx hb dX11_onCart_62 hl (k := 5) rfl (zInc _) (by decide) rfl (fun ls hl => ?_)
          refine lv_goto (tgt := 6) hx hb dX11_onCart_65 (by decide) ?_
          exact ih6 ((k + 1)) ((acc + nI (0))) H locs ls (by omega) (by simp only [sI, hacc, nI_0, Int32.add_zero, c14_1, c26_2, p_in, p_worn, p_wi, p_creak, p_le0, p_lt1, p_rng, not_true_eq_false, not_false_eq_true, if_true, if_false, and_true, true_and, and_false, false_and, or_true, true_or, or_false, false_or, and_self, or_self, iff_true, true_iff, iff_false, false_iff, decide_eq_true_eq, decide_true, decide_false, Int32.add_zero, Nat.add_zero, ne_eq, Bool.false_eq_true, eq_self]) (by omega) hP hD hS (lv_sub hl [2, 3, 4, 5, 1, 0] rfl)
        · skip
          refine lv_aload_n hx hb dX11_onCart_29 rfl (lv_at hl 0 rfl) ?_
          refine lv_iload hx hb dX11_onCart_30 (lv_at hl 5 rfl) ?_
          refine lv_iconst (v := nI (0)) hx hb dX11_onCart_32 (by decide) ?_
          refine zVI [.int (nI (k)), .int (nI (0))] [.int (acc)] (kX11_t (o) (v) (R) (k) (0) (show (k) < 12 from by omega) (show (0) < 4 from by omega)) hx hb hml hown hts (cwV 2 hts gX11_onCart_X11_t rfl rfl rfl (by decide +kernel) ⟨(Nat.le_of_ble_eq_true rfl), (Nat.le_of_ble_eq_true rfl)⟩) hK hP hD hS hA (va_recv hK hP (ci := 10) (q0 := 0) rfl rfl) rfl hl.1 rfl (Nat.le_of_ble_eq_true rfl) dX11_onCart_33 ⟨(Nat.le_of_ble_eq_true rfl), (Nat.le_of_ble_eq_true rfl)⟩ (fun r_33 _ H locs hr_33 hP hD hS => ?_)
          subst hr_33
          have hP : va_P D vwCl (MW ct o v R) H := hP
          have hD : va_D A (MW ct o v R) := hD
          refine zTop (y := (y_kd y (k))) (rel_kd hq (k := k) (by omega)) ?_
          refine lv_iload_n hx hb dX11_onCart_36 rfl (lv_at hl 2 rfl) ?_
          refine lv_icmp_ne (tgt := 58) hx hb dX11_onCart_37 (by decide) (fun c37_3 => ?_) (fun c37_3 => ?_)
          · skip
            refine lv_iconst (v := nI (0)) hx hb dX11_onCart_58 (by decide) ?_
            refine lv_iadd hx hb dX11_onCart_59 ?_
            refine lv_istore (lv' := [(4, .int ((acc + nI (0)))), (0, .ref (o 0)), (1, .int (nI (x))), (2, .int (x2)), (3, .int (nI (1))), (5, .int (nI (k)))]) hx hb dX11_onCart_60 hl (by decide) rfl (fun ls hl => ?_)
            refine lv_iinc (v := nI ((k + 1))) (lv' := [(5, .int (nI ((k + 1)))), (4, .int ((acc + nI (0)))), (0, .ref (o 0)), (1, .int (nI (x))), (2, .int (x2)), (3, .int (nI (1)))]) hx hb dX11_onCart_62 hl (k := 5) rfl (zInc _) (by decide) rfl (fun ls hl => ?_)
            refine lv_goto (tgt := 6) hx hb dX11_onCart_65 (by decide) ?_
            exact ih6 ((k + 1)) ((acc + nI (0))) H locs ls (by omega) (by simp only [sI, hacc, nI_0, Int32.add_zero, c14_1, c26_2, c37_3, p_in, p_worn, p_wi, p_creak, p_le0, p_lt1, p_rng, not_true_eq_false, not_false_eq_true, if_true, if_false, and_true, true_and, and_false, false_and, or_true, true_or, or_false, false_or, and_self, or_self, iff_true, true_iff, iff_false, false_iff, decide_eq_true_eq, decide_true, decide_false, Int32.add_zero, Nat.add_zero, ne_eq, Bool.false_eq_true, eq_self]) (by omega) hP hD hS (lv_sub hl [2, 3, 4, 5, 1, 0] rfl)
          · skip
            refine lv_iload_n hx hb dX11_onCart_40 rfl (lv_at hl 3 rfl) ?_
            refine lv_if_eq (tgt := 54) hx hb dX11_onCart_41 (by decide) (fun c9 => absurd c9 (by decide)) (fun c9 => ?_)
            refine lv_aload_n hx hb dX11_onCart_44 rfl (lv_at hl 0 rfl) ?_
            refine lv_iload hx hb dX11_onCart_45 (lv_at hl 5 rfl) ?_
            refine lv_iconst (v := nI (1)) hx hb dX11_onCart_47 (by decide) ?_
            refine zVI [.int (nI (k)), .int (nI (1))] [.int (acc)] (kX11_t (o) (v) (R) (k) (1) (show (k) < 12 from by omega) (show (1) < 4 from by omega)) hx hb hml hown hts (cwV 2 hts gX11_onCart_X11_t rfl rfl rfl (by decide +kernel) ⟨(Nat.le_of_ble_eq_true rfl), (Nat.le_of_ble_eq_true rfl)⟩) hK hP hD hS hA (va_recv hK hP (ci := 10) (q0 := 0) rfl rfl) rfl hl.1 rfl (Nat.le_of_ble_eq_true rfl) dX11_onCart_48 ⟨(Nat.le_of_ble_eq_true rfl), (Nat.le_of_ble_eq_true rfl)⟩ (fun r_48 _ H locs hr_48 hP hD hS => ?_)
            subst hr_48
            have hP : va_P D vwCl (MW ct o v R) H := hP
            have hD : va_D A (MW ct o v R) := hD
            refine zTop (y := (y_w y (k))) (rel_w hq (k := k) (by omega)) ?_
            refine lv_goto (tgt := 59) hx hb dX11_onCart_51 (by decide) ?_
            refine lv_iadd hx hb dX11_onCart_59 ?_
            refine lv_istore (lv' := [(4, .int ((acc + (y_w y (k))))), (0, .ref (o 0)), (1, .int (nI (x))), (2, .int (x2)), (3, .int (nI (1))), (5, .int (nI (k)))]) hx hb dX11_onCart_60 hl (by decide) rfl (fun ls hl => ?_)
            refine lv_iinc (v := nI ((k + 1))) (lv' := [(5, .int (nI ((k + 1)))), (4, .int ((acc + (y_w y (k))))), (0, .ref (o 0)), (1, .int (nI (x))), (2, .int (x2)), (3, .int (nI (1)))]) hx hb dX11_onCart_62 hl (k := 5) rfl (zInc _) (by decide) rfl (fun ls hl => ?_)
            refine lv_goto (tgt := 6) hx hb dX11_onCart_65 (by decide) ?_
            exact ih6 ((k + 1)) ((acc + (y_w y (k)))) H locs ls (by omega) (by simp only [sI, hacc, nI_0, Int32.add_zero, c14_1, c26_2, eq_true c37_3, p_in, p_worn, p_wi, p_creak, p_le0, p_lt1, p_rng, not_true_eq_false, not_false_eq_true, if_true, if_false, and_true, true_and, and_false, false_and, or_true, true_or, or_false, false_or, and_self, or_self, iff_true, true_iff, iff_false, false_iff, decide_eq_true_eq, decide_true, decide_false, Int32.add_zero, Nat.add_zero, ne_eq, Bool.false_eq_true, eq_self]) (by omega) hP hD hS (lv_sub hl [2, 3, 4, 5, 1, 0] rfl)
  exact lp6 ((y_n y - (0)) + 1) (0) (nI 0) H locs ls (by omega) rfl (Nat.lt_succ_self _) hP hD hS (lv_sub hl [2, 3, 4, 5, 1, 0] rfl)
abbrev rmX11_onCart_c : Room := { frames := 2, cells := 0, slots := 0, locals := 44 }
theorem in_X11_onCart_c_X11 : ∀ w ∈ u_ws RX11 TX11 19, w ∈ wsX11_onCart := by decide +kernel
set_option maxHeartbeats 4000000 in
set_option maxRecDepth 100000 in
theorem kX11_onCart_c {D : va_G} {ct : Nat → ClassId} {l : Launch} (o : Nat → Nat) (v : MS) (R : va_W) (x : Nat) (x2 : Int32) (y : YS) (hB : y_n y ≤ 12 ∧ y_cn y ≤ 4 ∧ y_rn y ≤ 5) (hq : RelI y (m_g v)) (hx4 : x < 4) : MI D ct l yX11_onCart wsX11_onCart rmX11_onCart_c (MW ct o v R) [.ref (o 0), .int (nI (x)), .int (x2), .int (nI (0))] (fun r0 (_ : Unit) => r0 = t_oc y (nI x) x2) (fun _ : Unit => MW ct o v R) := by
  refine MIof (cc := cX11_onCart) (maxL := 6) (ret := (some .int)) (by decide) rfl (Nat.le_of_ble_eq_true rfl) ?_
  intro p e s m args below meth c A H locs F hP hK hD hS hA ls hl
  obtain ⟨hx, hb, hr, hlocks, hml, hown, hts, hin⟩ := F
  have hl : lv_has ls 6 [(0, .ref (o 0)), (1, .int (nI (x))), (2, .int (x2)), (3, .int (nI (0)))] := hl
  have hn : y_n y ≤ 12 := hB.1
  have hcn : y_cn y ≤ 4 := hB.2.1
  have hrn : y_rn y ≤ 5 := hB.2.2
  have h_X11 := in_X11_onCart_c_X11
  have f9 := hts (.fieldLink RX11 9 "CartArgumentsModel" "all" "[I") (by decide +kernel)
  refine lv_iconst (v := nI (0)) hx hb dX11_onCart_0 (by decide) ?_
  refine lv_istore (lv' := [(4, .int (nI (0))), (0, .ref (o 0)), (1, .int (nI (x))), (2, .int (x2)), (3, .int (nI (0)))]) hx hb dX11_onCart_1 hl (by decide) rfl (fun ls hl => ?_)
  refine lv_iconst (v := nI (0)) hx hb dX11_onCart_3 (by decide) ?_
  refine lv_istore (lv' := [(5, .int (nI (0))), (4, .int (nI (0))), (0, .ref (o 0)), (1, .int (nI (x))), (2, .int (x2)), (3, .int (nI (0)))]) hx hb dX11_onCart_4 hl (by decide) rfl (fun ls hl => ?_)
  have lp6 : ∀ (fu : Nat) (k : Nat) (acc : Int32) (H : Heap) (locs : List Loc) (ls : Array Slot), (k ≤ y_n y) → (acc = sI (fun k => if y_cu y k = nI x ∧ y_kd y k = x2 then nI 1 else 0) k) → y_n y - k < fu → va_P D vwCl (MW ct o v R) H → va_D A (MW ct o v R) → va_S A s.heap H locs → lv_has ls 6 [(0, .ref (o 0)), (1, .int (nI (x))), (2, .int (x2)), (3, .int (nI (0))), (4, .int (acc)), (5, .int (nI (k)))] → W p l e rmX11_onCart_c s m args below meth c H locs 0 0 (MQ below (va_Qi (fun r0 (_ : Unit) => r0 = t_oc y (nI x) x2) (zB D ct A (fun _ : Unit => MW ct o v R)) A) args s rmX11_onCart_c.cells rmX11_onCart_c.slots A) (F0 m 6 ls []) := by
    intro fu
    induction fu with
    | zero => intro k acc H locs ls hk hacc hfu; exact absurd hfu (Nat.not_lt_zero _)
    | succ fu ih6 =>
      intro k acc H locs ls hk hacc hfu hP hD hS hl
      refine lv_iload hx hb dX11_onCart_6 (lv_at hl 5 rfl) ?_
      refine lv_aload_n hx hb dX11_onCart_8 rfl (lv_at hl 0 rfl) ?_
      refine va_get (ci := 10) (v := .ref (o 1)) hx hb hts h_X11 hown hK hP 0 rfl rfl 0 (by decide) f9 (fun _ h9 => h9) rfl dX11_onCart_9 ?_
      refine lv_iconst (v := nI (0)) hx hb dX11_onCart_12 (by decide) ?_
      refine zIald (n := 972) (f := m_g v) (i := 0) hx hb hK hP 1 rfl (by omega) (by decide) dX11_onCart_13 ?_
      refine zTop (y := nI (y_n y)) hq.1 ?_
      refine zN_icmp_ge (tgt := 68) hx hb (by omega) (by omega) dX11_onCart_14 (by decide) (fun c14_1 => ?_) (fun c14_1 => ?_)
      · skip
        refine lv_iload hx hb dX11_onCart_68 (lv_at hl 4 rfl) ?_
        exact zIret () hx hb hr hlocks hK hP hD hS dX11_onCart_70 (show acc = t_oc y (nI x) x2 from (by rw [hacc, t_oc]; congr 1; omega))
      · skip
        refine lv_iload hx hb dX11_onCart_17 (lv_at hl 4 rfl) ?_
        refine lv_aload_n hx hb dX11_onCart_19 rfl (lv_at hl 0 rfl) ?_
        refine lv_iload hx hb dX11_onCart_20 (lv_at hl 5 rfl) ?_
        refine lv_iload_n hx hb dX11_onCart_22 rfl (lv_at hl 1 rfl) ?_
        refine zVI [.int (nI (k)), .int (nI (x))] [.int (acc)] (kX11_isOn (o) (v) (R) (k) (x) (y) (show y_n (y) ≤ 12 ∧ y_cn (y) ≤ 4 ∧ y_rn (y) ≤ 5 from hB) (show RelI (y) (m_g v) from hq) (show (k) < y_n (y) from by omega) (show (x) < 4 from by omega)) hx hb hml hown hts (cwV 2 hts gX11_onCart_X11_isOn rfl rfl rfl (by decide +kernel) ⟨(Nat.le_of_ble_eq_true rfl), (Nat.le_of_ble_eq_true rfl)⟩) hK hP hD hS hA (va_recv hK hP (ci := 10) (q0 := 0) rfl rfl) rfl hl.1 rfl (Nat.le_of_ble_eq_true rfl) dX11_onCart_23 ⟨(Nat.le_of_ble_eq_true rfl), (Nat.le_of_ble_eq_true rfl)⟩ (fun r_23 _ H locs hr_23 hP hD hS => ?_)
        subst hr_23
        have hP : va_P D vwCl (MW ct o v R) H := hP
        have hD : va_D A (MW ct o v R) := hD
        refine zB_if_eq (tgt := 58) hx hb dX11_onCart_26 (by decide) (fun c26_2 => ?_) (fun c26_2 => ?_)
        · skip
          refine lv_iconst (v := nI (0)) hx hb dX11_onCart_58 (by decide) ?_
          refine lv_iadd hx hb dX11_onCart_59 ?_
          refine lv_istore (lv' := [(4, .int ((acc + nI (0)))), (0, .ref (o 0)), (1, .int (nI (x))), (2, .int (x2)), (3, .int (nI (0))), (5, .int (nI (k)))]) hx hb dX11_onCart_60 hl (by decide) rfl (fun ls hl => ?_)
          refine lv_iinc (v := nI ((k + 1))) (lv' := [(5, .int (nI ((k + 1)))), (4, .int ((acc + nI (0)))), (0, .ref (o 0)), (1, .int (nI (x))), (2, .int (x2)), (3, .int (nI (0)))]) hx hb dX11_onCart_62 hl (k := 5) rfl (zInc _) (by decide) rfl (fun ls hl => ?_)
          refine lv_goto (tgt := 6) hx hb dX11_onCart_65 (by decide) ?_
          exact ih6 ((k + 1)) ((acc + nI (0))) H locs ls (by omega) (by simp only [sI, hacc, nI_0, Int32.add_zero, c14_1, c26_2, p_in, p_worn, p_wi, p_creak, p_le0, p_lt1, p_rng, not_true_eq_false, not_false_eq_true, if_true, if_false, and_true, true_and, and_false, false_and, or_true, true_or, or_false, false_or, and_self, or_self, iff_true, true_iff, iff_false, false_iff, decide_eq_true_eq, decide_true, decide_false, Int32.add_zero, Nat.add_zero, ne_eq, Bool.false_eq_true, eq_self]) (by omega) hP hD hS (lv_sub hl [2, 3, 4, 5, 1, 0] rfl)
        · skip
          refine lv_aload_n hx hb dX11_onCart_29 rfl (lv_at hl 0 rfl) ?_
          refine lv_iload hx hb dX11_onCart_30 (lv_at hl 5 rfl) ?_
          refine lv_iconst (v := nI (0)) hx hb dX11_onCart_32 (by decide) ?_
          refine zVI [.int (nI (k)), .int (nI (0))] [.int (acc)] (kX11_t (o) (v) (R) (k) (0) (show (k) < 12 from by omega) (show (0) < 4 from by omega)) hx hb hml hown hts (cwV 2 hts gX11_onCart_X11_t rfl rfl rfl (by decide +kernel) ⟨(Nat.le_of_ble_eq_true rfl), (Nat.le_of_ble_eq_true rfl)⟩) hK hP hD hS hA (va_recv hK hP (ci := 10) (q0 := 0) rfl rfl) rfl hl.1 rfl (Nat.le_of_ble_eq_true rfl) dX11_onCart_33 ⟨(Nat.le_of_ble_eq_true rfl), (Nat.le_of_ble_eq_true rfl)⟩ (fun r_33 _ H locs hr_33 hP hD hS => ?_)
          subst hr_33
          have hP : va_P D vwCl (MW ct o v R) H := hP
          have hD : va_D A (MW ct o v R) := hD
          refine zTop (y := (y_kd y (k))) (rel_kd hq (k := k) (by omega)) ?_
          refine lv_iload_n hx hb dX11_onCart_36 rfl (lv_at hl 2 rfl) ?_
          refine lv_icmp_ne (tgt := 58) hx hb dX11_onCart_37 (by decide) (fun c37_3 => ?_) (fun c37_3 => ?_)
          · skip
            refine lv_iconst (v := nI (0)) hx hb dX11_onCart_58 (by decide) ?_
            refine lv_iadd hx hb dX11_onCart_59 ?_
            refine lv_istore (lv' := [(4, .int ((acc + nI (0)))), (0, .ref (o 0)), (1, .int (nI (x))), (2, .int (x2)), (3, .int (nI (0))), (5, .int (nI (k)))]) hx hb dX11_onCart_60 hl (by decide) rfl (fun ls hl => ?_)
            refine lv_iinc (v := nI ((k + 1))) (lv' := [(5, .int (nI ((k + 1)))), (4, .int ((acc + nI (0)))), (0, .ref (o 0)), (1, .int (nI (x))), (2, .int (x2)), (3, .int (nI (0)))]) hx hb dX11_onCart_62 hl (k := 5) rfl (zInc _) (by decide) rfl (fun ls hl => ?_)
            refine lv_goto (tgt := 6) hx hb dX11_onCart_65 (by decide) ?_
            exact ih6 ((k + 1)) ((acc + nI (0))) H locs ls (by omega) (by simp only [sI, hacc, nI_0, Int32.add_zero, c14_1, c26_2, c37_3, p_in, p_worn, p_wi, p_creak, p_le0, p_lt1, p_rng, not_true_eq_false, not_false_eq_true, if_true, if_false, and_true, true_and, and_false, false_and, or_true, true_or, or_false, false_or, and_self, or_self, iff_true, true_iff, iff_false, false_iff, decide_eq_true_eq, decide_true, decide_false, Int32.add_zero, Nat.add_zero, ne_eq, Bool.false_eq_true, eq_self]) (by omega) hP hD hS (lv_sub hl [2, 3, 4, 5, 1, 0] rfl)
          · skip
            refine lv_iload_n hx hb dX11_onCart_40 rfl (lv_at hl 3 rfl) ?_
            refine lv_if_eq (tgt := 54) hx hb dX11_onCart_41 (by decide) (fun c9 => ?_) (fun c9 => absurd (by decide) c9)
            refine lv_iconst (v := nI (1)) hx hb dX11_onCart_54 (by decide) ?_
            refine lv_goto (tgt := 59) hx hb dX11_onCart_55 (by decide) ?_
            refine lv_iadd hx hb dX11_onCart_59 ?_
            refine lv_istore (lv' := [(4, .int ((acc + nI (1)))), (0, .ref (o 0)), (1, .int (nI (x))), (2, .int (x2)), (3, .int (nI (0))), (5, .int (nI (k)))]) hx hb dX11_onCart_60 hl (by decide) rfl (fun ls hl => ?_)
            refine lv_iinc (v := nI ((k + 1))) (lv' := [(5, .int (nI ((k + 1)))), (4, .int ((acc + nI (1)))), (0, .ref (o 0)), (1, .int (nI (x))), (2, .int (x2)), (3, .int (nI (0)))]) hx hb dX11_onCart_62 hl (k := 5) rfl (zInc _) (by decide) rfl (fun ls hl => ?_)
            refine lv_goto (tgt := 6) hx hb dX11_onCart_65 (by decide) ?_
            exact ih6 ((k + 1)) ((acc + nI (1))) H locs ls (by omega) (by simp only [sI, hacc, nI_0, Int32.add_zero, c14_1, c26_2, eq_true c37_3, p_in, p_worn, p_wi, p_creak, p_le0, p_lt1, p_rng, not_true_eq_false, not_false_eq_true, if_true, if_false, and_true, true_and, and_false, false_and, or_true, true_or, or_false, false_or, and_self, or_self, iff_true, true_iff, iff_false, false_iff, decide_eq_true_eq, decide_true, decide_false, Int32.add_zero, Nat.add_zero, ne_eq, Bool.false_eq_true, eq_self]) (by omega) hP hD hS (lv_sub hl [2, 3, 4, 5, 1, 0] rfl)
  exact lp6 ((y_n y - (0)) + 1) (0) (nI 0) H locs ls (by omega) rfl (Nat.lt_succ_self _) hP hD hS (lv_sub hl [2, 3, 4, 5, 1, 0] rfl)
abbrev rmX11_weightOf : Room := { frames := 3, cells := 0, slots := 0, locals := 69 }
set_option maxHeartbeats 4000000 in
set_option maxRecDepth 100000 in
theorem kX11_weightOf {D : va_G} {ct : Nat → ClassId} {l : Launch} (o : Nat → Nat) (v : MS) (R : va_W) (x : Nat) (y : YS) (hB : y_n y ≤ 12 ∧ y_cn y ≤ 4 ∧ y_rn y ≤ 5) (hq : RelI y (m_g v)) (hx4 : x < 4) : MI D ct l yX11_weightOf wsX11_weightOf rmX11_weightOf (MW ct o v R) [.ref (o 0), .int (nI (x))] (fun r0 (_ : Unit) => r0 = t_all y (nI x)) (fun _ : Unit => MW ct o v R) := by
  refine MIof (cc := cX11_weightOf) (maxL := 2) (ret := (some .int)) (by decide) rfl (Nat.le_of_ble_eq_true rfl) ?_
  intro p e s m args below meth c A H locs F hP hK hD hS hA ls hl
  obtain ⟨hx, hb, hr, hlocks, hml, hown, hts, hin⟩ := F
  have hl : lv_has ls 2 [(0, .ref (o 0)), (1, .int (nI (x)))] := hl
  have hn : y_n y ≤ 12 := hB.1
  have hcn : y_cn y ≤ 4 := hB.2.1
  have hrn : y_rn y ≤ 5 := hB.2.2
  refine lv_aload_n hx hb dX11_weightOf_0 rfl (lv_at hl 0 rfl) ?_
  refine lv_iload_n hx hb dX11_weightOf_1 rfl (lv_at hl 1 rfl) ?_
  refine lv_iconst (v := nI (0)) hx hb dX11_weightOf_2 (by decide) ?_
  refine lv_iconst (v := nI (1)) hx hb dX11_weightOf_3 (by decide) ?_
  refine zVI [.int (nI (x)), .int (nI (0)), .int (nI (1))] [] (kX11_onCart_w (o) (v) (R) (x) (nI (0)) (y) (show y_n (y) ≤ 12 ∧ y_cn (y) ≤ 4 ∧ y_rn (y) ≤ 5 from hB) (show RelI (y) (m_g v) from hq) (show (x) < 4 from by omega)) hx hb hml hown hts (cwV 3 hts gX11_weightOf_X11_onCart rfl rfl rfl (by decide +kernel) ⟨(Nat.le_of_ble_eq_true rfl), (Nat.le_of_ble_eq_true rfl)⟩) hK hP hD hS hA (va_recv hK hP (ci := 10) (q0 := 0) rfl rfl) rfl hl.1 rfl (Nat.le_of_ble_eq_true rfl) dX11_weightOf_4 ⟨(Nat.le_of_ble_eq_true rfl), (Nat.le_of_ble_eq_true rfl)⟩ (fun r_4 _ H locs hr_4 hP hD hS => ?_)
  subst hr_4
  have hP : va_P D vwCl (MW ct o v R) H := hP
  have hD : va_D A (MW ct o v R) := hD
  refine lv_aload_n hx hb dX11_weightOf_7 rfl (lv_at hl 0 rfl) ?_
  refine lv_iload_n hx hb dX11_weightOf_8 rfl (lv_at hl 1 rfl) ?_
  refine lv_iconst (v := nI (1)) hx hb dX11_weightOf_9 (by decide) ?_
  refine lv_iconst (v := nI (1)) hx hb dX11_weightOf_10 (by decide) ?_
  refine zVI [.int (nI (x)), .int (nI (1)), .int (nI (1))] [.int ((t_wo (y) (nI (x)) (nI (0))))] (kX11_onCart_w (o) (v) (R) (x) (nI (1)) (y) (show y_n (y) ≤ 12 ∧ y_cn (y) ≤ 4 ∧ y_rn (y) ≤ 5 from hB) (show RelI (y) (m_g v) from hq) (show (x) < 4 from by omega)) hx hb hml hown hts (cwV 3 hts gX11_weightOf_X11_onCart rfl rfl rfl (by decide +kernel) ⟨(Nat.le_of_ble_eq_true rfl), (Nat.le_of_ble_eq_true rfl)⟩) hK hP hD hS hA (va_recv hK hP (ci := 10) (q0 := 0) rfl rfl) rfl hl.1 rfl (Nat.le_of_ble_eq_true rfl) dX11_weightOf_11 ⟨(Nat.le_of_ble_eq_true rfl), (Nat.le_of_ble_eq_true rfl)⟩ (fun r_11 _ H locs hr_11 hP hD hS => ?_)
  subst hr_11
  have hP : va_P D vwCl (MW ct o v R) H := hP
  have hD : va_D A (MW ct o v R) := hD
  refine lv_iadd hx hb dX11_weightOf_14 ?_
  exact zIret () hx hb hr hlocks hK hP hD hS dX11_weightOf_15 (show ((t_wo (y) (nI (x)) (nI (0))) + (t_wo (y) (nI (x)) (nI (1)))) = t_all y (nI x) from rfl)
abbrev rmX11_tenthsOf : Room := { frames := 2, cells := 0, slots := 0, locals := 44 }
theorem in_X11_tenthsOf_X11 : ∀ w ∈ u_ws RX11 TX11 19, w ∈ wsX11_tenthsOf := by decide +kernel
set_option maxHeartbeats 4000000 in
set_option maxRecDepth 100000 in
theorem kX11_tenthsOf {D : va_G} {ct : Nat → ClassId} {l : Launch} (o : Nat → Nat) (v : MS) (R : va_W) (x : Nat) (x2 : Int32) (y : YS) (hB : y_n y ≤ 12 ∧ y_cn y ≤ 4 ∧ y_rn y ≤ 5) (hq : RelI y (m_g v)) (hx4 : x < 4) : MI D ct l yX11_tenthsOf wsX11_tenthsOf rmX11_tenthsOf (MW ct o v R) [.ref (o 0), .int (nI (x)), .int (x2)] (fun r0 (_ : Unit) => r0 = t_te y (nI x) x2) (fun _ : Unit => MW ct o v R) := by
  refine MIof (cc := cX11_tenthsOf) (maxL := 6) (ret := (some .int)) (by decide) rfl (Nat.le_of_ble_eq_true rfl) ?_
  intro p e s m args below meth c A H locs F hP hK hD hS hA ls hl
  obtain ⟨hx, hb, hr, hlocks, hml, hown, hts, hin⟩ := F
  have hl : lv_has ls 6 [(0, .ref (o 0)), (1, .int (nI (x))), (2, .int (x2))] := hl
  have hn : y_n y ≤ 12 := hB.1
  have hcn : y_cn y ≤ 4 := hB.2.1
  have hrn : y_rn y ≤ 5 := hB.2.2
  have h_X11 := in_X11_tenthsOf_X11
  have f9 := hts (.fieldLink RX11 9 "CartArgumentsModel" "all" "[I") (by decide +kernel)
  refine lv_iconst (v := nI (0)) hx hb dX11_tenthsOf_0 (by decide) ?_
  refine lv_istore_n (lv' := [(3, .int (nI (0))), (0, .ref (o 0)), (1, .int (nI (x))), (2, .int (x2))]) hx hb dX11_tenthsOf_1 rfl hl (by decide) rfl (fun ls hl => ?_)
  refine lv_iconst (v := nI (0)) hx hb dX11_tenthsOf_2 (by decide) ?_
  refine lv_istore (lv' := [(4, .int (nI (0))), (3, .int (nI (0))), (0, .ref (o 0)), (1, .int (nI (x))), (2, .int (x2))]) hx hb dX11_tenthsOf_3 hl (by decide) rfl (fun ls hl => ?_)
  have lp5 : ∀ (fu : Nat) (k : Nat) (acc : Int32) (H : Heap) (locs : List Loc) (ls : Array Slot), (k ≤ y_n y) → (acc = sI (fun k => if y_cu y k = nI x then t_tt y k x2 else 0) k) → y_n y - k < fu → va_P D vwCl (MW ct o v R) H → va_D A (MW ct o v R) → va_S A s.heap H locs → lv_has ls 6 [(0, .ref (o 0)), (1, .int (nI (x))), (2, .int (x2)), (3, .int (acc)), (4, .int (nI (k)))] → W p l e rmX11_tenthsOf s m args below meth c H locs 0 0 (MQ below (va_Qi (fun r0 (_ : Unit) => r0 = t_te y (nI x) x2) (zB D ct A (fun _ : Unit => MW ct o v R)) A) args s rmX11_tenthsOf.cells rmX11_tenthsOf.slots A) (F0 m 5 ls []) := by
    intro fu
    induction fu with
    | zero => intro k acc H locs ls hk hacc hfu; exact absurd hfu (Nat.not_lt_zero _)
    | succ fu ih5 =>
      intro k acc H locs ls hk hacc hfu hP hD hS hl
      refine lv_iload hx hb dX11_tenthsOf_5 (lv_at hl 4 rfl) ?_
      refine lv_aload_n hx hb dX11_tenthsOf_7 rfl (lv_at hl 0 rfl) ?_
      refine va_get (ci := 10) (v := .ref (o 1)) hx hb hts h_X11 hown hK hP 0 rfl rfl 0 (by decide) f9 (fun _ h9 => h9) rfl dX11_tenthsOf_8 ?_
      refine lv_iconst (v := nI (0)) hx hb dX11_tenthsOf_11 (by decide) ?_
      refine zIald (n := 972) (f := m_g v) (i := 0) hx hb hK hP 1 rfl (by omega) (by decide) dX11_tenthsOf_12 ?_
      refine zTop (y := nI (y_n y)) hq.1 ?_
      refine zN_icmp_ge (tgt := 93) hx hb (by omega) (by omega) dX11_tenthsOf_13 (by decide) (fun c13_1 => ?_) (fun c13_1 => ?_)
      · skip
        refine lv_iload_n hx hb dX11_tenthsOf_93 rfl (lv_at hl 3 rfl) ?_
        exact zIret () hx hb hr hlocks hK hP hD hS dX11_tenthsOf_94 (show acc = t_te y (nI x) x2 from (by rw [hacc, t_te]; congr 1; omega))
      · skip
        refine lv_aload_n hx hb dX11_tenthsOf_16 rfl (lv_at hl 0 rfl) ?_
        refine lv_iload hx hb dX11_tenthsOf_17 (lv_at hl 4 rfl) ?_
        refine lv_iconst (v := nI (0)) hx hb dX11_tenthsOf_19 (by decide) ?_
        refine zVI [.int (nI (k)), .int (nI (0))] [] (kX11_t (o) (v) (R) (k) (0) (show (k) < 12 from by omega) (show (0) < 4 from by omega)) hx hb hml hown hts (cwV 2 hts gX11_tenthsOf_X11_t rfl rfl rfl (by decide +kernel) ⟨(Nat.le_of_ble_eq_true rfl), (Nat.le_of_ble_eq_true rfl)⟩) hK hP hD hS hA (va_recv hK hP (ci := 10) (q0 := 0) rfl rfl) rfl hl.1 rfl (Nat.le_of_ble_eq_true rfl) dX11_tenthsOf_20 ⟨(Nat.le_of_ble_eq_true rfl), (Nat.le_of_ble_eq_true rfl)⟩ (fun r_20 _ H locs hr_20 hP hD hS => ?_)
        subst hr_20
        have hP : va_P D vwCl (MW ct o v R) H := hP
        have hD : va_D A (MW ct o v R) := hD
        refine zTop (y := (y_kd y (k))) (rel_kd hq (k := k) (by omega)) ?_
        refine lv_iconst (v := nI (1)) hx hb dX11_tenthsOf_23 (by decide) ?_
        refine lv_icmp_ne (tgt := 31) hx hb dX11_tenthsOf_24 (by decide) (fun c24_2 => ?_) (fun c24_2 => ?_)
        · skip
          refine lv_iload_n hx hb dX11_tenthsOf_31 rfl (lv_at hl 2 rfl) ?_
          refine lv_if_eq (tgt := 47) hx hb dX11_tenthsOf_32 (by decide) (fun c32_3 => ?_) (fun c32_3 => ?_)
          · skip
            refine lv_iconst (v := nI (2)) hx hb dX11_tenthsOf_47 (by decide) ?_
            refine lv_iconst (v := nI (5)) hx hb dX11_tenthsOf_48 (by decide) ?_
            refine lv_aload_n hx hb dX11_tenthsOf_49 rfl (lv_at hl 0 rfl) ?_
            refine lv_iload hx hb dX11_tenthsOf_50 (lv_at hl 4 rfl) ?_
            refine lv_iconst (v := nI (3)) hx hb dX11_tenthsOf_52 (by decide) ?_
            refine zVI [.int (nI (k)), .int (nI (3))] [.int (nI (5)), .int (nI (2))] (kX11_t (o) (v) (R) (k) (3) (show (k) < 12 from by omega) (show (3) < 4 from by omega)) hx hb hml hown hts (cwV 2 hts gX11_tenthsOf_X11_t rfl rfl rfl (by decide +kernel) ⟨(Nat.le_of_ble_eq_true rfl), (Nat.le_of_ble_eq_true rfl)⟩) hK hP hD hS hA (va_recv hK hP (ci := 10) (q0 := 0) rfl rfl) rfl hl.1 rfl (Nat.le_of_ble_eq_true rfl) dX11_tenthsOf_53 ⟨(Nat.le_of_ble_eq_true rfl), (Nat.le_of_ble_eq_true rfl)⟩ (fun r_53 _ H locs hr_53 hP hD hS => ?_)
            subst hr_53
            have hP : va_P D vwCl (MW ct o v R) H := hP
            have hD : va_D A (MW ct o v R) := hD
            refine lv_isub hx hb dX11_tenthsOf_56 ?_
            refine lv_imul hx hb dX11_tenthsOf_57 ?_
            refine lv_istore (lv' := [(5, .int ((nI (2) * (nI (5) - (m_g v (5 + 4 * (k) + (3))))))), (0, .ref (o 0)), (1, .int (nI (x))), (2, .int (x2)), (3, .int (acc)), (4, .int (nI (k)))]) hx hb dX11_tenthsOf_58 hl (by decide) rfl (fun ls hl => ?_)
            refine lv_iload_n hx hb dX11_tenthsOf_60 rfl (lv_at hl 4 rfl) ?_
            refine lv_aload_n hx hb dX11_tenthsOf_61 rfl (lv_at hl 1 rfl) ?_
            refine lv_iload hx hb dX11_tenthsOf_62 (lv_at hl 5 rfl) ?_
            refine lv_iload_n hx hb dX11_tenthsOf_64 rfl (lv_at hl 2 rfl) ?_
            refine zVI [.int (nI (k)), .int (nI (x))] [.int (acc)] (kX11_isOn (o) (v) (R) (k) (x) (y) (show y_n (y) ≤ 12 ∧ y_cn (y) ≤ 4 ∧ y_rn (y) ≤ 5 from hB) (show RelI (y) (m_g v) from hq) (show (k) < y_n (y) from by omega) (show (x) < 4 from by omega)) hx hb hml hown hts (cwV 2 hts gX11_tenthsOf_X11_isOn rfl rfl rfl (by decide +kernel) ⟨(Nat.le_of_ble_eq_true rfl), (Nat.le_of_ble_eq_true rfl)⟩) hK hP hD hS hA (va_recv hK hP (ci := 10) (q0 := 0) rfl rfl) rfl hl.1 rfl (Nat.le_of_ble_eq_true rfl) dX11_tenthsOf_65 ⟨(Nat.le_of_ble_eq_true rfl), (Nat.le_of_ble_eq_true rfl)⟩ (fun r_65 _ H locs hr_65 hP hD hS => ?_)
            subst hr_65
            have hP : va_P D vwCl (MW ct o v R) H := hP
            have hD : va_D A (MW ct o v R) := hD
            refine zB_if_eq (tgt := 84) hx hb dX11_tenthsOf_68 (by decide) (fun c68_4 => ?_) (fun c68_4 => ?_)
            · skip
              refine lv_iconst (v := nI (0)) hx hb dX11_tenthsOf_84 (by decide) ?_
              refine lv_iadd hx hb dX11_tenthsOf_85 ?_
              refine lv_istore_n (lv' := [(3, .int ((acc + nI (0)))), (5, .int ((nI (2) * (nI (5) - (m_g v (5 + 4 * (k) + (3))))))), (0, .ref (o 0)), (1, .int (nI (x))), (2, .int (x2)), (4, .int (nI (k)))]) hx hb dX11_tenthsOf_86 rfl hl (by decide) rfl (fun ls hl => ?_)
              refine lv_iinc (v := nI ((k + 1))) (lv' := [(4, .int (nI ((k + 1)))), (3, .int ((acc + nI (0)))), (5, .int ((nI (2) * (nI (5) - (m_g v (5 + 4 * (k) + (3))))))), (0, .ref (o 0)), (1, .int (nI (x))), (2, .int (x2))]) hx hb dX11_tenthsOf_87 hl (k := 5) rfl (zInc _) (by decide) rfl (fun ls hl => ?_)
              refine lv_goto (tgt := 5) hx hb dX11_tenthsOf_90 (by decide) ?_
              exact ih5 ((k + 1)) ((acc + nI (0))) H locs ls (by omega) (by rw [sI, hacc, if_neg c68_4]; rfl) (by omega) hP hD hS (lv_sub hl [3, 4, 5, 1, 0] rfl)
            · skip
              refine lv_aload_n hx hb dX11_tenthsOf_71 rfl (lv_at hl 1 rfl) ?_
              refine lv_iload hx hb dX11_tenthsOf_72 (lv_at hl 5 rfl) ?_
              refine lv_iconst (v := nI (1)) hx hb dX11_tenthsOf_74 (by decide) ?_
              refine zVI [.int (nI (k)), .int (nI (1))] [.int (acc)] (kX11_t (o) (v) (R) (k) (1) (show (k) < 12 from by omega) (show (1) < 4 from by omega)) hx hb hml hown hts (cwV 2 hts gX11_tenthsOf_X11_t rfl rfl rfl (by decide +kernel) ⟨(Nat.le_of_ble_eq_true rfl), (Nat.le_of_ble_eq_true rfl)⟩) hK hP hD hS hA (va_recv hK hP (ci := 10) (q0 := 0) rfl rfl) rfl hl.1 rfl (Nat.le_of_ble_eq_true rfl) dX11_tenthsOf_75 ⟨(Nat.le_of_ble_eq_true rfl), (Nat.le_of_ble_eq_true rfl)⟩ (fun r_75 _ H locs hr_75 hP hD hS => ?_)
              subst hr_75
              have hP : va_P D vwCl (MW ct o v R) H := hP
              have hD : va_D A (MW ct o v R) := hD
              refine zTop (y := (y_w y (k))) (rel_w hq (k := k) (by omega)) ?_
              refine lv_iload hx hb dX11_tenthsOf_78 (lv_at hl 0 rfl) ?_
              refine lv_imul hx hb dX11_tenthsOf_80 ?_
              refine lv_goto (tgt := 85) hx hb dX11_tenthsOf_81 (by decide) ?_
              refine lv_iadd hx hb dX11_tenthsOf_85 ?_
              refine lv_istore_n (lv' := [(3, .int ((acc + ((y_w y (k)) * (nI (2) * (nI (5) - (m_g v (5 + 4 * (k) + (3))))))))), (5, .int ((nI (2) * (nI (5) - (m_g v (5 + 4 * (k) + (3))))))), (0, .ref (o 0)), (1, .int (nI (x))), (2, .int (x2)), (4, .int (nI (k)))]) hx hb dX11_tenthsOf_86 rfl hl (by decide) rfl (fun ls hl => ?_)
              refine lv_iinc (v := nI ((k + 1))) (lv' := [(4, .int (nI ((k + 1)))), (3, .int ((acc + ((y_w y (k)) * (nI (2) * (nI (5) - (m_g v (5 + 4 * (k) + (3))))))))), (5, .int ((nI (2) * (nI (5) - (m_g v (5 + 4 * (k) + (3))))))), (0, .ref (o 0)), (1, .int (nI (x))), (2, .int (x2))]) hx hb dX11_tenthsOf_87 hl (k := 5) rfl (zInc _) (by decide) rfl (fun ls hl => ?_)
              refine lv_goto (tgt := 5) hx hb dX11_tenthsOf_90 (by decide) ?_
              exact ih5 ((k + 1)) ((acc + ((y_w y (k)) * (nI (2) * (nI (5) - (m_g v (5 + 4 * (k) + (3)))))))) H locs ls (by omega) (by have r1 := rel_tt2 hq x2 (k := k) (by omega) c68_4 hx4; simp only [c13_1, c24_2, eq_true c32_3, if_true, if_false, not_true_eq_false, not_false_eq_true] at r1; rw [sI, hacc, if_pos c68_4, ← r1]) (by omega) hP hD hS (lv_sub hl [3, 4, 5, 1, 0] rfl)
          · skip
            refine lv_iconst (v := nI (2)) hx hb dX11_tenthsOf_35 (by decide) ?_
            refine lv_aload_n hx hb dX11_tenthsOf_36 rfl (lv_at hl 0 rfl) ?_
            refine lv_iload hx hb dX11_tenthsOf_37 (lv_at hl 4 rfl) ?_
            refine lv_iconst (v := nI (3)) hx hb dX11_tenthsOf_39 (by decide) ?_
            refine zVI [.int (nI (k)), .int (nI (3))] [.int (nI (2))] (kX11_t (o) (v) (R) (k) (3) (show (k) < 12 from by omega) (show (3) < 4 from by omega)) hx hb hml hown hts (cwV 2 hts gX11_tenthsOf_X11_t rfl rfl rfl (by decide +kernel) ⟨(Nat.le_of_ble_eq_true rfl), (Nat.le_of_ble_eq_true rfl)⟩) hK hP hD hS hA (va_recv hK hP (ci := 10) (q0 := 0) rfl rfl) rfl hl.1 rfl (Nat.le_of_ble_eq_true rfl) dX11_tenthsOf_40 ⟨(Nat.le_of_ble_eq_true rfl), (Nat.le_of_ble_eq_true rfl)⟩ (fun r_40 _ H locs hr_40 hP hD hS => ?_)
            subst hr_40
            have hP : va_P D vwCl (MW ct o v R) H := hP
            have hD : va_D A (MW ct o v R) := hD
            refine lv_imul hx hb dX11_tenthsOf_43 ?_
            refine lv_goto (tgt := 58) hx hb dX11_tenthsOf_44 (by decide) ?_
            refine lv_istore (lv' := [(5, .int ((nI (2) * (m_g v (5 + 4 * (k) + (3)))))), (0, .ref (o 0)), (1, .int (nI (x))), (2, .int (x2)), (3, .int (acc)), (4, .int (nI (k)))]) hx hb dX11_tenthsOf_58 hl (by decide) rfl (fun ls hl => ?_)
            refine lv_iload_n hx hb dX11_tenthsOf_60 rfl (lv_at hl 4 rfl) ?_
            refine lv_aload_n hx hb dX11_tenthsOf_61 rfl (lv_at hl 1 rfl) ?_
            refine lv_iload hx hb dX11_tenthsOf_62 (lv_at hl 5 rfl) ?_
            refine lv_iload_n hx hb dX11_tenthsOf_64 rfl (lv_at hl 2 rfl) ?_
            refine zVI [.int (nI (k)), .int (nI (x))] [.int (acc)] (kX11_isOn (o) (v) (R) (k) (x) (y) (show y_n (y) ≤ 12 ∧ y_cn (y) ≤ 4 ∧ y_rn (y) ≤ 5 from hB) (show RelI (y) (m_g v) from hq) (show (k) < y_n (y) from by omega) (show (x) < 4 from by omega)) hx hb hml hown hts (cwV 2 hts gX11_tenthsOf_X11_isOn rfl rfl rfl (by decide +kernel) ⟨(Nat.le_of_ble_eq_true rfl), (Nat.le_of_ble_eq_true rfl)⟩) hK hP hD hS hA (va_recv hK hP (ci := 10) (q0 := 0) rfl rfl) rfl hl.1 rfl (Nat.le_of_ble_eq_true rfl) dX11_tenthsOf_65 ⟨(Nat.le_of_ble_eq_true rfl), (Nat.le_of_ble_eq_true rfl)⟩ (fun r_65 _ H locs hr_65 hP hD hS => ?_)
            subst hr_65
            have hP : va_P D vwCl (MW ct o v R) H := hP
            have hD : va_D A (MW ct o v R) := hD
            refine zB_if_eq (tgt := 84) hx hb dX11_tenthsOf_68 (by decide) (fun c68_5 => ?_) (fun c68_5 => ?_)
            · skip
              refine lv_iconst (v := nI (0)) hx hb dX11_tenthsOf_84 (by decide) ?_
              refine lv_iadd hx hb dX11_tenthsOf_85 ?_
              refine lv_istore_n (lv' := [(3, .int ((acc + nI (0)))), (5, .int ((nI (2) * (m_g v (5 + 4 * (k) + (3)))))), (0, .ref (o 0)), (1, .int (nI (x))), (2, .int (x2)), (4, .int (nI (k)))]) hx hb dX11_tenthsOf_86 rfl hl (by decide) rfl (fun ls hl => ?_)
              refine lv_iinc (v := nI ((k + 1))) (lv' := [(4, .int (nI ((k + 1)))), (3, .int ((acc + nI (0)))), (5, .int ((nI (2) * (m_g v (5 + 4 * (k) + (3)))))), (0, .ref (o 0)), (1, .int (nI (x))), (2, .int (x2))]) hx hb dX11_tenthsOf_87 hl (k := 5) rfl (zInc _) (by decide) rfl (fun ls hl => ?_)
              refine lv_goto (tgt := 5) hx hb dX11_tenthsOf_90 (by decide) ?_
              exact ih5 ((k + 1)) ((acc + nI (0))) H locs ls (by omega) (by rw [sI, hacc, if_neg c68_5]; rfl) (by omega) hP hD hS (lv_sub hl [3, 4, 5, 1, 0] rfl)
            · skip
              refine lv_aload_n hx hb dX11_tenthsOf_71 rfl (lv_at hl 1 rfl) ?_
              refine lv_iload hx hb dX11_tenthsOf_72 (lv_at hl 5 rfl) ?_
              refine lv_iconst (v := nI (1)) hx hb dX11_tenthsOf_74 (by decide) ?_
              refine zVI [.int (nI (k)), .int (nI (1))] [.int (acc)] (kX11_t (o) (v) (R) (k) (1) (show (k) < 12 from by omega) (show (1) < 4 from by omega)) hx hb hml hown hts (cwV 2 hts gX11_tenthsOf_X11_t rfl rfl rfl (by decide +kernel) ⟨(Nat.le_of_ble_eq_true rfl), (Nat.le_of_ble_eq_true rfl)⟩) hK hP hD hS hA (va_recv hK hP (ci := 10) (q0 := 0) rfl rfl) rfl hl.1 rfl (Nat.le_of_ble_eq_true rfl) dX11_tenthsOf_75 ⟨(Nat.le_of_ble_eq_true rfl), (Nat.le_of_ble_eq_true rfl)⟩ (fun r_75 _ H locs hr_75 hP hD hS => ?_)
              subst hr_75
              have hP : va_P D vwCl (MW ct o v R) H := hP
              have hD : va_D A (MW ct o v R) := hD
              refine zTop (y := (y_w y (k))) (rel_w hq (k := k) (by omega)) ?_
              refine lv_iload hx hb dX11_tenthsOf_78 (lv_at hl 0 rfl) ?_
              refine lv_imul hx hb dX11_tenthsOf_80 ?_
              refine lv_goto (tgt := 85) hx hb dX11_tenthsOf_81 (by decide) ?_
              refine lv_iadd hx hb dX11_tenthsOf_85 ?_
              refine lv_istore_n (lv' := [(3, .int ((acc + ((y_w y (k)) * (nI (2) * (m_g v (5 + 4 * (k) + (3)))))))), (5, .int ((nI (2) * (m_g v (5 + 4 * (k) + (3)))))), (0, .ref (o 0)), (1, .int (nI (x))), (2, .int (x2)), (4, .int (nI (k)))]) hx hb dX11_tenthsOf_86 rfl hl (by decide) rfl (fun ls hl => ?_)
              refine lv_iinc (v := nI ((k + 1))) (lv' := [(4, .int (nI ((k + 1)))), (3, .int ((acc + ((y_w y (k)) * (nI (2) * (m_g v (5 + 4 * (k) + (3)))))))), (5, .int ((nI (2) * (m_g v (5 + 4 * (k) + (3)))))), (0, .ref (o 0)), (1, .int (nI (x))), (2, .int (x2))]) hx hb dX11_tenthsOf_87 hl (k := 5) rfl (zInc _) (by decide) rfl (fun ls hl => ?_)
              refine lv_goto (tgt := 5) hx hb dX11_tenthsOf_90 (by decide) ?_
              exact ih5 ((k + 1)) ((acc + ((y_w y (k)) * (nI (2) * (m_g v (5 + 4 * (k) + (3))))))) H locs ls (by omega) (by have r1 := rel_tt2 hq x2 (k := k) (by omega) c68_5 hx4; simp only [c13_1, c24_2, c32_3, if_true, if_false, not_true_eq_false, not_false_eq_true] at r1; rw [sI, hacc, if_pos c68_5, ← r1]) (by omega) hP hD hS (lv_sub hl [3, 4, 5, 1, 0] rfl)
        · skip
          refine lv_iconst (v := nI (5)) hx hb dX11_tenthsOf_27 (by decide) ?_
          refine lv_goto (tgt := 58) hx hb dX11_tenthsOf_28 (by decide) ?_
          refine lv_istore (lv' := [(5, .int (nI (5))), (0, .ref (o 0)), (1, .int (nI (x))), (2, .int (x2)), (3, .int (acc)), (4, .int (nI (k)))]) hx hb dX11_tenthsOf_58 hl (by decide) rfl (fun ls hl => ?_)
          refine lv_iload_n hx hb dX11_tenthsOf_60 rfl (lv_at hl 4 rfl) ?_
          refine lv_aload_n hx hb dX11_tenthsOf_61 rfl (lv_at hl 1 rfl) ?_
          refine lv_iload hx hb dX11_tenthsOf_62 (lv_at hl 5 rfl) ?_
          refine lv_iload_n hx hb dX11_tenthsOf_64 rfl (lv_at hl 2 rfl) ?_
          refine zVI [.int (nI (k)), .int (nI (x))] [.int (acc)] (kX11_isOn (o) (v) (R) (k) (x) (y) (show y_n (y) ≤ 12 ∧ y_cn (y) ≤ 4 ∧ y_rn (y) ≤ 5 from hB) (show RelI (y) (m_g v) from hq) (show (k) < y_n (y) from by omega) (show (x) < 4 from by omega)) hx hb hml hown hts (cwV 2 hts gX11_tenthsOf_X11_isOn rfl rfl rfl (by decide +kernel) ⟨(Nat.le_of_ble_eq_true rfl), (Nat.le_of_ble_eq_true rfl)⟩) hK hP hD hS hA (va_recv hK hP (ci := 10) (q0 := 0) rfl rfl) rfl hl.1 rfl (Nat.le_of_ble_eq_true rfl) dX11_tenthsOf_65 ⟨(Nat.le_of_ble_eq_true rfl), (Nat.le_of_ble_eq_true rfl)⟩ (fun r_65 _ H locs hr_65 hP hD hS => ?_)
          subst hr_65
          have hP : va_P D vwCl (MW ct o v R) H := hP
          have hD : va_D A (MW ct o v R) := hD
          refine zB_if_eq (tgt := 84) hx hb dX11_tenthsOf_68 (by decide) (fun c68_6 => ?_) (fun c68_6 => ?_)
          · skip
            refine lv_iconst (v := nI (0)) hx hb dX11_tenthsOf_84 (by decide) ?_
            refine lv_iadd hx hb dX11_tenthsOf_85 ?_
            refine lv_istore_n (lv' := [(3, .int ((acc + nI (0)))), (5, .int (nI (5))), (0, .ref (o 0)), (1, .int (nI (x))), (2, .int (x2)), (4, .int (nI (k)))]) hx hb dX11_tenthsOf_86 rfl hl (by decide) rfl (fun ls hl => ?_)
            refine lv_iinc (v := nI ((k + 1))) (lv' := [(4, .int (nI ((k + 1)))), (3, .int ((acc + nI (0)))), (5, .int (nI (5))), (0, .ref (o 0)), (1, .int (nI (x))), (2, .int (x2))]) hx hb dX11_tenthsOf_87 hl (k := 5) rfl (zInc _) (by decide) rfl (fun ls hl => ?_)
            refine lv_goto (tgt := 5) hx hb dX11_tenthsOf_90 (by decide) ?_
            exact ih5 ((k + 1)) ((acc + nI (0))) H locs ls (by omega) (by rw [sI, hacc, if_neg c68_6]; rfl) (by omega) hP hD hS (lv_sub hl [3, 4, 5, 1, 0] rfl)
          · skip
            refine lv_aload_n hx hb dX11_tenthsOf_71 rfl (lv_at hl 1 rfl) ?_
            refine lv_iload hx hb dX11_tenthsOf_72 (lv_at hl 5 rfl) ?_
            refine lv_iconst (v := nI (1)) hx hb dX11_tenthsOf_74 (by decide) ?_
            refine zVI [.int (nI (k)), .int (nI (1))] [.int (acc)] (kX11_t (o) (v) (R) (k) (1) (show (k) < 12 from by omega) (show (1) < 4 from by omega)) hx hb hml hown hts (cwV 2 hts gX11_tenthsOf_X11_t rfl rfl rfl (by decide +kernel) ⟨(Nat.le_of_ble_eq_true rfl), (Nat.le_of_ble_eq_true rfl)⟩) hK hP hD hS hA (va_recv hK hP (ci := 10) (q0 := 0) rfl rfl) rfl hl.1 rfl (Nat.le_of_ble_eq_true rfl) dX11_tenthsOf_75 ⟨(Nat.le_of_ble_eq_true rfl), (Nat.le_of_ble_eq_true rfl)⟩ (fun r_75 _ H locs hr_75 hP hD hS => ?_)
            subst hr_75
            have hP : va_P D vwCl (MW ct o v R) H := hP
            have hD : va_D A (MW ct o v R) := hD
            refine zTop (y := (y_w y (k))) (rel_w hq (k := k) (by omega)) ?_
            refine lv_iload hx hb dX11_tenthsOf_78 (lv_at hl 0 rfl) ?_
            refine lv_imul hx hb dX11_tenthsOf_80 ?_
            refine lv_goto (tgt := 85) hx hb dX11_tenthsOf_81 (by decide) ?_
            refine lv_iadd hx hb dX11_tenthsOf_85 ?_
            refine lv_istore_n (lv' := [(3, .int ((acc + ((y_w y (k)) * nI (5))))), (5, .int (nI (5))), (0, .ref (o 0)), (1, .int (nI (x))), (2, .int (x2)), (4, .int (nI (k)))]) hx hb dX11_tenthsOf_86 rfl hl (by decide) rfl (fun ls hl => ?_)
            refine lv_iinc (v := nI ((k + 1))) (lv' := [(4, .int (nI ((k + 1)))), (3, .int ((acc + ((y_w y (k)) * nI (5))))), (5, .int (nI (5))), (0, .ref (o 0)), (1, .int (nI (x))), (2, .int (x2))]) hx hb dX11_tenthsOf_87 hl (k := 5) rfl (zInc _) (by decide) rfl (fun ls hl => ?_)
            refine lv_goto (tgt := 5) hx hb dX11_tenthsOf_90 (by decide) ?_
            exact ih5 ((k + 1)) ((acc + ((y_w y (k)) * nI (5)))) H locs ls (by omega) (by have r1 := rel_tt2 hq x2 (k := k) (by omega) c68_6 hx4; simp only [c13_1, eq_true c24_2, if_true, if_false, not_true_eq_false, not_false_eq_true] at r1; rw [sI, hacc, if_pos c68_6, ← r1]) (by omega) hP hD hS (lv_sub hl [3, 4, 5, 1, 0] rfl)
  exact lp5 ((y_n y - (0)) + 1) (0) (nI 0) H locs ls (by omega) rfl (Nat.lt_succ_self _) hP hD hS (lv_sub hl [2, 3, 4, 1, 0] rfl)
abbrev rmX11_loadOf : Room := { frames := 3, cells := 0, slots := 0, locals := 69 }
set_option maxHeartbeats 4000000 in
set_option maxRecDepth 100000 in
theorem kX11_loadOf {D : va_G} {ct : Nat → ClassId} {l : Launch} (o : Nat → Nat) (v : MS) (R : va_W) (x : Nat) (x2 : Int32) (y : YS) (hy : yI y) (hq : RelI y (m_g v)) (hx4 : x < y_cn y) : MF D ct l yX11_loadOf wsX11_loadOf rmX11_loadOf (MW ct o v R) [.ref (o 0), .int (nI (x)), .int (x2)] (fun r0 (_ : Unit) => r0 = t_ld y x x2) (fun _ : Unit => MW ct o v R) := by
  refine MFof (cc := cX11_loadOf) (maxL := 3) (ret := (some .float)) (by decide) rfl (Nat.le_of_ble_eq_true rfl) ?_
  intro p e s m args below meth c A H locs F hP hK hD hS hA ls hl
  obtain ⟨hx, hb, hr, hlocks, hml, hown, hts, hin⟩ := F
  have hl : lv_has ls 3 [(0, .ref (o 0)), (1, .int (nI (x))), (2, .int (x2))] := hl
  have hB : y_n y ≤ 12 ∧ y_cn y ≤ 4 ∧ y_rn y ≤ 5 := ⟨hy.1, hy.2.1, hy.2.2.1⟩
  have hn : y_n y ≤ 12 := hy.1
  have hcn : y_cn y ≤ 4 := hy.2.1
  have hrn : y_rn y ≤ 5 := hy.2.2.1
  refine lv_aload_n hx hb dX11_loadOf_0 rfl (lv_at hl 0 rfl) ?_
  refine lv_iload_n hx hb dX11_loadOf_1 rfl (lv_at hl 1 rfl) ?_
  refine lv_iload_n hx hb dX11_loadOf_2 rfl (lv_at hl 2 rfl) ?_
  refine zVI [.int (nI (x)), .int (x2)] [] (kX11_tenthsOf (o) (v) (R) (x) (x2) (y) (show y_n (y) ≤ 12 ∧ y_cn (y) ≤ 4 ∧ y_rn (y) ≤ 5 from hB) (show RelI (y) (m_g v) from hq) (show (x) < 4 from by omega)) hx hb hml hown hts (cwV 2 hts gX11_loadOf_X11_tenthsOf rfl rfl rfl (by decide +kernel) ⟨(Nat.le_of_ble_eq_true rfl), (Nat.le_of_ble_eq_true rfl)⟩) hK hP hD hS hA (va_recv hK hP (ci := 10) (q0 := 0) rfl rfl) rfl hl.1 rfl (Nat.le_of_ble_eq_true rfl) dX11_loadOf_3 ⟨(Nat.le_of_ble_eq_true rfl), (Nat.le_of_ble_eq_true rfl)⟩ (fun r_3 _ H locs hr_3 hP hD hS => ?_)
  subst hr_3
  have hP : va_P D vwCl (MW ct o v R) H := hP
  have hD : va_D A (MW ct o v R) := hD
  refine lv_i2f hx hb dX11_loadOf_6 ?_
  refine lv_ldcf (v := 1092616192) hx hb hown (hts (.constantFloat RX11 73 (1092616192)) (by decide +kernel)) dX11_loadOf_7 ?_
  refine lv_fdiv hx hb dX11_loadOf_9 (nF_n32 (ld_nF hy hx4)) ?_
  exact zFret () hx hb hr hlocks hK hP hD hS dX11_loadOf_10 (show (FP.fdiv (FP.i2f ((t_te (y) (nI (x)) (x2)))) 1092616192) = t_ld y x x2 from rfl)
abbrev rmX11_creaks : Room := { frames := 4, cells := 0, slots := 0, locals := 91 }
set_option maxHeartbeats 4000000 in
set_option maxRecDepth 100000 in
theorem kX11_creaks {D : va_G} {ct : Nat → ClassId} {l : Launch} (o : Nat → Nat) (v : MS) (R : va_W) (x : Nat) (x2 : Int32) (y : YS) (hy : yI y) (hq : RelI y (m_g v)) (hx4 : x < y_cn y) : MI D ct l yX11_creaks wsX11_creaks rmX11_creaks (MW ct o v R) [.ref (o 0), .int (nI (x)), .int (x2)] (fun r0 (_ : Unit) => r0 = bI (p_creak y x x2)) (fun _ : Unit => MW ct o v R) := by
  refine MIof (cc := cX11_creaks) (maxL := 3) (ret := (some .boolean)) (by decide) rfl (Nat.le_of_ble_eq_true rfl) ?_
  intro p e s m args below meth c A H locs F hP hK hD hS hA ls hl
  obtain ⟨hx, hb, hr, hlocks, hml, hown, hts, hin⟩ := F
  have hl : lv_has ls 3 [(0, .ref (o 0)), (1, .int (nI (x))), (2, .int (x2))] := hl
  have hB : y_n y ≤ 12 ∧ y_cn y ≤ 4 ∧ y_rn y ≤ 5 := ⟨hy.1, hy.2.1, hy.2.2.1⟩
  have hn : y_n y ≤ 12 := hy.1
  have hcn : y_cn y ≤ 4 := hy.2.1
  have hrn : y_rn y ≤ 5 := hy.2.2.1
  refine lv_aload_n hx hb dX11_creaks_0 rfl (lv_at hl 0 rfl) ?_
  refine lv_iload_n hx hb dX11_creaks_1 rfl (lv_at hl 1 rfl) ?_
  refine lv_iload_n hx hb dX11_creaks_2 rfl (lv_at hl 2 rfl) ?_
  refine zVF [.int (nI (x)), .int (x2)] [] (kX11_loadOf (o) (v) (R) (x) (x2) (y) (show yI (y) from hy) (show RelI (y) (m_g v) from hq) (show (x) < y_cn (y) from by omega)) hx hb hml hown hts (cwV 2 hts gX11_creaks_X11_loadOf rfl rfl rfl (by decide +kernel) ⟨(Nat.le_of_ble_eq_true rfl), (Nat.le_of_ble_eq_true rfl)⟩) hK hP hD hS hA (va_recv hK hP (ci := 10) (q0 := 0) rfl rfl) rfl hl.1 rfl (Nat.le_of_ble_eq_true rfl) dX11_creaks_3 ⟨(Nat.le_of_ble_eq_true rfl), (Nat.le_of_ble_eq_true rfl)⟩ (fun r_3 _ H locs hr_3 hP hD hS => ?_)
  subst hr_3
  have hP : va_P D vwCl (MW ct o v R) H := hP
  have hD : va_D A (MW ct o v R) := hD
  refine lv_aload_n hx hb dX11_creaks_6 rfl (lv_at hl 0 rfl) ?_
  refine lv_iload_n hx hb dX11_creaks_7 rfl (lv_at hl 1 rfl) ?_
  refine zVI [.int (nI (x))] [.float ((t_ld (y) (x) (x2)))] (kX11_strength (o) (v) (R) (x) (y) (show y_n (y) ≤ 12 ∧ y_cn (y) ≤ 4 ∧ y_rn (y) ≤ 5 from hB) (show RelI (y) (m_g v) from hq) (show (x) < y_cn (y) from by omega)) hx hb hml hown hts (cwV 1 hts gX11_creaks_X11_strength rfl rfl rfl (by decide +kernel) ⟨(Nat.le_of_ble_eq_true rfl), (Nat.le_of_ble_eq_true rfl)⟩) hK hP hD hS hA (va_recv hK hP (ci := 10) (q0 := 0) rfl rfl) rfl hl.1 rfl (Nat.le_of_ble_eq_true rfl) dX11_creaks_8 ⟨(Nat.le_of_ble_eq_true rfl), (Nat.le_of_ble_eq_true rfl)⟩ (fun r_8 _ H locs hr_8 hP hD hS => ?_)
  subst hr_8
  have hP : va_P D vwCl (MW ct o v R) H := hP
  have hD : va_D A (MW ct o v R) := hD
  refine lv_i2f hx hb dX11_creaks_11 ?_
  refine lv_fcmp hx hb dX11_creaks_12 ?_
  refine lv_if_le (tgt := 20) hx hb dX11_creaks_13 (by decide) (fun c13_1 => ?_) (fun c13_1 => ?_)
  · skip
    refine lv_iconst (v := nI (0)) hx hb dX11_creaks_20 (by decide) ?_
    exact zZret () (by decide) hx hb hr hlocks hK hP hD hS dX11_creaks_21 (show nI (0) = bI (p_creak y x x2) from (by simp only [bI, c13_1, p_in, p_worn, p_wi, p_creak, p_le0, p_lt1, p_rng, not_true_eq_false, not_false_eq_true, if_true, if_false, and_true, true_and, and_false, false_and, or_true, true_or, or_false, false_or, and_self, or_self, iff_true, true_iff, iff_false, false_iff, decide_eq_true_eq, decide_true, decide_false, Int32.add_zero, Nat.add_zero, ne_eq, Bool.false_eq_true, eq_self]))
  · skip
    refine lv_iconst (v := nI (1)) hx hb dX11_creaks_16 (by decide) ?_
    refine lv_goto (tgt := 21) hx hb dX11_creaks_17 (by decide) ?_
    exact zZret () (by decide) hx hb hr hlocks hK hP hD hS dX11_creaks_21 (show nI (1) = bI (p_creak y x x2) from (by simp only [bI, c13_1, p_in, p_worn, p_wi, p_creak, p_le0, p_lt1, p_rng, not_true_eq_false, not_false_eq_true, if_true, if_false, and_true, true_and, and_false, false_and, or_true, true_or, or_false, false_or, and_self, or_self, iff_true, true_iff, iff_false, false_iff, decide_eq_true_eq, decide_true, decide_false, Int32.add_zero, Nat.add_zero, ne_eq, Bool.false_eq_true, eq_self]))
abbrev rmX11_creaking : Room := { frames := 5, cells := 0, slots := 0, locals := 113 }
set_option maxHeartbeats 4000000 in
set_option maxRecDepth 100000 in
theorem kX11_creaking {D : va_G} {ct : Nat → ClassId} {l : Launch} (o : Nat → Nat) (v : MS) (R : va_W) (x : Nat) (y : YS) (hy : yI y) (hq : RelI y (m_g v)) (hx4 : x < y_cn y) : MI D ct l yX11_creaking wsX11_creaking rmX11_creaking (MW ct o v R) [.ref (o 0), .int (nI (x))] (fun r0 (_ : Unit) => r0 = nI (t_cr y x)) (fun _ : Unit => MW ct o v R) := by
  refine MIof (cc := cX11_creaking) (maxL := 2) (ret := (some .int)) (by decide) rfl (Nat.le_of_ble_eq_true rfl) ?_
  intro p e s m args below meth c A H locs F hP hK hD hS hA ls hl
  obtain ⟨hx, hb, hr, hlocks, hml, hown, hts, hin⟩ := F
  have hl : lv_has ls 2 [(0, .ref (o 0)), (1, .int (nI (x)))] := hl
  have hB : y_n y ≤ 12 ∧ y_cn y ≤ 4 ∧ y_rn y ≤ 5 := ⟨hy.1, hy.2.1, hy.2.2.1⟩
  have hn : y_n y ≤ 12 := hy.1
  have hcn : y_cn y ≤ 4 := hy.2.1
  have hrn : y_rn y ≤ 5 := hy.2.2.1
  refine lv_aload_n hx hb dX11_creaking_0 rfl (lv_at hl 0 rfl) ?_
  refine lv_iload_n hx hb dX11_creaking_1 rfl (lv_at hl 1 rfl) ?_
  refine lv_iconst (v := nI (0)) hx hb dX11_creaking_2 (by decide) ?_
  refine zVI [.int (nI (x)), .int (nI (0))] [] (kX11_creaks (o) (v) (R) (x) (nI (0)) (y) (show yI (y) from hy) (show RelI (y) (m_g v) from hq) (show (x) < y_cn (y) from by omega)) hx hb hml hown hts (cwV 2 hts gX11_creaking_X11_creaks rfl rfl rfl (by decide +kernel) ⟨(Nat.le_of_ble_eq_true rfl), (Nat.le_of_ble_eq_true rfl)⟩) hK hP hD hS hA (va_recv hK hP (ci := 10) (q0 := 0) rfl rfl) rfl hl.1 rfl (Nat.le_of_ble_eq_true rfl) dX11_creaking_3 ⟨(Nat.le_of_ble_eq_true rfl), (Nat.le_of_ble_eq_true rfl)⟩ (fun r_3 _ H locs hr_3 hP hD hS => ?_)
  subst hr_3
  have hP : va_P D vwCl (MW ct o v R) H := hP
  have hD : va_D A (MW ct o v R) := hD
  refine zB_if_eq (tgt := 13) hx hb dX11_creaking_6 (by decide) (fun c6_1 => ?_) (fun c6_1 => ?_)
  · skip
    refine lv_iconst (v := nI (0)) hx hb dX11_creaking_13 (by decide) ?_
    refine lv_aload_n hx hb dX11_creaking_14 rfl (lv_at hl 0 rfl) ?_
    refine lv_iload_n hx hb dX11_creaking_15 rfl (lv_at hl 1 rfl) ?_
    refine lv_iconst (v := nI (1)) hx hb dX11_creaking_16 (by decide) ?_
    refine zVI [.int (nI (x)), .int (nI (1))] [.int (nI (0))] (kX11_creaks (o) (v) (R) (x) (nI (1)) (y) (show yI (y) from hy) (show RelI (y) (m_g v) from hq) (show (x) < y_cn (y) from by omega)) hx hb hml hown hts (cwV 2 hts gX11_creaking_X11_creaks rfl rfl rfl (by decide +kernel) ⟨(Nat.le_of_ble_eq_true rfl), (Nat.le_of_ble_eq_true rfl)⟩) hK hP hD hS hA (va_recv hK hP (ci := 10) (q0 := 0) rfl rfl) rfl hl.1 rfl (Nat.le_of_ble_eq_true rfl) dX11_creaking_17 ⟨(Nat.le_of_ble_eq_true rfl), (Nat.le_of_ble_eq_true rfl)⟩ (fun r_17 _ H locs hr_17 hP hD hS => ?_)
    subst hr_17
    have hP : va_P D vwCl (MW ct o v R) H := hP
    have hD : va_D A (MW ct o v R) := hD
    refine zB_if_eq (tgt := 27) hx hb dX11_creaking_20 (by decide) (fun c20_2 => ?_) (fun c20_2 => ?_)
    · skip
      refine lv_iconst (v := nI (0)) hx hb dX11_creaking_27 (by decide) ?_
      refine zNadd hx hb dX11_creaking_28 ?_
      exact zIret () hx hb hr hlocks hK hP hD hS dX11_creaking_29 (show nI ((0 + 0)) = nI (t_cr y x) from (by simp only [t_cr, c6_1, c20_2, p_in, p_worn, p_wi, p_creak, p_le0, p_lt1, p_rng, not_true_eq_false, not_false_eq_true, if_true, if_false, and_true, true_and, and_false, false_and, or_true, true_or, or_false, false_or, and_self, or_self, iff_true, true_iff, iff_false, false_iff, decide_eq_true_eq, decide_true, decide_false, Int32.add_zero, Nat.add_zero, ne_eq, Bool.false_eq_true, eq_self]))
    · skip
      refine lv_iconst (v := nI (1)) hx hb dX11_creaking_23 (by decide) ?_
      refine lv_goto (tgt := 28) hx hb dX11_creaking_24 (by decide) ?_
      refine zNadd hx hb dX11_creaking_28 ?_
      exact zIret () hx hb hr hlocks hK hP hD hS dX11_creaking_29 (show nI ((0 + 1)) = nI (t_cr y x) from (by simp only [t_cr, c6_1, c20_2, p_in, p_worn, p_wi, p_creak, p_le0, p_lt1, p_rng, not_true_eq_false, not_false_eq_true, if_true, if_false, and_true, true_and, and_false, false_and, or_true, true_or, or_false, false_or, and_self, or_self, iff_true, true_iff, iff_false, false_iff, decide_eq_true_eq, decide_true, decide_false, Int32.add_zero, Nat.add_zero, ne_eq, Bool.false_eq_true, eq_self]))
  · skip
    refine lv_iconst (v := nI (1)) hx hb dX11_creaking_9 (by decide) ?_
    refine lv_goto (tgt := 14) hx hb dX11_creaking_10 (by decide) ?_
    refine lv_aload_n hx hb dX11_creaking_14 rfl (lv_at hl 0 rfl) ?_
    refine lv_iload_n hx hb dX11_creaking_15 rfl (lv_at hl 1 rfl) ?_
    refine lv_iconst (v := nI (1)) hx hb dX11_creaking_16 (by decide) ?_
    refine zVI [.int (nI (x)), .int (nI (1))] [.int (nI (1))] (kX11_creaks (o) (v) (R) (x) (nI (1)) (y) (show yI (y) from hy) (show RelI (y) (m_g v) from hq) (show (x) < y_cn (y) from by omega)) hx hb hml hown hts (cwV 2 hts gX11_creaking_X11_creaks rfl rfl rfl (by decide +kernel) ⟨(Nat.le_of_ble_eq_true rfl), (Nat.le_of_ble_eq_true rfl)⟩) hK hP hD hS hA (va_recv hK hP (ci := 10) (q0 := 0) rfl rfl) rfl hl.1 rfl (Nat.le_of_ble_eq_true rfl) dX11_creaking_17 ⟨(Nat.le_of_ble_eq_true rfl), (Nat.le_of_ble_eq_true rfl)⟩ (fun r_17 _ H locs hr_17 hP hD hS => ?_)
    subst hr_17
    have hP : va_P D vwCl (MW ct o v R) H := hP
    have hD : va_D A (MW ct o v R) := hD
    refine zB_if_eq (tgt := 27) hx hb dX11_creaking_20 (by decide) (fun c20_3 => ?_) (fun c20_3 => ?_)
    · skip
      refine lv_iconst (v := nI (0)) hx hb dX11_creaking_27 (by decide) ?_
      refine zNadd hx hb dX11_creaking_28 ?_
      exact zIret () hx hb hr hlocks hK hP hD hS dX11_creaking_29 (show nI ((1 + 0)) = nI (t_cr y x) from (by simp only [t_cr, c6_1, c20_3, p_in, p_worn, p_wi, p_creak, p_le0, p_lt1, p_rng, not_true_eq_false, not_false_eq_true, if_true, if_false, and_true, true_and, and_false, false_and, or_true, true_or, or_false, false_or, and_self, or_self, iff_true, true_iff, iff_false, false_iff, decide_eq_true_eq, decide_true, decide_false, Int32.add_zero, Nat.add_zero, ne_eq, Bool.false_eq_true, eq_self]))
    · skip
      refine lv_iconst (v := nI (1)) hx hb dX11_creaking_23 (by decide) ?_
      refine lv_goto (tgt := 28) hx hb dX11_creaking_24 (by decide) ?_
      refine zNadd hx hb dX11_creaking_28 ?_
      exact zIret () hx hb hr hlocks hK hP hD hS dX11_creaking_29 (show nI ((1 + 1)) = nI (t_cr y x) from (by simp only [t_cr, c6_1, c20_3, p_in, p_worn, p_wi, p_creak, p_le0, p_lt1, p_rng, not_true_eq_false, not_false_eq_true, if_true, if_false, and_true, true_and, and_false, false_and, or_true, true_or, or_false, false_or, and_self, or_self, iff_true, true_iff, iff_false, false_iff, decide_eq_true_eq, decide_true, decide_false, Int32.add_zero, Nat.add_zero, ne_eq, Bool.false_eq_true, eq_self]))
abbrev rmX11_wearOf : Room := { frames := 0, cells := 0, slots := 0, locals := 0 }
theorem in_X11_wearOf_X11 : ∀ w ∈ u_ws RX11 TX11 19, w ∈ wsX11_wearOf := by decide +kernel
set_option maxHeartbeats 4000000 in
set_option maxRecDepth 100000 in
theorem kX11_wearOf {D : va_G} {ct : Nat → ClassId} {l : Launch} (o : Nat → Nat) (v : MS) (R : va_W) (x : Nat) (x2 : Int32) (hx4 : x < 4) : MF D ct l yX11_wearOf wsX11_wearOf rmX11_wearOf (MW ct o v R) [.ref (o 0), .int (nI (x)), .int (x2)] (fun r0 (_ : Unit) => r0 = m_fl v (wix x x2)) (fun _ : Unit => MW ct o v R) := by
  refine MFof (cc := cX11_wearOf) (maxL := 3) (ret := (some .float)) (by decide) rfl (Nat.le_of_ble_eq_true rfl) ?_
  intro p e s m args below meth c A H locs F hP hK hD hS hA ls hl
  obtain ⟨hx, hb, hr, hlocks, hml, hown, hts, hin⟩ := F
  have hl : lv_has ls 3 [(0, .ref (o 0)), (1, .int (nI (x))), (2, .int (x2))] := hl
  have h_X11 := in_X11_wearOf_X11
  have f13 := hts (.fieldLink RX11 13 "CartArgumentsModel" "floats" "[F") (by decide +kernel)
  refine lv_aload_n hx hb dX11_wearOf_0 rfl (lv_at hl 0 rfl) ?_
  refine va_get (ci := 10) (v := .ref (o 2)) hx hb hts h_X11 hown hK hP 0 rfl rfl 1 (by decide) f13 (fun _ h9 => h9) rfl dX11_wearOf_1 ?_
  refine lv_iconst (v := nI (2)) hx hb dX11_wearOf_4 (by decide) ?_
  refine lv_iload_n hx hb dX11_wearOf_5 rfl (lv_at hl 1 rfl) ?_
  refine zNmul hx hb dX11_wearOf_6 ?_
  refine lv_iload_n hx hb dX11_wearOf_7 rfl (lv_at hl 2 rfl) ?_
  refine lv_if_eq (tgt := 15) hx hb dX11_wearOf_8 (by decide) (fun c8_1 => ?_) (fun c8_1 => ?_)
  · skip
    refine lv_iconst (v := nI (0)) hx hb dX11_wearOf_15 (by decide) ?_
    refine zNadd hx hb dX11_wearOf_16 ?_
    refine zFald (n := 108) (f := m_fl v) (i := ((2 * x) + 0)) hx hb hK hP 2 rfl (by omega) (by decide) dX11_wearOf_17 ?_
    exact zFret () hx hb hr hlocks hK hP hD hS dX11_wearOf_18 (show (m_fl v (((2 * x) + 0))) = m_fl v (wix x x2) from (by simp only [wix, eq_true c8_1, p_in, p_worn, p_wi, p_creak, p_le0, p_lt1, p_rng, not_true_eq_false, not_false_eq_true, if_true, if_false, and_true, true_and, and_false, false_and, or_true, true_or, or_false, false_or, and_self, or_self, iff_true, true_iff, iff_false, false_iff, decide_eq_true_eq, decide_true, decide_false, Int32.add_zero, Nat.add_zero, ne_eq, Bool.false_eq_true, eq_self]))
  · skip
    refine lv_iconst (v := nI (1)) hx hb dX11_wearOf_11 (by decide) ?_
    refine lv_goto (tgt := 16) hx hb dX11_wearOf_12 (by decide) ?_
    refine zNadd hx hb dX11_wearOf_16 ?_
    refine zFald (n := 108) (f := m_fl v) (i := ((2 * x) + 1)) hx hb hK hP 2 rfl (by omega) (by decide) dX11_wearOf_17 ?_
    exact zFret () hx hb hr hlocks hK hP hD hS dX11_wearOf_18 (show (m_fl v (((2 * x) + 1))) = m_fl v (wix x x2) from (by simp only [wix, c8_1, p_in, p_worn, p_wi, p_creak, p_le0, p_lt1, p_rng, not_true_eq_false, not_false_eq_true, if_true, if_false, and_true, true_and, and_false, false_and, or_true, true_or, or_false, false_or, and_self, or_self, iff_true, true_iff, iff_false, false_iff, decide_eq_true_eq, decide_true, decide_false, Int32.add_zero, Nat.add_zero, ne_eq, Bool.false_eq_true, eq_self]))
abbrev rmX11_isWorn : Room := { frames := 1, cells := 0, slots := 0, locals := 22 }
set_option maxHeartbeats 4000000 in
set_option maxRecDepth 100000 in
theorem kX11_isWorn {D : va_G} {ct : Nat → ClassId} {l : Launch} (o : Nat → Nat) (v : MS) (R : va_W) (x : Nat) (x2 : Int32) (hx4 : x < 4) : MI D ct l yX11_isWorn wsX11_isWorn rmX11_isWorn (MW ct o v R) [.ref (o 0), .int (nI (x)), .int (x2)] (fun r0 (_ : Unit) => r0 = bI (p_worn (m_fl v (wix x x2)))) (fun _ : Unit => MW ct o v R) := by
  refine MIof (cc := cX11_isWorn) (maxL := 3) (ret := (some .boolean)) (by decide) rfl (Nat.le_of_ble_eq_true rfl) ?_
  intro p e s m args below meth c A H locs F hP hK hD hS hA ls hl
  obtain ⟨hx, hb, hr, hlocks, hml, hown, hts, hin⟩ := F
  have hl : lv_has ls 3 [(0, .ref (o 0)), (1, .int (nI (x))), (2, .int (x2))] := hl
  refine lv_aload_n hx hb dX11_isWorn_0 rfl (lv_at hl 0 rfl) ?_
  refine lv_iload_n hx hb dX11_isWorn_1 rfl (lv_at hl 1 rfl) ?_
  refine lv_iload_n hx hb dX11_isWorn_2 rfl (lv_at hl 2 rfl) ?_
  refine zVF [.int (nI (x)), .int (x2)] [] (kX11_wearOf (o) (v) (R) (x) (x2) (show (x) < 4 from by omega)) hx hb hml hown hts (cwV 2 hts gX11_isWorn_X11_wearOf rfl rfl rfl (by decide +kernel) ⟨(Nat.le_of_ble_eq_true rfl), (Nat.le_of_ble_eq_true rfl)⟩) hK hP hD hS hA (va_recv hK hP (ci := 10) (q0 := 0) rfl rfl) rfl hl.1 rfl (Nat.le_of_ble_eq_true rfl) dX11_isWorn_3 ⟨(Nat.le_of_ble_eq_true rfl), (Nat.le_of_ble_eq_true rfl)⟩ (fun r_3 _ H locs hr_3 hP hD hS => ?_)
  subst hr_3
  have hP : va_P D vwCl (MW ct o v R) H := hP
  have hD : va_D A (MW ct o v R) := hD
  refine lv_fconst1 hx hb dX11_isWorn_6 ?_
  refine lv_fcmp hx hb dX11_isWorn_7 ?_
  refine lv_if_lt (tgt := 15) hx hb dX11_isWorn_8 (by decide) (fun c8_1 => ?_) (fun c8_1 => ?_)
  · skip
    refine lv_iconst (v := nI (0)) hx hb dX11_isWorn_15 (by decide) ?_
    exact zZret () (by decide) hx hb hr hlocks hK hP hD hS dX11_isWorn_16 (show nI (0) = bI (p_worn (m_fl v (wix x x2))) from (by simp only [bI, c8_1, p_in, p_worn, p_wi, p_creak, p_le0, p_lt1, p_rng, not_true_eq_false, not_false_eq_true, if_true, if_false, and_true, true_and, and_false, false_and, or_true, true_or, or_false, false_or, and_self, or_self, iff_true, true_iff, iff_false, false_iff, decide_eq_true_eq, decide_true, decide_false, Int32.add_zero, Nat.add_zero, ne_eq, Bool.false_eq_true, eq_self]))
  · skip
    refine lv_iconst (v := nI (1)) hx hb dX11_isWorn_11 (by decide) ?_
    refine lv_goto (tgt := 16) hx hb dX11_isWorn_12 (by decide) ?_
    exact zZret () (by decide) hx hb hr hlocks hK hP hD hS dX11_isWorn_16 (show nI (1) = bI (p_worn (m_fl v (wix x x2))) from (by simp only [bI, c8_1, p_in, p_worn, p_wi, p_creak, p_le0, p_lt1, p_rng, not_true_eq_false, not_false_eq_true, if_true, if_false, and_true, true_and, and_false, false_and, or_true, true_or, or_false, false_or, and_self, or_self, iff_true, true_iff, iff_false, false_iff, decide_eq_true_eq, decide_true, decide_false, Int32.add_zero, Nat.add_zero, ne_eq, Bool.false_eq_true, eq_self]))
abbrev rmX11_size : Room := { frames := 0, cells := 0, slots := 0, locals := 0 }
set_option maxHeartbeats 4000000 in
set_option maxRecDepth 100000 in
theorem kX11_size {D : va_G} {ct : Nat → ClassId} {l : Launch}  (R : va_W) (x1 : Int32) : MI D ct l yX11_size wsX11_size rmX11_size (R) [.int (x1)] (fun r0 (_ : Unit) => r0 = q_sz x1) (fun _ : Unit => R) := by
  refine MIof (cc := cX11_size) (maxL := 1) (ret := (some .int)) (by decide) rfl (Nat.le_of_ble_eq_true rfl) ?_
  intro p e s m args below meth c A H locs F hP hK hD hS hA ls hl
  obtain ⟨hx, hb, hr, hlocks, hml, hown, hts, hin⟩ := F
  have hl : lv_has ls 1 [(0, .int (x1))] := hl
  refine lv_iload_n hx hb dX11_size_0 rfl (lv_at hl 0 rfl) ?_
  refine lv_if_ge (tgt := 9) hx hb dX11_size_1 (by decide) (fun c1_1 => ?_) (fun c1_1 => ?_)
  · skip
    refine lv_iload_n hx hb dX11_size_9 rfl (lv_at hl 0 rfl) ?_
    exact zIret () hx hb hr hlocks hK hP hD hS dX11_size_10 (show x1 = q_sz x1 from (by simp only [q_sz, c1_1, p_in, p_worn, p_wi, p_creak, p_le0, p_lt1, p_rng, not_true_eq_false, not_false_eq_true, if_true, if_false, and_true, true_and, and_false, false_and, or_true, true_or, or_false, false_or, and_self, or_self, iff_true, true_iff, iff_false, false_iff, decide_eq_true_eq, decide_true, decide_false, Int32.add_zero, Nat.add_zero, ne_eq, Bool.false_eq_true, eq_self]))
  · skip
    refine lv_iload_n hx hb dX11_size_4 rfl (lv_at hl 0 rfl) ?_
    refine lv_ineg hx hb dX11_size_5 ?_
    refine lv_goto (tgt := 10) hx hb dX11_size_6 (by decide) ?_
    exact zIret () hx hb hr hlocks hK hP hD hS dX11_size_10 (show (-x1) = q_sz x1 from (by simp only [q_sz, c1_1, p_in, p_worn, p_wi, p_creak, p_le0, p_lt1, p_rng, not_true_eq_false, not_false_eq_true, if_true, if_false, and_true, true_and, and_false, false_and, or_true, true_or, or_false, false_or, and_self, or_self, iff_true, true_iff, iff_false, false_iff, decide_eq_true_eq, decide_true, decide_false, Int32.add_zero, Nat.add_zero, ne_eq, Bool.false_eq_true, eq_self]))
abbrev rmX11_imbalance : Room := { frames := 3, cells := 0, slots := 0, locals := 69 }
set_option maxHeartbeats 4000000 in
set_option maxRecDepth 100000 in
theorem kX11_imbalance {D : va_G} {ct : Nat → ClassId} {l : Launch} (o : Nat → Nat) (v : MS) (R : va_W) (x : Nat) (y : YS) (hB : y_n y ≤ 12 ∧ y_cn y ≤ 4 ∧ y_rn y ≤ 5) (hq : RelI y (m_g v)) (hx4 : x < 4) : MI D ct l yX11_imbalance wsX11_imbalance rmX11_imbalance (MW ct o v R) [.ref (o 0), .int (nI (x))] (fun r0 (_ : Unit) => r0 = t_im y (nI x)) (fun _ : Unit => MW ct o v R) := by
  refine MIof (cc := cX11_imbalance) (maxL := 2) (ret := (some .int)) (by decide) rfl (Nat.le_of_ble_eq_true rfl) ?_
  intro p e s m args below meth c A H locs F hP hK hD hS hA ls hl
  obtain ⟨hx, hb, hr, hlocks, hml, hown, hts, hin⟩ := F
  have hl : lv_has ls 2 [(0, .ref (o 0)), (1, .int (nI (x)))] := hl
  have hn : y_n y ≤ 12 := hB.1
  have hcn : y_cn y ≤ 4 := hB.2.1
  have hrn : y_rn y ≤ 5 := hB.2.2
  refine lv_aload_n hx hb dX11_imbalance_0 rfl (lv_at hl 0 rfl) ?_
  refine lv_iload_n hx hb dX11_imbalance_1 rfl (lv_at hl 1 rfl) ?_
  refine lv_iconst (v := nI (0)) hx hb dX11_imbalance_2 (by decide) ?_
  refine zVI [.int (nI (x)), .int (nI (0))] [] (kX11_tenthsOf (o) (v) (R) (x) (nI (0)) (y) (show y_n (y) ≤ 12 ∧ y_cn (y) ≤ 4 ∧ y_rn (y) ≤ 5 from hB) (show RelI (y) (m_g v) from hq) (show (x) < 4 from by omega)) hx hb hml hown hts (cwV 2 hts gX11_imbalance_X11_tenthsOf rfl rfl rfl (by decide +kernel) ⟨(Nat.le_of_ble_eq_true rfl), (Nat.le_of_ble_eq_true rfl)⟩) hK hP hD hS hA (va_recv hK hP (ci := 10) (q0 := 0) rfl rfl) rfl hl.1 rfl (Nat.le_of_ble_eq_true rfl) dX11_imbalance_3 ⟨(Nat.le_of_ble_eq_true rfl), (Nat.le_of_ble_eq_true rfl)⟩ (fun r_3 _ H locs hr_3 hP hD hS => ?_)
  subst hr_3
  have hP : va_P D vwCl (MW ct o v R) H := hP
  have hD : va_D A (MW ct o v R) := hD
  refine lv_aload_n hx hb dX11_imbalance_6 rfl (lv_at hl 0 rfl) ?_
  refine lv_iload_n hx hb dX11_imbalance_7 rfl (lv_at hl 1 rfl) ?_
  refine lv_iconst (v := nI (1)) hx hb dX11_imbalance_8 (by decide) ?_
  refine zVI [.int (nI (x)), .int (nI (1))] [.int ((t_te (y) (nI (x)) (nI (0))))] (kX11_tenthsOf (o) (v) (R) (x) (nI (1)) (y) (show y_n (y) ≤ 12 ∧ y_cn (y) ≤ 4 ∧ y_rn (y) ≤ 5 from hB) (show RelI (y) (m_g v) from hq) (show (x) < 4 from by omega)) hx hb hml hown hts (cwV 2 hts gX11_imbalance_X11_tenthsOf rfl rfl rfl (by decide +kernel) ⟨(Nat.le_of_ble_eq_true rfl), (Nat.le_of_ble_eq_true rfl)⟩) hK hP hD hS hA (va_recv hK hP (ci := 10) (q0 := 0) rfl rfl) rfl hl.1 rfl (Nat.le_of_ble_eq_true rfl) dX11_imbalance_9 ⟨(Nat.le_of_ble_eq_true rfl), (Nat.le_of_ble_eq_true rfl)⟩ (fun r_9 _ H locs hr_9 hP hD hS => ?_)
  subst hr_9
  have hP : va_P D vwCl (MW ct o v R) H := hP
  have hD : va_D A (MW ct o v R) := hD
  refine lv_isub hx hb dX11_imbalance_12 ?_
  refine zSI [.int (((t_te (y) (nI (x)) (nI (0))) - (t_te (y) (nI (x)) (nI (1)))))] [] (kX11_size (MW ct o v R) (((t_te (y) (nI (x)) (nI (0))) - (t_te (y) (nI (x)) (nI (1)))))) hx hb hml hown hts (va_cwS 1 hts gX11_imbalance_X11_size rfl rfl rfl (by decide +kernel) ⟨(Nat.le_of_ble_eq_true rfl), (Nat.le_of_ble_eq_true rfl)⟩) hK hP hD hS hA rfl hl.1 rfl (Nat.le_of_ble_eq_true rfl) dX11_imbalance_13 ⟨(Nat.le_of_ble_eq_true rfl), (Nat.le_of_ble_eq_true rfl)⟩ (fun r_13 _ H locs hr_13 hP hD hS => ?_)
  subst hr_13
  have hP : va_P D vwCl (MW ct o v R) H := hP
  have hD : va_D A (MW ct o v R) := hD
  exact zIret () hx hb hr hlocks hK hP hD hS dX11_imbalance_16 (show (q_sz (((t_te (y) (nI (x)) (nI (0))) - (t_te (y) (nI (x)) (nI (1)))))) = t_im y (nI x) from (sz_im y (nI x)))
abbrev rmX11_tollOf : Room := { frames := 3, cells := 0, slots := 0, locals := 69 }
set_option maxHeartbeats 4000000 in
set_option maxRecDepth 100000 in
theorem kX11_tollOf {D : va_G} {ct : Nat → ClassId} {l : Launch} (o : Nat → Nat) (v : MS) (R : va_W) (x : Nat) (r : Nat) (y : YS) (hy : yI y) (hq : RelI y (m_g v)) (hx4 : x < y_cn y) (hr5 : r < y_rn y) : MF D ct l yX11_tollOf wsX11_tollOf rmX11_tollOf (MW ct o v R) [.ref (o 0), .int (nI (x)), .int (nI (r))] (fun r0 (_ : Unit) => r0 = t_toll y x r) (fun _ : Unit => MW ct o v R) := by
  refine MFof (cc := cX11_tollOf) (maxL := 3) (ret := (some .float)) (by decide) rfl (Nat.le_of_ble_eq_true rfl) ?_
  intro p e s m args below meth c A H locs F hP hK hD hS hA ls hl
  obtain ⟨hx, hb, hr, hlocks, hml, hown, hts, hin⟩ := F
  have hl : lv_has ls 3 [(0, .ref (o 0)), (1, .int (nI (x))), (2, .int (nI (r)))] := hl
  have hB : y_n y ≤ 12 ∧ y_cn y ≤ 4 ∧ y_rn y ≤ 5 := ⟨hy.1, hy.2.1, hy.2.2.1⟩
  have hn : y_n y ≤ 12 := hy.1
  have hcn : y_cn y ≤ 4 := hy.2.1
  have hrn : y_rn y ≤ 5 := hy.2.2.1
  refine lv_aload_n hx hb dX11_tollOf_0 rfl (lv_at hl 0 rfl) ?_
  refine lv_iload_n hx hb dX11_tollOf_1 rfl (lv_at hl 1 rfl) ?_
  refine lv_iconst (v := nI (1)) hx hb dX11_tollOf_2 (by decide) ?_
  refine lv_iconst (v := nI (1)) hx hb dX11_tollOf_3 (by decide) ?_
  refine zVI [.int (nI (x)), .int (nI (1)), .int (nI (1))] [] (kX11_onCart_w (o) (v) (R) (x) (nI (1)) (y) (show y_n (y) ≤ 12 ∧ y_cn (y) ≤ 4 ∧ y_rn (y) ≤ 5 from hB) (show RelI (y) (m_g v) from hq) (show (x) < 4 from by omega)) hx hb hml hown hts (cwV 3 hts gX11_tollOf_X11_onCart rfl rfl rfl (by decide +kernel) ⟨(Nat.le_of_ble_eq_true rfl), (Nat.le_of_ble_eq_true rfl)⟩) hK hP hD hS hA (va_recv hK hP (ci := 10) (q0 := 0) rfl rfl) rfl hl.1 rfl (Nat.le_of_ble_eq_true rfl) dX11_tollOf_4 ⟨(Nat.le_of_ble_eq_true rfl), (Nat.le_of_ble_eq_true rfl)⟩ (fun r_4 _ H locs hr_4 hP hD hS => ?_)
  subst hr_4
  have hP : va_P D vwCl (MW ct o v R) H := hP
  have hD : va_D A (MW ct o v R) := hD
  refine lv_i2f hx hb dX11_tollOf_7 ?_
  refine lv_aload_n hx hb dX11_tollOf_8 rfl (lv_at hl 0 rfl) ?_
  refine lv_iload_n hx hb dX11_tollOf_9 rfl (lv_at hl 2 rfl) ?_
  refine lv_iconst (v := nI (2)) hx hb dX11_tollOf_10 (by decide) ?_
  refine zVI [.int (nI (r)), .int (nI (2))] [.float ((FP.i2f ((t_wo (y) (nI (x)) (nI (1))))))] (kX11_r (o) (v) (R) (r) (2) (show (r) < 5 from by omega) (show (2) < 4 from by omega)) hx hb hml hown hts (cwV 2 hts gX11_tollOf_X11_r rfl rfl rfl (by decide +kernel) ⟨(Nat.le_of_ble_eq_true rfl), (Nat.le_of_ble_eq_true rfl)⟩) hK hP hD hS hA (va_recv hK hP (ci := 10) (q0 := 0) rfl rfl) rfl hl.1 rfl (Nat.le_of_ble_eq_true rfl) dX11_tollOf_11 ⟨(Nat.le_of_ble_eq_true rfl), (Nat.le_of_ble_eq_true rfl)⟩ (fun r_11 _ H locs hr_11 hP hD hS => ?_)
  subst hr_11
  have hP : va_P D vwCl (MW ct o v R) H := hP
  have hD : va_D A (MW ct o v R) := hD
  refine zTop (y := (y_ra y (r))) (hq.2.2.2.2.2 r hr5).2.2 ?_
  refine lv_i2f hx hb dX11_tollOf_14 ?_
  refine lv_fmul hx hb dX11_tollOf_15 (nF_n32 (toll1_nF hy hr5)) ?_
  refine lv_ldcf (v := 1048576000) hx hb hown (hts (.constantFloat RX11 141 (1048576000)) (by decide +kernel)) dX11_tollOf_16 ?_
  refine lv_fmul hx hb dX11_tollOf_18 (nF_n32 (toll_nF hy hr5)) ?_
  exact zFret () hx hb hr hlocks hK hP hD hS dX11_tollOf_19 (show (FP.fmul (FP.fmul (FP.i2f ((t_wo (y) (nI (x)) (nI (1))))) (FP.i2f ((y_ra y (r))))) 1048576000) = t_toll y x r from rfl)
